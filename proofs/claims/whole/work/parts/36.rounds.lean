/-! the reference's rounds: findNone, findSingle, comes -/
/-- d rounds are done, and i patterns of the next -/
def RI (n : Nat) (H : Nat → Nat) (P : Nat → Prop) (i d : Nat) (r : Nat → Int32) : Prop := (∀ q, q < 40 → r q = bP (¬ r q = 0)) ∧ (∀ q, q < n → H q < d → r q = bP (P q)) ∧ ∀ q, q < i → H q ≤ d → r q = bP (P q)
section RIS
variable {k f s g : Nat → Int32} {n i d : Nat} {H : Nat → Nat} {P : Nat → Prop} {B : (Nat → Prop) → Nat → Prop} {r : Nat → Int32}
theorem bP_n0 (p : Prop) : (¬ bP p = 0) = p := by rw [bP_eq, Classical.not_not]
theorem RI_step (hW : WG k f s g n H) (hB : ∀ p, p < n → ∀ F F' : Nat → Prop, (∀ c, c < 40 → Ch k f s g p c → F c = F' c) → B F p = B F' p) (hP : ∀ p, p < n → (P p ↔ B P p)) (hi : i < n) (h : RI n H P i d r) : RI n H P (i + 1) d (upd r i (bP (B (fun c => ¬ r c = 0) i))) := by
  obtain ⟨h1, h2, h3⟩ := h
  have hn := hW.1
  have key : H i ≤ d → bP (B (fun c => ¬ r c = 0) i) = bP (P i) := fun hd => by
    refine bP_congr ?_
    rw [hP i hi, hB i hi (fun c => ¬ r c = 0) P (fun c hc hch => ?_)]
    obtain ⟨c1, c2⟩ := Ch_Hg hW hi hc hch
    show (¬ r c = 0) = P c
    rw [h2 c c1 (by omega), bP_n0]
  refine ⟨fun q hq => ?_, fun q hq hd => ?_, fun q hq hd => ?_⟩
  · by_cases e : q = i
    · rw [e, pk_us, bP_n0]
    · rw [pk_un e]
      exact h1 q hq
  · by_cases e : q = i
    · rw [e, pk_us]
      rw [e] at hd
      exact key (by omega)
    · rw [pk_un e]
      exact h2 q hq hd
  · by_cases e : q = i
    · rw [e, pk_us]
      rw [e] at hd
      exact key hd
    · rw [pk_un e]
      exact h3 q (by omega) hd
theorem RI_next (h : RI n H P n d r) : RI n H P 0 (d + 1) r := ⟨h.1, fun q hq hd => h.2.2 q hq (by omega), fun q hq => absurd hq (by omega)⟩
theorem RI_0 (hW : WG k f s g n H) (h : ∀ q, q < 40 → r q = 0) : RI n H P 0 0 r := ⟨fun q hq => by rw [h q hq]; exact (bP_f (fun z => z rfl)).symm, fun q _ hd => absurd hd (by omega), fun q hq => absurd hq (by omega)⟩
theorem RI_end (hH : ∀ q, q < n → H q ≤ 32) (h : RI n H P 0 42 r) : ∀ p, p < n → r p = bP (P p) := fun p hp => h.2.1 p hp (by have := hH p hp; omega)
theorem nar_b (p : Prop) : vp_nar .boolean (bP p) = bP p := by
  by_cases h : p
  · rw [bP_t h]; rfl
  · rw [bP_f h]; rfl
end RIS
theorem DN {x : Int32} {c : Nat} {F : Nat → Prop} (hc4 : c < 40) (hc : x = nI c) (h : ∃ c, c < 40 ∧ x = nI c ∧ F c) : F c := by
  obtain ⟨c2, h1, h2, h3⟩ := h
  rw [hc] at h2
  cases nI_i hc4 h1 h2
  exact h3
theorem DM {x : Int32} {F : Nat → Prop} (hx : x < 0) (h : ∃ c, c < 40 ∧ x = nI c ∧ F c) : False := by
  obtain ⟨c2, h1, h2, h3⟩ := h
  rw [h2] at hx
  exact i32_lt0 (by omega) hx
set_option maxHeartbeats 4000000 in
set_option maxRecDepth 100000 in
theorem lp_R_findNone_in {Z : vg_Z} (hst : vg_St Z) {G : vg_G} {post : Option Value → va_W → Prop} (C : vg_C Z M_R_findNone G) (hQ : vg_Rt Z G 0 0 post) (ad : Nat → Nat) (σ : sg) (n : Nat) (H : Nat → Nat) (hG : GrR σ n H) (hH : ∀ q, q < n → H q ≤ 32)  (d : Nat) (hk : ∀ r, RI n H (SN (σ.1 118) (σ.1 119) (σ.1 120) (σ.1 122)) n d r → vg_K Z M_R_findNone G 0 0 261 [(1, .int (nI d)), (0, .ref (ad 117))] [] (wd Z ad (sI σ 133 r))) : ∀ (n2 i : Nat) (r : Nat → Int32) (hlt : n < i + n2) (hi : i ≤ n), RI n H (SN (σ.1 118) (σ.1 119) (σ.1 120) (σ.1 122)) i d r → vg_K Z M_R_findNone G 0 0 31 [(2, .int (nI i)), (1, .int (nI d)), (0, .ref (ad 117))] [] (wd Z ad (sI σ 133 r)) := by
  have hn := hG.1.1.1
  intro n2
  induction n2 with
  | zero =>
    intro i r hlt hi
    exact absurd hlt (by omega)
  | succ n2 ih =>
    intro i r hlt hi hI
    have S : i < n → ∀ X : Int32, X = bP ((bN (σ.1 118) (σ.1 119) (σ.1 120) (σ.1 122)) (fun c => ¬ r c = 0) i) → vg_K Z M_R_findNone G 0 0 255 [(2, .int (nI i)), (1, .int (nI d)), (0, .ref (ad 117))] [] (wd Z ad (sI σ 133 (upd r i X))) := by
      intro hin X hX
      refine vg_iinc (v := nI (i + 1)) C d_R_findNone_255 rfl (nI_1 i) (Nat.le_of_ble_eq_true rfl) rfl ?_
      refine vg_goto (tgt := 31) C d_R_findNone_258 (by decide) ?_
      exact ih (i + 1) _ (by omega) (by omega) (by rw [hX]; exact RI_step hG.1.1 (bN_cg hG.1.1) (fun p hp => SN_un hG.1.1 hH hp) hin hI)
    refine vg_iload_n C d_R_findNone_31 rfl ?_
    refine vg_aload_n C d_R_findNone_32 rfl ?_
    refine wr_get C d_R_findNone_33 f_R_73 rfl rfl rfl rfl ?_
    rw [sI_ne _ (by decide), hG.2]
    refine vg_icmp_ge (tgt := 261) C d_R_findNone_36 (by decide) (fun c_36 => ?_) (fun c_36 => ?_)
    · rw [nI_leI (by omega) (by omega)] at c_36
      refine vg_lv [1, 2] rfl ?_
      exact hk r (by rw [show n = i by omega] at hI ⊢; exact hI)
    · rw [nI_leI (by omega) (by omega)] at c_36
      refine vg_aload_n C d_R_findNone_39 rfl ?_
      refine wr_get C d_R_findNone_40 f_R_13 rfl rfl rfl rfl ?_
      refine vg_iload_n C d_R_findNone_43 rfl ?_
      refine wr_iald C d_R_findNone_44 rfl rfl (by exact vp_in_nI (by omega) (by decide)) ?_
      rw [nI_clamp (by omega), sI_ne _ (by decide)]
      refine vg_istore_n C d_R_findNone_45 (Nat.le_of_ble_eq_true rfl) rfl ?_
      refine vg_aload_n C d_R_findNone_46 rfl ?_
      refine wr_get C d_R_findNone_47 f_R_16 rfl rfl rfl rfl ?_
      refine vg_iload_n C d_R_findNone_50 rfl ?_
      refine wr_iald C d_R_findNone_51 rfl rfl (by exact vp_in_nI (by omega) (by decide)) ?_
      rw [nI_clamp (by omega), sI_ne _ (by decide)]
      refine vg_istore C d_R_findNone_52 (Nat.le_of_ble_eq_true rfl) rfl ?_
      refine vg_aload_n C d_R_findNone_54 rfl ?_
      refine wr_get C d_R_findNone_55 f_R_7 rfl rfl rfl rfl ?_
      refine vg_iload_n C d_R_findNone_58 rfl ?_
      refine wr_iald C d_R_findNone_59 rfl rfl (by exact vp_in_nI (by omega) (by decide)) ?_
      rw [nI_clamp (by omega), sI_ne _ (by decide)]
      obtain ⟨j_60, hj_60, es_60⟩ := hG.1.2 i (by omega)
      rcases (show j_60 = 0 ∨ j_60 = 1 ∨ j_60 = 2 ∨ j_60 = 3 ∨ j_60 = 4 ∨ j_60 = 5 ∨ j_60 = 6 ∨ j_60 = 7 ∨ j_60 = 8 ∨ j_60 = 9 ∨ j_60 = 10 by omega) with rfl | rfl | rfl | rfl | rfl | rfl | rfl | rfl | rfl | rfl | rfl
      · skip
        rw [es_60]
        refine vg_tabIn (tgt := 120) C d_R_findNone_60 (by decide) (by decide) rfl (by decide) ?_
        refine vg_aload_n C d_R_findNone_120 rfl ?_
        refine wr_get C d_R_findNone_121 f_R_61 rfl rfl rfl rfl ?_
        refine vg_iload_n C d_R_findNone_124 rfl ?_
        refine vg_iconst (v := 1) C d_R_findNone_125 (by decide) ?_
        refine wr_zast C d_R_findNone_126 rfl rfl (by exact vp_in_nI (by omega) (by decide)) ?_
        rw [nI_clamp (by omega)]
        refine vg_goto (tgt := 255) C d_R_findNone_127 (by decide) ?_
        refine vg_lv [2, 3, 4] rfl ?_
        (try rw [nI_clamp (show i < 2 ^ 31 by omega)])
        rw [sI_sI, sI_at]
        refine S (by omega) _ ?_
        first
          | exact (bP_t ((bN_0 es_60).mpr trivial)).symm
          | exact (bP_t ((bN_2 es_60).mpr trivial)).symm
          | exact (bP_f (fun h => (bN_1 es_60).mp h)).symm
          | exact (bP_f (fun h => (bN_3 es_60).mp h)).symm
          | exact (bP_f (fun h => (bN_8 es_60).mp h)).symm
          | exact (bP_f (fun h => (bN_9 es_60).mp h)).symm
          | exact (bP_t ((bN_4 es_60).mpr (And.intro c_141 c_151))).symm
          | exact (bP_f (fun h => absurd c_141 ((bN_4 es_60).mp h).1)).symm
          | exact (bP_f (fun h => absurd c_151 ((bN_4 es_60).mp h).2)).symm
          | exact (bP_t ((bN_5 es_60).mpr (And.intro c_141 c_151))).symm
          | exact (bP_f (fun h => absurd c_141 ((bN_5 es_60).mp h).1)).symm
          | exact (bP_f (fun h => absurd c_151 ((bN_5 es_60).mp h).2)).symm
          | exact (bP_t ((bN_6 es_60).mpr (Or.inl c_174))).symm
          | exact (bP_t ((bN_6 es_60).mpr (Or.inr c_184))).symm
          | exact (bP_f (fun h => ((bN_6 es_60).mp h).elim (fun z => absurd c_174 z) (fun z => absurd c_184 z))).symm
          | (rw [hI.1 _ ca, nar_b]; exact bP_congr (bN_7 (F := fun c => ¬ r c = 0) es_60).symm)
          | exact (bP_t ((bN_10 es_60).mpr (Exists.intro c (And.intro (by omega) (And.intro (by rw [ot_e (by omega) hfd]; exact hgc) c_236))))).symm
          | exact (bP_f (fun h => absurd c_236 (DN (show c < 40 by omega) (by rw [ot_e (by omega) hfd]; exact hgc) ((bN_10 es_60).mp h)))).symm
          | exact (bP_f (fun h => DM (by rw [ot_e (by omega) hfd]; exact c_222) ((bN_10 es_60).mp h))).symm
      · skip
        rw [es_60]
        refine vg_tabIn (tgt := 248) C d_R_findNone_60 (by decide) (by decide) rfl (by decide) ?_
        refine vg_aload_n C d_R_findNone_248 rfl ?_
        refine wr_get C d_R_findNone_249 f_R_61 rfl rfl rfl rfl ?_
        refine vg_iload_n C d_R_findNone_252 rfl ?_
        refine vg_iconst (v := 0) C d_R_findNone_253 (by decide) ?_
        refine wr_zast C d_R_findNone_254 rfl rfl (by exact vp_in_nI (by omega) (by decide)) ?_
        refine vg_lv [2, 3, 4] rfl ?_
        (try rw [nI_clamp (show i < 2 ^ 31 by omega)])
        rw [sI_sI, sI_at]
        refine S (by omega) _ ?_
        first
          | exact (bP_t ((bN_0 es_60).mpr trivial)).symm
          | exact (bP_t ((bN_2 es_60).mpr trivial)).symm
          | exact (bP_f (fun h => (bN_1 es_60).mp h)).symm
          | exact (bP_f (fun h => (bN_3 es_60).mp h)).symm
          | exact (bP_f (fun h => (bN_8 es_60).mp h)).symm
          | exact (bP_f (fun h => (bN_9 es_60).mp h)).symm
          | exact (bP_t ((bN_4 es_60).mpr (And.intro c_141 c_151))).symm
          | exact (bP_f (fun h => absurd c_141 ((bN_4 es_60).mp h).1)).symm
          | exact (bP_f (fun h => absurd c_151 ((bN_4 es_60).mp h).2)).symm
          | exact (bP_t ((bN_5 es_60).mpr (And.intro c_141 c_151))).symm
          | exact (bP_f (fun h => absurd c_141 ((bN_5 es_60).mp h).1)).symm
          | exact (bP_f (fun h => absurd c_151 ((bN_5 es_60).mp h).2)).symm
          | exact (bP_t ((bN_6 es_60).mpr (Or.inl c_174))).symm
          | exact (bP_t ((bN_6 es_60).mpr (Or.inr c_184))).symm
          | exact (bP_f (fun h => ((bN_6 es_60).mp h).elim (fun z => absurd c_174 z) (fun z => absurd c_184 z))).symm
          | (rw [hI.1 _ ca, nar_b]; exact bP_congr (bN_7 (F := fun c => ¬ r c = 0) es_60).symm)
          | exact (bP_t ((bN_10 es_60).mpr (Exists.intro c (And.intro (by omega) (And.intro (by rw [ot_e (by omega) hfd]; exact hgc) c_236))))).symm
          | exact (bP_f (fun h => absurd c_236 (DN (show c < 40 by omega) (by rw [ot_e (by omega) hfd]; exact hgc) ((bN_10 es_60).mp h)))).symm
          | exact (bP_f (fun h => DM (by rw [ot_e (by omega) hfd]; exact c_222) ((bN_10 es_60).mp h))).symm
      · skip
        rw [es_60]
        refine vg_tabIn (tgt := 120) C d_R_findNone_60 (by decide) (by decide) rfl (by decide) ?_
        refine vg_aload_n C d_R_findNone_120 rfl ?_
        refine wr_get C d_R_findNone_121 f_R_61 rfl rfl rfl rfl ?_
        refine vg_iload_n C d_R_findNone_124 rfl ?_
        refine vg_iconst (v := 1) C d_R_findNone_125 (by decide) ?_
        refine wr_zast C d_R_findNone_126 rfl rfl (by exact vp_in_nI (by omega) (by decide)) ?_
        rw [nI_clamp (by omega)]
        refine vg_goto (tgt := 255) C d_R_findNone_127 (by decide) ?_
        refine vg_lv [2, 3, 4] rfl ?_
        (try rw [nI_clamp (show i < 2 ^ 31 by omega)])
        rw [sI_sI, sI_at]
        refine S (by omega) _ ?_
        first
          | exact (bP_t ((bN_0 es_60).mpr trivial)).symm
          | exact (bP_t ((bN_2 es_60).mpr trivial)).symm
          | exact (bP_f (fun h => (bN_1 es_60).mp h)).symm
          | exact (bP_f (fun h => (bN_3 es_60).mp h)).symm
          | exact (bP_f (fun h => (bN_8 es_60).mp h)).symm
          | exact (bP_f (fun h => (bN_9 es_60).mp h)).symm
          | exact (bP_t ((bN_4 es_60).mpr (And.intro c_141 c_151))).symm
          | exact (bP_f (fun h => absurd c_141 ((bN_4 es_60).mp h).1)).symm
          | exact (bP_f (fun h => absurd c_151 ((bN_4 es_60).mp h).2)).symm
          | exact (bP_t ((bN_5 es_60).mpr (And.intro c_141 c_151))).symm
          | exact (bP_f (fun h => absurd c_141 ((bN_5 es_60).mp h).1)).symm
          | exact (bP_f (fun h => absurd c_151 ((bN_5 es_60).mp h).2)).symm
          | exact (bP_t ((bN_6 es_60).mpr (Or.inl c_174))).symm
          | exact (bP_t ((bN_6 es_60).mpr (Or.inr c_184))).symm
          | exact (bP_f (fun h => ((bN_6 es_60).mp h).elim (fun z => absurd c_174 z) (fun z => absurd c_184 z))).symm
          | (rw [hI.1 _ ca, nar_b]; exact bP_congr (bN_7 (F := fun c => ¬ r c = 0) es_60).symm)
          | exact (bP_t ((bN_10 es_60).mpr (Exists.intro c (And.intro (by omega) (And.intro (by rw [ot_e (by omega) hfd]; exact hgc) c_236))))).symm
          | exact (bP_f (fun h => absurd c_236 (DN (show c < 40 by omega) (by rw [ot_e (by omega) hfd]; exact hgc) ((bN_10 es_60).mp h)))).symm
          | exact (bP_f (fun h => DM (by rw [ot_e (by omega) hfd]; exact c_222) ((bN_10 es_60).mp h))).symm
      · skip
        rw [es_60]
        refine vg_tabIn (tgt := 248) C d_R_findNone_60 (by decide) (by decide) rfl (by decide) ?_
        refine vg_aload_n C d_R_findNone_248 rfl ?_
        refine wr_get C d_R_findNone_249 f_R_61 rfl rfl rfl rfl ?_
        refine vg_iload_n C d_R_findNone_252 rfl ?_
        refine vg_iconst (v := 0) C d_R_findNone_253 (by decide) ?_
        refine wr_zast C d_R_findNone_254 rfl rfl (by exact vp_in_nI (by omega) (by decide)) ?_
        refine vg_lv [2, 3, 4] rfl ?_
        (try rw [nI_clamp (show i < 2 ^ 31 by omega)])
        rw [sI_sI, sI_at]
        refine S (by omega) _ ?_
        first
          | exact (bP_t ((bN_0 es_60).mpr trivial)).symm
          | exact (bP_t ((bN_2 es_60).mpr trivial)).symm
          | exact (bP_f (fun h => (bN_1 es_60).mp h)).symm
          | exact (bP_f (fun h => (bN_3 es_60).mp h)).symm
          | exact (bP_f (fun h => (bN_8 es_60).mp h)).symm
          | exact (bP_f (fun h => (bN_9 es_60).mp h)).symm
          | exact (bP_t ((bN_4 es_60).mpr (And.intro c_141 c_151))).symm
          | exact (bP_f (fun h => absurd c_141 ((bN_4 es_60).mp h).1)).symm
          | exact (bP_f (fun h => absurd c_151 ((bN_4 es_60).mp h).2)).symm
          | exact (bP_t ((bN_5 es_60).mpr (And.intro c_141 c_151))).symm
          | exact (bP_f (fun h => absurd c_141 ((bN_5 es_60).mp h).1)).symm
          | exact (bP_f (fun h => absurd c_151 ((bN_5 es_60).mp h).2)).symm
          | exact (bP_t ((bN_6 es_60).mpr (Or.inl c_174))).symm
          | exact (bP_t ((bN_6 es_60).mpr (Or.inr c_184))).symm
          | exact (bP_f (fun h => ((bN_6 es_60).mp h).elim (fun z => absurd c_174 z) (fun z => absurd c_184 z))).symm
          | (rw [hI.1 _ ca, nar_b]; exact bP_congr (bN_7 (F := fun c => ¬ r c = 0) es_60).symm)
          | exact (bP_t ((bN_10 es_60).mpr (Exists.intro c (And.intro (by omega) (And.intro (by rw [ot_e (by omega) hfd]; exact hgc) c_236))))).symm
          | exact (bP_f (fun h => absurd c_236 (DN (show c < 40 by omega) (by rw [ot_e (by omega) hfd]; exact hgc) ((bN_10 es_60).mp h)))).symm
          | exact (bP_f (fun h => DM (by rw [ot_e (by omega) hfd]; exact c_222) ((bN_10 es_60).mp h))).symm
      · skip
        rw [es_60]
        refine vg_tabIn (tgt := 130) C d_R_findNone_60 (by decide) (by decide) rfl (by decide) ?_
        obtain ⟨ca, ea, -⟩ := Ch_f hG.1.1 (p := i) (by omega) (by rw [es_60]; decide)
        rw [ea]
        obtain ⟨cb, eb, -⟩ := Ch_s hG.1.1 (p := i) (by omega) (by rw [es_60]; decide)
        rw [eb]
        refine vg_aload_n C d_R_findNone_130 rfl ?_
        refine wr_get C d_R_findNone_131 f_R_61 rfl rfl rfl rfl ?_
        refine vg_iload_n C d_R_findNone_134 rfl ?_
        refine vg_aload_n C d_R_findNone_135 rfl ?_
        refine wr_get C d_R_findNone_136 f_R_61 rfl rfl rfl rfl ?_
        refine vg_iload_n C d_R_findNone_139 rfl ?_
        refine wr_zald C d_R_findNone_140 rfl rfl (by exact vp_in_nI (by omega) (by decide)) ?_
        rw [nI_clamp (by omega), sI_at]
        refine vg_if_eq (tgt := 158) C d_R_findNone_141 (by decide) (fun c_141 => ?_) (fun c_141 => ?_)
        · skip
          refine vg_iconst (v := 0) C d_R_findNone_158 (by decide) ?_
          refine wr_zast C d_R_findNone_159 rfl rfl (by exact vp_in_nI (by omega) (by decide)) ?_
          rw [nI_clamp (by omega)]
          refine vg_goto (tgt := 255) C d_R_findNone_160 (by decide) ?_
          refine vg_lv [2, 3, 4] rfl ?_
          (try rw [nI_clamp (show i < 2 ^ 31 by omega)])
          rw [sI_sI, sI_at]
          refine S (by omega) _ ?_
          first
            | exact (bP_t ((bN_0 es_60).mpr trivial)).symm
            | exact (bP_t ((bN_2 es_60).mpr trivial)).symm
            | exact (bP_f (fun h => (bN_1 es_60).mp h)).symm
            | exact (bP_f (fun h => (bN_3 es_60).mp h)).symm
            | exact (bP_f (fun h => (bN_8 es_60).mp h)).symm
            | exact (bP_f (fun h => (bN_9 es_60).mp h)).symm
            | exact (bP_t ((bN_4 es_60).mpr (And.intro c_141 c_151))).symm
            | exact (bP_f (fun h => absurd c_141 ((bN_4 es_60).mp h).1)).symm
            | exact (bP_f (fun h => absurd c_151 ((bN_4 es_60).mp h).2)).symm
            | exact (bP_t ((bN_5 es_60).mpr (And.intro c_141 c_151))).symm
            | exact (bP_f (fun h => absurd c_141 ((bN_5 es_60).mp h).1)).symm
            | exact (bP_f (fun h => absurd c_151 ((bN_5 es_60).mp h).2)).symm
            | exact (bP_t ((bN_6 es_60).mpr (Or.inl c_174))).symm
            | exact (bP_t ((bN_6 es_60).mpr (Or.inr c_184))).symm
            | exact (bP_f (fun h => ((bN_6 es_60).mp h).elim (fun z => absurd c_174 z) (fun z => absurd c_184 z))).symm
            | (rw [hI.1 _ ca, nar_b]; exact bP_congr (bN_7 (F := fun c => ¬ r c = 0) es_60).symm)
            | exact (bP_t ((bN_10 es_60).mpr (Exists.intro c (And.intro (by omega) (And.intro (by rw [ot_e (by omega) hfd]; exact hgc) c_236))))).symm
            | exact (bP_f (fun h => absurd c_236 (DN (show c < 40 by omega) (by rw [ot_e (by omega) hfd]; exact hgc) ((bN_10 es_60).mp h)))).symm
            | exact (bP_f (fun h => DM (by rw [ot_e (by omega) hfd]; exact c_222) ((bN_10 es_60).mp h))).symm
        · skip
          refine vg_aload_n C d_R_findNone_144 rfl ?_
          refine wr_get C d_R_findNone_145 f_R_61 rfl rfl rfl rfl ?_
          refine vg_iload C d_R_findNone_148 rfl ?_
          refine wr_zald C d_R_findNone_150 rfl rfl (by exact vp_in_nI (by omega) (by decide)) ?_
          rw [nI_clamp (by omega), sI_at]
          refine vg_if_eq (tgt := 158) C d_R_findNone_151 (by decide) (fun c_151 => ?_) (fun c_151 => ?_)
          · skip
            refine vg_iconst (v := 0) C d_R_findNone_158 (by decide) ?_
            refine wr_zast C d_R_findNone_159 rfl rfl (by exact vp_in_nI (by omega) (by decide)) ?_
            rw [nI_clamp (by omega)]
            refine vg_goto (tgt := 255) C d_R_findNone_160 (by decide) ?_
            refine vg_lv [2, 3, 4] rfl ?_
            (try rw [nI_clamp (show i < 2 ^ 31 by omega)])
            rw [sI_sI, sI_at]
            refine S (by omega) _ ?_
            first
              | exact (bP_t ((bN_0 es_60).mpr trivial)).symm
              | exact (bP_t ((bN_2 es_60).mpr trivial)).symm
              | exact (bP_f (fun h => (bN_1 es_60).mp h)).symm
              | exact (bP_f (fun h => (bN_3 es_60).mp h)).symm
              | exact (bP_f (fun h => (bN_8 es_60).mp h)).symm
              | exact (bP_f (fun h => (bN_9 es_60).mp h)).symm
              | exact (bP_t ((bN_4 es_60).mpr (And.intro c_141 c_151))).symm
              | exact (bP_f (fun h => absurd c_141 ((bN_4 es_60).mp h).1)).symm
              | exact (bP_f (fun h => absurd c_151 ((bN_4 es_60).mp h).2)).symm
              | exact (bP_t ((bN_5 es_60).mpr (And.intro c_141 c_151))).symm
              | exact (bP_f (fun h => absurd c_141 ((bN_5 es_60).mp h).1)).symm
              | exact (bP_f (fun h => absurd c_151 ((bN_5 es_60).mp h).2)).symm
              | exact (bP_t ((bN_6 es_60).mpr (Or.inl c_174))).symm
              | exact (bP_t ((bN_6 es_60).mpr (Or.inr c_184))).symm
              | exact (bP_f (fun h => ((bN_6 es_60).mp h).elim (fun z => absurd c_174 z) (fun z => absurd c_184 z))).symm
              | (rw [hI.1 _ ca, nar_b]; exact bP_congr (bN_7 (F := fun c => ¬ r c = 0) es_60).symm)
              | exact (bP_t ((bN_10 es_60).mpr (Exists.intro c (And.intro (by omega) (And.intro (by rw [ot_e (by omega) hfd]; exact hgc) c_236))))).symm
              | exact (bP_f (fun h => absurd c_236 (DN (show c < 40 by omega) (by rw [ot_e (by omega) hfd]; exact hgc) ((bN_10 es_60).mp h)))).symm
              | exact (bP_f (fun h => DM (by rw [ot_e (by omega) hfd]; exact c_222) ((bN_10 es_60).mp h))).symm
          · skip
            refine vg_iconst (v := 1) C d_R_findNone_154 (by decide) ?_
            refine vg_goto (tgt := 159) C d_R_findNone_155 (by decide) ?_
            refine wr_zast C d_R_findNone_159 rfl rfl (by exact vp_in_nI (by omega) (by decide)) ?_
            rw [nI_clamp (by omega)]
            refine vg_goto (tgt := 255) C d_R_findNone_160 (by decide) ?_
            refine vg_lv [2, 3, 4] rfl ?_
            (try rw [nI_clamp (show i < 2 ^ 31 by omega)])
            rw [sI_sI, sI_at]
            refine S (by omega) _ ?_
            first
              | exact (bP_t ((bN_0 es_60).mpr trivial)).symm
              | exact (bP_t ((bN_2 es_60).mpr trivial)).symm
              | exact (bP_f (fun h => (bN_1 es_60).mp h)).symm
              | exact (bP_f (fun h => (bN_3 es_60).mp h)).symm
              | exact (bP_f (fun h => (bN_8 es_60).mp h)).symm
              | exact (bP_f (fun h => (bN_9 es_60).mp h)).symm
              | exact (bP_t ((bN_4 es_60).mpr (And.intro c_141 c_151))).symm
              | exact (bP_f (fun h => absurd c_141 ((bN_4 es_60).mp h).1)).symm
              | exact (bP_f (fun h => absurd c_151 ((bN_4 es_60).mp h).2)).symm
              | exact (bP_t ((bN_5 es_60).mpr (And.intro c_141 c_151))).symm
              | exact (bP_f (fun h => absurd c_141 ((bN_5 es_60).mp h).1)).symm
              | exact (bP_f (fun h => absurd c_151 ((bN_5 es_60).mp h).2)).symm
              | exact (bP_t ((bN_6 es_60).mpr (Or.inl c_174))).symm
              | exact (bP_t ((bN_6 es_60).mpr (Or.inr c_184))).symm
              | exact (bP_f (fun h => ((bN_6 es_60).mp h).elim (fun z => absurd c_174 z) (fun z => absurd c_184 z))).symm
              | (rw [hI.1 _ ca, nar_b]; exact bP_congr (bN_7 (F := fun c => ¬ r c = 0) es_60).symm)
              | exact (bP_t ((bN_10 es_60).mpr (Exists.intro c (And.intro (by omega) (And.intro (by rw [ot_e (by omega) hfd]; exact hgc) c_236))))).symm
              | exact (bP_f (fun h => absurd c_236 (DN (show c < 40 by omega) (by rw [ot_e (by omega) hfd]; exact hgc) ((bN_10 es_60).mp h)))).symm
              | exact (bP_f (fun h => DM (by rw [ot_e (by omega) hfd]; exact c_222) ((bN_10 es_60).mp h))).symm
      · skip
        rw [es_60]
        refine vg_tabIn (tgt := 130) C d_R_findNone_60 (by decide) (by decide) rfl (by decide) ?_
        obtain ⟨ca, ea, -⟩ := Ch_f hG.1.1 (p := i) (by omega) (by rw [es_60]; decide)
        rw [ea]
        obtain ⟨cb, eb, -⟩ := Ch_s hG.1.1 (p := i) (by omega) (by rw [es_60]; decide)
        rw [eb]
        refine vg_aload_n C d_R_findNone_130 rfl ?_
        refine wr_get C d_R_findNone_131 f_R_61 rfl rfl rfl rfl ?_
        refine vg_iload_n C d_R_findNone_134 rfl ?_
        refine vg_aload_n C d_R_findNone_135 rfl ?_
        refine wr_get C d_R_findNone_136 f_R_61 rfl rfl rfl rfl ?_
        refine vg_iload_n C d_R_findNone_139 rfl ?_
        refine wr_zald C d_R_findNone_140 rfl rfl (by exact vp_in_nI (by omega) (by decide)) ?_
        rw [nI_clamp (by omega), sI_at]
        refine vg_if_eq (tgt := 158) C d_R_findNone_141 (by decide) (fun c_141 => ?_) (fun c_141 => ?_)
        · skip
          refine vg_iconst (v := 0) C d_R_findNone_158 (by decide) ?_
          refine wr_zast C d_R_findNone_159 rfl rfl (by exact vp_in_nI (by omega) (by decide)) ?_
          rw [nI_clamp (by omega)]
          refine vg_goto (tgt := 255) C d_R_findNone_160 (by decide) ?_
          refine vg_lv [2, 3, 4] rfl ?_
          (try rw [nI_clamp (show i < 2 ^ 31 by omega)])
          rw [sI_sI, sI_at]
          refine S (by omega) _ ?_
          first
            | exact (bP_t ((bN_0 es_60).mpr trivial)).symm
            | exact (bP_t ((bN_2 es_60).mpr trivial)).symm
            | exact (bP_f (fun h => (bN_1 es_60).mp h)).symm
            | exact (bP_f (fun h => (bN_3 es_60).mp h)).symm
            | exact (bP_f (fun h => (bN_8 es_60).mp h)).symm
            | exact (bP_f (fun h => (bN_9 es_60).mp h)).symm
            | exact (bP_t ((bN_4 es_60).mpr (And.intro c_141 c_151))).symm
            | exact (bP_f (fun h => absurd c_141 ((bN_4 es_60).mp h).1)).symm
            | exact (bP_f (fun h => absurd c_151 ((bN_4 es_60).mp h).2)).symm
            | exact (bP_t ((bN_5 es_60).mpr (And.intro c_141 c_151))).symm
            | exact (bP_f (fun h => absurd c_141 ((bN_5 es_60).mp h).1)).symm
            | exact (bP_f (fun h => absurd c_151 ((bN_5 es_60).mp h).2)).symm
            | exact (bP_t ((bN_6 es_60).mpr (Or.inl c_174))).symm
            | exact (bP_t ((bN_6 es_60).mpr (Or.inr c_184))).symm
            | exact (bP_f (fun h => ((bN_6 es_60).mp h).elim (fun z => absurd c_174 z) (fun z => absurd c_184 z))).symm
            | (rw [hI.1 _ ca, nar_b]; exact bP_congr (bN_7 (F := fun c => ¬ r c = 0) es_60).symm)
            | exact (bP_t ((bN_10 es_60).mpr (Exists.intro c (And.intro (by omega) (And.intro (by rw [ot_e (by omega) hfd]; exact hgc) c_236))))).symm
            | exact (bP_f (fun h => absurd c_236 (DN (show c < 40 by omega) (by rw [ot_e (by omega) hfd]; exact hgc) ((bN_10 es_60).mp h)))).symm
            | exact (bP_f (fun h => DM (by rw [ot_e (by omega) hfd]; exact c_222) ((bN_10 es_60).mp h))).symm
        · skip
          refine vg_aload_n C d_R_findNone_144 rfl ?_
          refine wr_get C d_R_findNone_145 f_R_61 rfl rfl rfl rfl ?_
          refine vg_iload C d_R_findNone_148 rfl ?_
          refine wr_zald C d_R_findNone_150 rfl rfl (by exact vp_in_nI (by omega) (by decide)) ?_
          rw [nI_clamp (by omega), sI_at]
          refine vg_if_eq (tgt := 158) C d_R_findNone_151 (by decide) (fun c_151 => ?_) (fun c_151 => ?_)
          · skip
            refine vg_iconst (v := 0) C d_R_findNone_158 (by decide) ?_
            refine wr_zast C d_R_findNone_159 rfl rfl (by exact vp_in_nI (by omega) (by decide)) ?_
            rw [nI_clamp (by omega)]
            refine vg_goto (tgt := 255) C d_R_findNone_160 (by decide) ?_
            refine vg_lv [2, 3, 4] rfl ?_
            (try rw [nI_clamp (show i < 2 ^ 31 by omega)])
            rw [sI_sI, sI_at]
            refine S (by omega) _ ?_
            first
              | exact (bP_t ((bN_0 es_60).mpr trivial)).symm
              | exact (bP_t ((bN_2 es_60).mpr trivial)).symm
              | exact (bP_f (fun h => (bN_1 es_60).mp h)).symm
              | exact (bP_f (fun h => (bN_3 es_60).mp h)).symm
              | exact (bP_f (fun h => (bN_8 es_60).mp h)).symm
              | exact (bP_f (fun h => (bN_9 es_60).mp h)).symm
              | exact (bP_t ((bN_4 es_60).mpr (And.intro c_141 c_151))).symm
              | exact (bP_f (fun h => absurd c_141 ((bN_4 es_60).mp h).1)).symm
              | exact (bP_f (fun h => absurd c_151 ((bN_4 es_60).mp h).2)).symm
              | exact (bP_t ((bN_5 es_60).mpr (And.intro c_141 c_151))).symm
              | exact (bP_f (fun h => absurd c_141 ((bN_5 es_60).mp h).1)).symm
              | exact (bP_f (fun h => absurd c_151 ((bN_5 es_60).mp h).2)).symm
              | exact (bP_t ((bN_6 es_60).mpr (Or.inl c_174))).symm
              | exact (bP_t ((bN_6 es_60).mpr (Or.inr c_184))).symm
              | exact (bP_f (fun h => ((bN_6 es_60).mp h).elim (fun z => absurd c_174 z) (fun z => absurd c_184 z))).symm
              | (rw [hI.1 _ ca, nar_b]; exact bP_congr (bN_7 (F := fun c => ¬ r c = 0) es_60).symm)
              | exact (bP_t ((bN_10 es_60).mpr (Exists.intro c (And.intro (by omega) (And.intro (by rw [ot_e (by omega) hfd]; exact hgc) c_236))))).symm
              | exact (bP_f (fun h => absurd c_236 (DN (show c < 40 by omega) (by rw [ot_e (by omega) hfd]; exact hgc) ((bN_10 es_60).mp h)))).symm
              | exact (bP_f (fun h => DM (by rw [ot_e (by omega) hfd]; exact c_222) ((bN_10 es_60).mp h))).symm
          · skip
            refine vg_iconst (v := 1) C d_R_findNone_154 (by decide) ?_
            refine vg_goto (tgt := 159) C d_R_findNone_155 (by decide) ?_
            refine wr_zast C d_R_findNone_159 rfl rfl (by exact vp_in_nI (by omega) (by decide)) ?_
            rw [nI_clamp (by omega)]
            refine vg_goto (tgt := 255) C d_R_findNone_160 (by decide) ?_
            refine vg_lv [2, 3, 4] rfl ?_
            (try rw [nI_clamp (show i < 2 ^ 31 by omega)])
            rw [sI_sI, sI_at]
            refine S (by omega) _ ?_
            first
              | exact (bP_t ((bN_0 es_60).mpr trivial)).symm
              | exact (bP_t ((bN_2 es_60).mpr trivial)).symm
              | exact (bP_f (fun h => (bN_1 es_60).mp h)).symm
              | exact (bP_f (fun h => (bN_3 es_60).mp h)).symm
              | exact (bP_f (fun h => (bN_8 es_60).mp h)).symm
              | exact (bP_f (fun h => (bN_9 es_60).mp h)).symm
              | exact (bP_t ((bN_4 es_60).mpr (And.intro c_141 c_151))).symm
              | exact (bP_f (fun h => absurd c_141 ((bN_4 es_60).mp h).1)).symm
              | exact (bP_f (fun h => absurd c_151 ((bN_4 es_60).mp h).2)).symm
              | exact (bP_t ((bN_5 es_60).mpr (And.intro c_141 c_151))).symm
              | exact (bP_f (fun h => absurd c_141 ((bN_5 es_60).mp h).1)).symm
              | exact (bP_f (fun h => absurd c_151 ((bN_5 es_60).mp h).2)).symm
              | exact (bP_t ((bN_6 es_60).mpr (Or.inl c_174))).symm
              | exact (bP_t ((bN_6 es_60).mpr (Or.inr c_184))).symm
              | exact (bP_f (fun h => ((bN_6 es_60).mp h).elim (fun z => absurd c_174 z) (fun z => absurd c_184 z))).symm
              | (rw [hI.1 _ ca, nar_b]; exact bP_congr (bN_7 (F := fun c => ¬ r c = 0) es_60).symm)
              | exact (bP_t ((bN_10 es_60).mpr (Exists.intro c (And.intro (by omega) (And.intro (by rw [ot_e (by omega) hfd]; exact hgc) c_236))))).symm
              | exact (bP_f (fun h => absurd c_236 (DN (show c < 40 by omega) (by rw [ot_e (by omega) hfd]; exact hgc) ((bN_10 es_60).mp h)))).symm
              | exact (bP_f (fun h => DM (by rw [ot_e (by omega) hfd]; exact c_222) ((bN_10 es_60).mp h))).symm
      · skip
        rw [es_60]
        refine vg_tabIn (tgt := 163) C d_R_findNone_60 (by decide) (by decide) rfl (by decide) ?_
        obtain ⟨ca, ea, -⟩ := Ch_f hG.1.1 (p := i) (by omega) (by rw [es_60]; decide)
        rw [ea]
        obtain ⟨cb, eb, -⟩ := Ch_s hG.1.1 (p := i) (by omega) (by rw [es_60]; decide)
        rw [eb]
        refine vg_aload_n C d_R_findNone_163 rfl ?_
        refine wr_get C d_R_findNone_164 f_R_61 rfl rfl rfl rfl ?_
        refine vg_iload_n C d_R_findNone_167 rfl ?_
        refine vg_aload_n C d_R_findNone_168 rfl ?_
        refine wr_get C d_R_findNone_169 f_R_61 rfl rfl rfl rfl ?_
        refine vg_iload_n C d_R_findNone_172 rfl ?_
        refine wr_zald C d_R_findNone_173 rfl rfl (by exact vp_in_nI (by omega) (by decide)) ?_
        rw [nI_clamp (by omega), sI_at]
        refine vg_if_ne (tgt := 187) C d_R_findNone_174 (by decide) (fun c_174 => ?_) (fun c_174 => ?_)
        · skip
          refine vg_iconst (v := 1) C d_R_findNone_187 (by decide) ?_
          refine vg_goto (tgt := 192) C d_R_findNone_188 (by decide) ?_
          refine wr_zast C d_R_findNone_192 rfl rfl (by exact vp_in_nI (by omega) (by decide)) ?_
          rw [nI_clamp (by omega)]
          refine vg_goto (tgt := 255) C d_R_findNone_193 (by decide) ?_
          refine vg_lv [2, 3, 4] rfl ?_
          (try rw [nI_clamp (show i < 2 ^ 31 by omega)])
          rw [sI_sI, sI_at]
          refine S (by omega) _ ?_
          first
            | exact (bP_t ((bN_0 es_60).mpr trivial)).symm
            | exact (bP_t ((bN_2 es_60).mpr trivial)).symm
            | exact (bP_f (fun h => (bN_1 es_60).mp h)).symm
            | exact (bP_f (fun h => (bN_3 es_60).mp h)).symm
            | exact (bP_f (fun h => (bN_8 es_60).mp h)).symm
            | exact (bP_f (fun h => (bN_9 es_60).mp h)).symm
            | exact (bP_t ((bN_4 es_60).mpr (And.intro c_141 c_151))).symm
            | exact (bP_f (fun h => absurd c_141 ((bN_4 es_60).mp h).1)).symm
            | exact (bP_f (fun h => absurd c_151 ((bN_4 es_60).mp h).2)).symm
            | exact (bP_t ((bN_5 es_60).mpr (And.intro c_141 c_151))).symm
            | exact (bP_f (fun h => absurd c_141 ((bN_5 es_60).mp h).1)).symm
            | exact (bP_f (fun h => absurd c_151 ((bN_5 es_60).mp h).2)).symm
            | exact (bP_t ((bN_6 es_60).mpr (Or.inl c_174))).symm
            | exact (bP_t ((bN_6 es_60).mpr (Or.inr c_184))).symm
            | exact (bP_f (fun h => ((bN_6 es_60).mp h).elim (fun z => absurd c_174 z) (fun z => absurd c_184 z))).symm
            | (rw [hI.1 _ ca, nar_b]; exact bP_congr (bN_7 (F := fun c => ¬ r c = 0) es_60).symm)
            | exact (bP_t ((bN_10 es_60).mpr (Exists.intro c (And.intro (by omega) (And.intro (by rw [ot_e (by omega) hfd]; exact hgc) c_236))))).symm
            | exact (bP_f (fun h => absurd c_236 (DN (show c < 40 by omega) (by rw [ot_e (by omega) hfd]; exact hgc) ((bN_10 es_60).mp h)))).symm
            | exact (bP_f (fun h => DM (by rw [ot_e (by omega) hfd]; exact c_222) ((bN_10 es_60).mp h))).symm
        · skip
          refine vg_aload_n C d_R_findNone_177 rfl ?_
          refine wr_get C d_R_findNone_178 f_R_61 rfl rfl rfl rfl ?_
          refine vg_iload C d_R_findNone_181 rfl ?_
          refine wr_zald C d_R_findNone_183 rfl rfl (by exact vp_in_nI (by omega) (by decide)) ?_
          rw [nI_clamp (by omega), sI_at]
          refine vg_if_eq (tgt := 191) C d_R_findNone_184 (by decide) (fun c_184 => ?_) (fun c_184 => ?_)
          · skip
            refine vg_iconst (v := 0) C d_R_findNone_191 (by decide) ?_
            refine wr_zast C d_R_findNone_192 rfl rfl (by exact vp_in_nI (by omega) (by decide)) ?_
            rw [nI_clamp (by omega)]
            refine vg_goto (tgt := 255) C d_R_findNone_193 (by decide) ?_
            refine vg_lv [2, 3, 4] rfl ?_
            (try rw [nI_clamp (show i < 2 ^ 31 by omega)])
            rw [sI_sI, sI_at]
            refine S (by omega) _ ?_
            first
              | exact (bP_t ((bN_0 es_60).mpr trivial)).symm
              | exact (bP_t ((bN_2 es_60).mpr trivial)).symm
              | exact (bP_f (fun h => (bN_1 es_60).mp h)).symm
              | exact (bP_f (fun h => (bN_3 es_60).mp h)).symm
              | exact (bP_f (fun h => (bN_8 es_60).mp h)).symm
              | exact (bP_f (fun h => (bN_9 es_60).mp h)).symm
              | exact (bP_t ((bN_4 es_60).mpr (And.intro c_141 c_151))).symm
              | exact (bP_f (fun h => absurd c_141 ((bN_4 es_60).mp h).1)).symm
              | exact (bP_f (fun h => absurd c_151 ((bN_4 es_60).mp h).2)).symm
              | exact (bP_t ((bN_5 es_60).mpr (And.intro c_141 c_151))).symm
              | exact (bP_f (fun h => absurd c_141 ((bN_5 es_60).mp h).1)).symm
              | exact (bP_f (fun h => absurd c_151 ((bN_5 es_60).mp h).2)).symm
              | exact (bP_t ((bN_6 es_60).mpr (Or.inl c_174))).symm
              | exact (bP_t ((bN_6 es_60).mpr (Or.inr c_184))).symm
              | exact (bP_f (fun h => ((bN_6 es_60).mp h).elim (fun z => absurd c_174 z) (fun z => absurd c_184 z))).symm
              | (rw [hI.1 _ ca, nar_b]; exact bP_congr (bN_7 (F := fun c => ¬ r c = 0) es_60).symm)
              | exact (bP_t ((bN_10 es_60).mpr (Exists.intro c (And.intro (by omega) (And.intro (by rw [ot_e (by omega) hfd]; exact hgc) c_236))))).symm
              | exact (bP_f (fun h => absurd c_236 (DN (show c < 40 by omega) (by rw [ot_e (by omega) hfd]; exact hgc) ((bN_10 es_60).mp h)))).symm
              | exact (bP_f (fun h => DM (by rw [ot_e (by omega) hfd]; exact c_222) ((bN_10 es_60).mp h))).symm
          · skip
            refine vg_iconst (v := 1) C d_R_findNone_187 (by decide) ?_
            refine vg_goto (tgt := 192) C d_R_findNone_188 (by decide) ?_
            refine wr_zast C d_R_findNone_192 rfl rfl (by exact vp_in_nI (by omega) (by decide)) ?_
            rw [nI_clamp (by omega)]
            refine vg_goto (tgt := 255) C d_R_findNone_193 (by decide) ?_
            refine vg_lv [2, 3, 4] rfl ?_
            (try rw [nI_clamp (show i < 2 ^ 31 by omega)])
            rw [sI_sI, sI_at]
            refine S (by omega) _ ?_
            first
              | exact (bP_t ((bN_0 es_60).mpr trivial)).symm
              | exact (bP_t ((bN_2 es_60).mpr trivial)).symm
              | exact (bP_f (fun h => (bN_1 es_60).mp h)).symm
              | exact (bP_f (fun h => (bN_3 es_60).mp h)).symm
              | exact (bP_f (fun h => (bN_8 es_60).mp h)).symm
              | exact (bP_f (fun h => (bN_9 es_60).mp h)).symm
              | exact (bP_t ((bN_4 es_60).mpr (And.intro c_141 c_151))).symm
              | exact (bP_f (fun h => absurd c_141 ((bN_4 es_60).mp h).1)).symm
              | exact (bP_f (fun h => absurd c_151 ((bN_4 es_60).mp h).2)).symm
              | exact (bP_t ((bN_5 es_60).mpr (And.intro c_141 c_151))).symm
              | exact (bP_f (fun h => absurd c_141 ((bN_5 es_60).mp h).1)).symm
              | exact (bP_f (fun h => absurd c_151 ((bN_5 es_60).mp h).2)).symm
              | exact (bP_t ((bN_6 es_60).mpr (Or.inl c_174))).symm
              | exact (bP_t ((bN_6 es_60).mpr (Or.inr c_184))).symm
              | exact (bP_f (fun h => ((bN_6 es_60).mp h).elim (fun z => absurd c_174 z) (fun z => absurd c_184 z))).symm
              | (rw [hI.1 _ ca, nar_b]; exact bP_congr (bN_7 (F := fun c => ¬ r c = 0) es_60).symm)
              | exact (bP_t ((bN_10 es_60).mpr (Exists.intro c (And.intro (by omega) (And.intro (by rw [ot_e (by omega) hfd]; exact hgc) c_236))))).symm
              | exact (bP_f (fun h => absurd c_236 (DN (show c < 40 by omega) (by rw [ot_e (by omega) hfd]; exact hgc) ((bN_10 es_60).mp h)))).symm
              | exact (bP_f (fun h => DM (by rw [ot_e (by omega) hfd]; exact c_222) ((bN_10 es_60).mp h))).symm
      · skip
        rw [es_60]
        refine vg_tabIn (tgt := 196) C d_R_findNone_60 (by decide) (by decide) rfl (by decide) ?_
        obtain ⟨ca, ea, -⟩ := Ch_f hG.1.1 (p := i) (by omega) (by rw [es_60]; decide)
        rw [ea]
        refine vg_aload_n C d_R_findNone_196 rfl ?_
        refine wr_get C d_R_findNone_197 f_R_61 rfl rfl rfl rfl ?_
        refine vg_iload_n C d_R_findNone_200 rfl ?_
        refine vg_aload_n C d_R_findNone_201 rfl ?_
        refine wr_get C d_R_findNone_202 f_R_61 rfl rfl rfl rfl ?_
        refine vg_iload_n C d_R_findNone_205 rfl ?_
        refine wr_zald C d_R_findNone_206 rfl rfl (by exact vp_in_nI (by omega) (by decide)) ?_
        rw [nI_clamp (by omega), sI_at]
        refine wr_zast C d_R_findNone_207 rfl rfl (by exact vp_in_nI (by omega) (by decide)) ?_
        rw [nI_clamp (by omega)]
        refine vg_goto (tgt := 255) C d_R_findNone_208 (by decide) ?_
        refine vg_lv [2, 3, 4] rfl ?_
        (try rw [nI_clamp (show i < 2 ^ 31 by omega)])
        rw [sI_sI, sI_at]
        refine S (by omega) _ ?_
        first
          | exact (bP_t ((bN_0 es_60).mpr trivial)).symm
          | exact (bP_t ((bN_2 es_60).mpr trivial)).symm
          | exact (bP_f (fun h => (bN_1 es_60).mp h)).symm
          | exact (bP_f (fun h => (bN_3 es_60).mp h)).symm
          | exact (bP_f (fun h => (bN_8 es_60).mp h)).symm
          | exact (bP_f (fun h => (bN_9 es_60).mp h)).symm
          | exact (bP_t ((bN_4 es_60).mpr (And.intro c_141 c_151))).symm
          | exact (bP_f (fun h => absurd c_141 ((bN_4 es_60).mp h).1)).symm
          | exact (bP_f (fun h => absurd c_151 ((bN_4 es_60).mp h).2)).symm
          | exact (bP_t ((bN_5 es_60).mpr (And.intro c_141 c_151))).symm
          | exact (bP_f (fun h => absurd c_141 ((bN_5 es_60).mp h).1)).symm
          | exact (bP_f (fun h => absurd c_151 ((bN_5 es_60).mp h).2)).symm
          | exact (bP_t ((bN_6 es_60).mpr (Or.inl c_174))).symm
          | exact (bP_t ((bN_6 es_60).mpr (Or.inr c_184))).symm
          | exact (bP_f (fun h => ((bN_6 es_60).mp h).elim (fun z => absurd c_174 z) (fun z => absurd c_184 z))).symm
          | (rw [hI.1 _ ca, nar_b]; exact bP_congr (bN_7 (F := fun c => ¬ r c = 0) es_60).symm)
          | exact (bP_t ((bN_10 es_60).mpr (Exists.intro c (And.intro (by omega) (And.intro (by rw [ot_e (by omega) hfd]; exact hgc) c_236))))).symm
          | exact (bP_f (fun h => absurd c_236 (DN (show c < 40 by omega) (by rw [ot_e (by omega) hfd]; exact hgc) ((bN_10 es_60).mp h)))).symm
          | exact (bP_f (fun h => DM (by rw [ot_e (by omega) hfd]; exact c_222) ((bN_10 es_60).mp h))).symm
      · skip
        rw [es_60]
        refine vg_tabIn (tgt := 248) C d_R_findNone_60 (by decide) (by decide) rfl (by decide) ?_
        refine vg_aload_n C d_R_findNone_248 rfl ?_
        refine wr_get C d_R_findNone_249 f_R_61 rfl rfl rfl rfl ?_
        refine vg_iload_n C d_R_findNone_252 rfl ?_
        refine vg_iconst (v := 0) C d_R_findNone_253 (by decide) ?_
        refine wr_zast C d_R_findNone_254 rfl rfl (by exact vp_in_nI (by omega) (by decide)) ?_
        refine vg_lv [2, 3, 4] rfl ?_
        (try rw [nI_clamp (show i < 2 ^ 31 by omega)])
        rw [sI_sI, sI_at]
        refine S (by omega) _ ?_
        first
          | exact (bP_t ((bN_0 es_60).mpr trivial)).symm
          | exact (bP_t ((bN_2 es_60).mpr trivial)).symm
          | exact (bP_f (fun h => (bN_1 es_60).mp h)).symm
          | exact (bP_f (fun h => (bN_3 es_60).mp h)).symm
          | exact (bP_f (fun h => (bN_8 es_60).mp h)).symm
          | exact (bP_f (fun h => (bN_9 es_60).mp h)).symm
          | exact (bP_t ((bN_4 es_60).mpr (And.intro c_141 c_151))).symm
          | exact (bP_f (fun h => absurd c_141 ((bN_4 es_60).mp h).1)).symm
          | exact (bP_f (fun h => absurd c_151 ((bN_4 es_60).mp h).2)).symm
          | exact (bP_t ((bN_5 es_60).mpr (And.intro c_141 c_151))).symm
          | exact (bP_f (fun h => absurd c_141 ((bN_5 es_60).mp h).1)).symm
          | exact (bP_f (fun h => absurd c_151 ((bN_5 es_60).mp h).2)).symm
          | exact (bP_t ((bN_6 es_60).mpr (Or.inl c_174))).symm
          | exact (bP_t ((bN_6 es_60).mpr (Or.inr c_184))).symm
          | exact (bP_f (fun h => ((bN_6 es_60).mp h).elim (fun z => absurd c_174 z) (fun z => absurd c_184 z))).symm
          | (rw [hI.1 _ ca, nar_b]; exact bP_congr (bN_7 (F := fun c => ¬ r c = 0) es_60).symm)
          | exact (bP_t ((bN_10 es_60).mpr (Exists.intro c (And.intro (by omega) (And.intro (by rw [ot_e (by omega) hfd]; exact hgc) c_236))))).symm
          | exact (bP_f (fun h => absurd c_236 (DN (show c < 40 by omega) (by rw [ot_e (by omega) hfd]; exact hgc) ((bN_10 es_60).mp h)))).symm
          | exact (bP_f (fun h => DM (by rw [ot_e (by omega) hfd]; exact c_222) ((bN_10 es_60).mp h))).symm
      · skip
        rw [es_60]
        refine vg_tabIn (tgt := 248) C d_R_findNone_60 (by decide) (by decide) rfl (by decide) ?_
        refine vg_aload_n C d_R_findNone_248 rfl ?_
        refine wr_get C d_R_findNone_249 f_R_61 rfl rfl rfl rfl ?_
        refine vg_iload_n C d_R_findNone_252 rfl ?_
        refine vg_iconst (v := 0) C d_R_findNone_253 (by decide) ?_
        refine wr_zast C d_R_findNone_254 rfl rfl (by exact vp_in_nI (by omega) (by decide)) ?_
        refine vg_lv [2, 3, 4] rfl ?_
        (try rw [nI_clamp (show i < 2 ^ 31 by omega)])
        rw [sI_sI, sI_at]
        refine S (by omega) _ ?_
        first
          | exact (bP_t ((bN_0 es_60).mpr trivial)).symm
          | exact (bP_t ((bN_2 es_60).mpr trivial)).symm
          | exact (bP_f (fun h => (bN_1 es_60).mp h)).symm
          | exact (bP_f (fun h => (bN_3 es_60).mp h)).symm
          | exact (bP_f (fun h => (bN_8 es_60).mp h)).symm
          | exact (bP_f (fun h => (bN_9 es_60).mp h)).symm
          | exact (bP_t ((bN_4 es_60).mpr (And.intro c_141 c_151))).symm
          | exact (bP_f (fun h => absurd c_141 ((bN_4 es_60).mp h).1)).symm
          | exact (bP_f (fun h => absurd c_151 ((bN_4 es_60).mp h).2)).symm
          | exact (bP_t ((bN_5 es_60).mpr (And.intro c_141 c_151))).symm
          | exact (bP_f (fun h => absurd c_141 ((bN_5 es_60).mp h).1)).symm
          | exact (bP_f (fun h => absurd c_151 ((bN_5 es_60).mp h).2)).symm
          | exact (bP_t ((bN_6 es_60).mpr (Or.inl c_174))).symm
          | exact (bP_t ((bN_6 es_60).mpr (Or.inr c_184))).symm
          | exact (bP_f (fun h => ((bN_6 es_60).mp h).elim (fun z => absurd c_174 z) (fun z => absurd c_184 z))).symm
          | (rw [hI.1 _ ca, nar_b]; exact bP_congr (bN_7 (F := fun c => ¬ r c = 0) es_60).symm)
          | exact (bP_t ((bN_10 es_60).mpr (Exists.intro c (And.intro (by omega) (And.intro (by rw [ot_e (by omega) hfd]; exact hgc) c_236))))).symm
          | exact (bP_f (fun h => absurd c_236 (DN (show c < 40 by omega) (by rw [ot_e (by omega) hfd]; exact hgc) ((bN_10 es_60).mp h)))).symm
          | exact (bP_f (fun h => DM (by rw [ot_e (by omega) hfd]; exact c_222) ((bN_10 es_60).mp h))).symm
      · skip
        rw [es_60]
        refine vg_tabIn (tgt := 211) C d_R_findNone_60 (by decide) (by decide) rfl (by decide) ?_
        obtain ⟨dd, hd4, hfd, hgd⟩ := (hG.1.1.2 i (by omega)).2.2 (by rw [es_60]; rfl)
        rw [hfd]
        refine vg_aload_n C d_R_findNone_211 rfl ?_
        refine wr_get C d_R_findNone_212 f_R_61 rfl rfl rfl rfl ?_
        refine vg_iload_n C d_R_findNone_215 rfl ?_
        refine vg_aload_n C d_R_findNone_216 rfl ?_
        refine wr_get C d_R_findNone_217 f_R_22 rfl rfl rfl rfl ?_
        refine vg_iload_n C d_R_findNone_220 rfl ?_
        refine wr_iald C d_R_findNone_221 rfl rfl (by exact vp_in_nI (by omega) (by decide)) ?_
        rw [nI_clamp (by omega), sI_ne _ (by decide)]
        refine vg_if_lt (tgt := 243) C d_R_findNone_222 (by decide) (fun c_222 => ?_) (fun c_222 => ?_)
        · skip
          refine vg_iconst (v := 0) C d_R_findNone_243 (by decide) ?_
          refine wr_zast C d_R_findNone_244 rfl rfl (by exact vp_in_nI (by omega) (by decide)) ?_
          rw [nI_clamp (by omega)]
          refine vg_goto (tgt := 255) C d_R_findNone_245 (by decide) ?_
          refine vg_lv [2, 3, 4] rfl ?_
          (try rw [nI_clamp (show i < 2 ^ 31 by omega)])
          rw [sI_sI, sI_at]
          refine S (by omega) _ ?_
          first
            | exact (bP_t ((bN_0 es_60).mpr trivial)).symm
            | exact (bP_t ((bN_2 es_60).mpr trivial)).symm
            | exact (bP_f (fun h => (bN_1 es_60).mp h)).symm
            | exact (bP_f (fun h => (bN_3 es_60).mp h)).symm
            | exact (bP_f (fun h => (bN_8 es_60).mp h)).symm
            | exact (bP_f (fun h => (bN_9 es_60).mp h)).symm
            | exact (bP_t ((bN_4 es_60).mpr (And.intro c_141 c_151))).symm
            | exact (bP_f (fun h => absurd c_141 ((bN_4 es_60).mp h).1)).symm
            | exact (bP_f (fun h => absurd c_151 ((bN_4 es_60).mp h).2)).symm
            | exact (bP_t ((bN_5 es_60).mpr (And.intro c_141 c_151))).symm
            | exact (bP_f (fun h => absurd c_141 ((bN_5 es_60).mp h).1)).symm
            | exact (bP_f (fun h => absurd c_151 ((bN_5 es_60).mp h).2)).symm
            | exact (bP_t ((bN_6 es_60).mpr (Or.inl c_174))).symm
            | exact (bP_t ((bN_6 es_60).mpr (Or.inr c_184))).symm
            | exact (bP_f (fun h => ((bN_6 es_60).mp h).elim (fun z => absurd c_174 z) (fun z => absurd c_184 z))).symm
            | (rw [hI.1 _ ca, nar_b]; exact bP_congr (bN_7 (F := fun c => ¬ r c = 0) es_60).symm)
            | exact (bP_t ((bN_10 es_60).mpr (Exists.intro c (And.intro (by omega) (And.intro (by rw [ot_e (by omega) hfd]; exact hgc) c_236))))).symm
            | exact (bP_f (fun h => absurd c_236 (DN (show c < 40 by omega) (by rw [ot_e (by omega) hfd]; exact hgc) ((bN_10 es_60).mp h)))).symm
            | exact (bP_f (fun h => DM (by rw [ot_e (by omega) hfd]; exact c_222) ((bN_10 es_60).mp h))).symm
        · skip
          obtain ⟨c, hcn, hgc, -⟩ := hgd.resolve_left (fun e => c_222 (by rw [e]; decide))
          refine vg_aload_n C d_R_findNone_225 rfl ?_
          refine wr_get C d_R_findNone_226 f_R_61 rfl rfl rfl rfl ?_
          refine vg_aload_n C d_R_findNone_229 rfl ?_
          refine wr_get C d_R_findNone_230 f_R_22 rfl rfl rfl rfl ?_
          refine vg_iload_n C d_R_findNone_233 rfl ?_
          refine wr_iald C d_R_findNone_234 rfl rfl (by exact vp_in_nI (by omega) (by decide)) ?_
          rw [nI_clamp (by omega), sI_ne _ (by decide)]
          rw [hgc]
          refine wr_zald C d_R_findNone_235 rfl rfl (by exact vp_in_nI (by omega) (by decide)) ?_
          rw [nI_clamp (by omega), sI_at]
          refine vg_if_eq (tgt := 243) C d_R_findNone_236 (by decide) (fun c_236 => ?_) (fun c_236 => ?_)
          · skip
            refine vg_iconst (v := 0) C d_R_findNone_243 (by decide) ?_
            refine wr_zast C d_R_findNone_244 rfl rfl (by exact vp_in_nI (by omega) (by decide)) ?_
            rw [nI_clamp (by omega)]
            refine vg_goto (tgt := 255) C d_R_findNone_245 (by decide) ?_
            refine vg_lv [2, 3, 4] rfl ?_
            (try rw [nI_clamp (show i < 2 ^ 31 by omega)])
            rw [sI_sI, sI_at]
            refine S (by omega) _ ?_
            first
              | exact (bP_t ((bN_0 es_60).mpr trivial)).symm
              | exact (bP_t ((bN_2 es_60).mpr trivial)).symm
              | exact (bP_f (fun h => (bN_1 es_60).mp h)).symm
              | exact (bP_f (fun h => (bN_3 es_60).mp h)).symm
              | exact (bP_f (fun h => (bN_8 es_60).mp h)).symm
              | exact (bP_f (fun h => (bN_9 es_60).mp h)).symm
              | exact (bP_t ((bN_4 es_60).mpr (And.intro c_141 c_151))).symm
              | exact (bP_f (fun h => absurd c_141 ((bN_4 es_60).mp h).1)).symm
              | exact (bP_f (fun h => absurd c_151 ((bN_4 es_60).mp h).2)).symm
              | exact (bP_t ((bN_5 es_60).mpr (And.intro c_141 c_151))).symm
              | exact (bP_f (fun h => absurd c_141 ((bN_5 es_60).mp h).1)).symm
              | exact (bP_f (fun h => absurd c_151 ((bN_5 es_60).mp h).2)).symm
              | exact (bP_t ((bN_6 es_60).mpr (Or.inl c_174))).symm
              | exact (bP_t ((bN_6 es_60).mpr (Or.inr c_184))).symm
              | exact (bP_f (fun h => ((bN_6 es_60).mp h).elim (fun z => absurd c_174 z) (fun z => absurd c_184 z))).symm
              | (rw [hI.1 _ ca, nar_b]; exact bP_congr (bN_7 (F := fun c => ¬ r c = 0) es_60).symm)
              | exact (bP_t ((bN_10 es_60).mpr (Exists.intro c (And.intro (by omega) (And.intro (by rw [ot_e (by omega) hfd]; exact hgc) c_236))))).symm
              | exact (bP_f (fun h => absurd c_236 (DN (show c < 40 by omega) (by rw [ot_e (by omega) hfd]; exact hgc) ((bN_10 es_60).mp h)))).symm
              | exact (bP_f (fun h => DM (by rw [ot_e (by omega) hfd]; exact c_222) ((bN_10 es_60).mp h))).symm
          · skip
            refine vg_iconst (v := 1) C d_R_findNone_239 (by decide) ?_
            refine vg_goto (tgt := 244) C d_R_findNone_240 (by decide) ?_
            refine wr_zast C d_R_findNone_244 rfl rfl (by exact vp_in_nI (by omega) (by decide)) ?_
            rw [nI_clamp (by omega)]
            refine vg_goto (tgt := 255) C d_R_findNone_245 (by decide) ?_
            refine vg_lv [2, 3, 4] rfl ?_
            (try rw [nI_clamp (show i < 2 ^ 31 by omega)])
            rw [sI_sI, sI_at]
            refine S (by omega) _ ?_
            first
              | exact (bP_t ((bN_0 es_60).mpr trivial)).symm
              | exact (bP_t ((bN_2 es_60).mpr trivial)).symm
              | exact (bP_f (fun h => (bN_1 es_60).mp h)).symm
              | exact (bP_f (fun h => (bN_3 es_60).mp h)).symm
              | exact (bP_f (fun h => (bN_8 es_60).mp h)).symm
              | exact (bP_f (fun h => (bN_9 es_60).mp h)).symm
              | exact (bP_t ((bN_4 es_60).mpr (And.intro c_141 c_151))).symm
              | exact (bP_f (fun h => absurd c_141 ((bN_4 es_60).mp h).1)).symm
              | exact (bP_f (fun h => absurd c_151 ((bN_4 es_60).mp h).2)).symm
              | exact (bP_t ((bN_5 es_60).mpr (And.intro c_141 c_151))).symm
              | exact (bP_f (fun h => absurd c_141 ((bN_5 es_60).mp h).1)).symm
              | exact (bP_f (fun h => absurd c_151 ((bN_5 es_60).mp h).2)).symm
              | exact (bP_t ((bN_6 es_60).mpr (Or.inl c_174))).symm
              | exact (bP_t ((bN_6 es_60).mpr (Or.inr c_184))).symm
              | exact (bP_f (fun h => ((bN_6 es_60).mp h).elim (fun z => absurd c_174 z) (fun z => absurd c_184 z))).symm
              | (rw [hI.1 _ ca, nar_b]; exact bP_congr (bN_7 (F := fun c => ¬ r c = 0) es_60).symm)
              | exact (bP_t ((bN_10 es_60).mpr (Exists.intro c (And.intro (by omega) (And.intro (by rw [ot_e (by omega) hfd]; exact hgc) c_236))))).symm
              | exact (bP_f (fun h => absurd c_236 (DN (show c < 40 by omega) (by rw [ot_e (by omega) hfd]; exact hgc) ((bN_10 es_60).mp h)))).symm
              | exact (bP_f (fun h => DM (by rw [ot_e (by omega) hfd]; exact c_222) ((bN_10 es_60).mp h))).symm
set_option maxHeartbeats 4000000 in
set_option maxRecDepth 100000 in
theorem lp_R_findNone_out {Z : vg_Z} (hst : vg_St Z) {G : vg_G} {post : Option Value → va_W → Prop} (C : vg_C Z M_R_findNone G) (hQ : vg_Rt Z G 0 0 post) (ad : Nat → Nat) (σ : sg) (n : Nat) (H : Nat → Nat) (hG : GrR σ n H) (hH : ∀ q, q < n → H q ≤ 32)  (hpost : ∀ r : Nat → Int32, (∀ p, p < n → r p = bP ((SN (σ.1 118) (σ.1 119) (σ.1 120) (σ.1 122)) p)) → post none (wd Z ad (sI σ 133 r))) : ∀ (n2 d : Nat) (r : Nat → Int32) (hlt : 42 < d + n2) (hd : d ≤ 42), RI n H (SN (σ.1 118) (σ.1 119) (σ.1 120) (σ.1 122)) 0 d r → vg_K Z M_R_findNone G 0 0 23 [(1, .int (nI d)), (0, .ref (ad 117))] [] (wd Z ad (sI σ 133 r)) := by
  have hn := hG.1.1.1
  intro n2
  induction n2 with
  | zero =>
    intro d r hlt hd
    exact absurd hlt (by omega)
  | succ n2 ih =>
    intro d r hlt hd hI
    refine vg_iload_n C d_R_findNone_23 rfl ?_
    refine vg_bipush (v := 42) C d_R_findNone_24 (by decide) ?_
    refine vg_icmp_ge (tgt := 267) C d_R_findNone_26 (by decide) (fun c_26 => ?_) (fun c_26 => ?_)
    · rw [show (42 : Int32) = nI 42 from rfl, nI_leI (by omega) (by omega)] at c_26
      exact vg_return C hQ d_R_findNone_267 rfl (hpost r (RI_end hH (by rw [show 42 = d by omega]; exact hI)))
    · rw [show (42 : Int32) = nI 42 from rfl, nI_leI (by omega) (by omega)] at c_26
      refine vg_iconst (v := 0) C d_R_findNone_29 (by decide) ?_
      refine vg_istore_n C d_R_findNone_30 (Nat.le_of_ble_eq_true rfl) rfl ?_
      refine lp_R_findNone_in hst C hQ ad σ n H hG hH  d (fun r2 h2 => ?_) (n + 1) 0 r (by omega) (by omega) hI
      refine vg_iinc (v := nI (d + 1)) C d_R_findNone_261 rfl (nI_1 d) (Nat.le_of_ble_eq_true rfl) rfl ?_
      refine vg_goto (tgt := 23) C d_R_findNone_264 (by decide) ?_
      exact ih (d + 1) r2 (by omega) (by omega) (RI_next h2)
set_option maxHeartbeats 4000000 in
set_option maxRecDepth 100000 in
theorem lp_R_findNone_z {Z : vg_Z} (hst : vg_St Z) {G : vg_G} {post : Option Value → va_W → Prop} (C : vg_C Z M_R_findNone G) (hQ : vg_Rt Z G 0 0 post) (ad : Nat → Nat) (σ : sg) (n : Nat) (H : Nat → Nat) (hG : GrR σ n H) (hH : ∀ q, q < n → H q ≤ 32)  (hpost : ∀ r : Nat → Int32, (∀ p, p < n → r p = bP ((SN (σ.1 118) (σ.1 119) (σ.1 120) (σ.1 122)) p)) → post none (wd Z ad (sI σ 133 r))) : ∀ (n2 i : Nat) (r : Nat → Int32) (hlt : 40 < i + n2) (hi : i ≤ 40), (∀ q, q < i → r q = 0) → vg_K Z M_R_findNone G 0 0 2 [(1, .int (nI i)), (0, .ref (ad 117))] [] (wd Z ad (sI σ 133 r)) := by
  have hn := hG.1.1.1
  intro n2
  induction n2 with
  | zero =>
    intro i r hlt hi
    exact absurd hlt (by omega)
  | succ n2 ih =>
    intro i r hlt hi hz
    refine vg_iload_n C d_R_findNone_2 rfl ?_
    refine vg_bipush (v := 40) C d_R_findNone_3 (by decide) ?_
    refine vg_icmp_ge (tgt := 21) C d_R_findNone_5 (by decide) (fun c_5 => ?_) (fun c_5 => ?_)
    · rw [show (40 : Int32) = nI 40 from rfl, nI_leI (by omega) (by omega)] at c_5
      refine vg_iconst (v := 0) C d_R_findNone_21 (by decide) ?_
      refine vg_istore_n C d_R_findNone_22 (Nat.le_of_ble_eq_true rfl) rfl ?_
      exact lp_R_findNone_out hst C hQ ad σ n H hG hH  hpost 43 0 r (by omega) (by omega) (RI_0 hG.1.1 (fun q hq => hz q (by omega)))
    · rw [show (40 : Int32) = nI 40 from rfl, nI_leI (by omega) (by omega)] at c_5
      refine vg_aload_n C d_R_findNone_8 rfl ?_
      refine wr_get C d_R_findNone_9 f_R_61 rfl rfl rfl rfl ?_
      refine vg_iload_n C d_R_findNone_12 rfl ?_
      refine vg_iconst (v := 0) C d_R_findNone_13 (by decide) ?_
      refine wr_zast C d_R_findNone_14 rfl rfl (by exact vp_in_nI (by omega) (by decide)) ?_
      rw [nI_clamp (by omega), sI_sI, sI_at]
      refine vg_iinc (v := nI (i + 1)) C d_R_findNone_15 rfl (nI_1 i) (Nat.le_of_ble_eq_true rfl) rfl ?_
      refine vg_goto (tgt := 2) C d_R_findNone_18 (by decide) ?_
      exact ih (i + 1) _ (by omega) (by omega) (lt_s (fun q hq => (pk_un (by omega)).trans (hz q hq)) (pk_us.trans rfl))
set_option maxHeartbeats 4000000 in
set_option maxRecDepth 100000 in
theorem c_R_findNone (Z : vg_Z) (hst : vg_St Z) (ad : Nat → Nat) (σ : sg) (n : Nat) (H : Nat → Nat) (hG : GrR σ n H) (hH : ∀ q, q < n → H q ≤ 32)  : vg_T Z M_R_findNone 0 0 [.ref (ad 117)] (wd Z ad σ) (fun v w => v = none ∧ ∃ r : Nat → Int32, (∀ p, p < n → r p = bP (SN (σ.1 118) (σ.1 119) (σ.1 120) (σ.1 122) p)) ∧ w = wd Z ad (sI σ 133 r)) := by
  refine vg_enter hst (by decide) rfl (Nat.le_of_ble_eq_true rfl) ?_
  intro G C hQ
  show vg_K Z M_R_findNone G 0 0 0 [(0, .ref (ad 117))] [] (wd Z ad σ)
  refine vg_iconst (v := 0) C d_R_findNone_0 (by decide) ?_
  refine vg_istore_n C d_R_findNone_1 (Nat.le_of_ble_eq_true rfl) rfl ?_
  refine vg_w (ws' := wd Z ad (sI σ 133 (σ.1 133))) (by rw [sI_id]) ?_
  exact lp_R_findNone_z hst C hQ ad σ n H hG hH (fun r h => ⟨rfl, r, h, rfl⟩) 41 0 _ (by omega) (by omega) (fun q hq => absurd hq (by omega))
/-! findSingle: T -/
set_option maxHeartbeats 4000000 in
set_option maxRecDepth 100000 in
theorem lp_R_findSingleT_in {Z : vg_Z} (hst : vg_St Z) {G : vg_G} {post : Option Value → va_W → Prop} (C : vg_C Z M_R_findSingle G) (hQ : vg_Rt Z G 0 0 post) (ad : Nat → Nat) (σ : sg) (n : Nat) (H : Nat → Nat) (hG : GrR σ n H) (hH : ∀ q, q < n → H q ≤ 32) (x : Int32) (hN : ∀ p, p < n → σ.1 133 p = bP (SN (σ.1 118) (σ.1 119) (σ.1 120) (σ.1 122) p))  (d : Nat) (hk : ∀ r, RI n H (S1 (σ.1 118) (σ.1 119) (σ.1 120) (σ.1 122) (eV (σ.1 118) (σ.1 119) (σ.1 120) x)) n d r → vg_K Z M_R_findSingle G 0 0 276 [(3, .int (nI d)), (0, .ref (ad 117)), (1, .int (-1)), (2, .int x)] [] (wd Z ad (sI σ 134 r))) : ∀ (n2 i : Nat) (r : Nat → Int32) (hlt : n < i + n2) (hi : i ≤ n), RI n H (S1 (σ.1 118) (σ.1 119) (σ.1 120) (σ.1 122) (eV (σ.1 118) (σ.1 119) (σ.1 120) x)) i d r → vg_K Z M_R_findSingle G 0 0 32 [(4, .int (nI i)), (3, .int (nI d)), (0, .ref (ad 117)), (1, .int (-1)), (2, .int x)] [] (wd Z ad (sI σ 134 r)) := by
  have hn := hG.1.1.1
  have e_k : ∀ {i : Nat}, eV (σ.1 118) (σ.1 119) (σ.1 120) x i → σ.1 118 i = 2 ∨ σ.1 118 i = 3 ∨ σ.1 118 i = 8 := fun h => h.elim Or.inl (fun z => Or.inr (Or.inl z.1))
  intro n2
  induction n2 with
  | zero =>
    intro i r hlt hi
    exact absurd hlt (by omega)
  | succ n2 ih =>
    intro i r hlt hi hI
    have S : i < n → ∀ X : Int32, X = bP ((b1 (σ.1 118) (σ.1 119) (σ.1 120) (σ.1 122) (SN (σ.1 118) (σ.1 119) (σ.1 120) (σ.1 122)) (eV (σ.1 118) (σ.1 119) (σ.1 120) x)) (fun c => ¬ r c = 0) i) → vg_K Z M_R_findSingle G 0 0 270 [(4, .int (nI i)), (3, .int (nI d)), (0, .ref (ad 117)), (1, .int (-1)), (2, .int x)] [] (wd Z ad (sI σ 134 (upd r i X))) := by
      intro hin X hX
      refine vg_iinc (v := nI (i + 1)) C d_R_findSingle_270 rfl (nI_1 i) (Nat.le_of_ble_eq_true rfl) rfl ?_
      refine vg_goto (tgt := 32) C d_R_findSingle_273 (by decide) ?_
      exact ih (i + 1) _ (by omega) (by omega) (by rw [hX]; exact RI_step hG.1.1 (b1_cg _ _ hG.1.1) (fun p hp => S1_un hG.1.1 hH _ hp) hin hI)
    refine vg_iload C d_R_findSingle_32 rfl ?_
    refine vg_aload_n C d_R_findSingle_34 rfl ?_
    refine wr_get C d_R_findSingle_35 f_R_73 rfl rfl rfl rfl ?_
    rw [sI_ne _ (by decide), hG.2]
    refine vg_icmp_ge (tgt := 276) C d_R_findSingle_38 (by decide) (fun c_38 => ?_) (fun c_38 => ?_)
    · rw [nI_leI (by omega) (by omega)] at c_38
      refine vg_lv [1, 2, 3, 4] rfl ?_
      exact hk r (by rw [show n = i by omega] at hI ⊢; exact hI)
    · rw [nI_leI (by omega) (by omega)] at c_38
      refine vg_aload_n C d_R_findSingle_41 rfl ?_
      refine wr_get C d_R_findSingle_42 f_R_13 rfl rfl rfl rfl ?_
      refine vg_iload C d_R_findSingle_45 rfl ?_
      refine wr_iald C d_R_findSingle_47 rfl rfl (by exact vp_in_nI (by omega) (by decide)) ?_
      rw [nI_clamp (by omega), sI_ne _ (by decide)]
      refine vg_istore C d_R_findSingle_48 (Nat.le_of_ble_eq_true rfl) rfl ?_
      refine vg_aload_n C d_R_findSingle_50 rfl ?_
      refine wr_get C d_R_findSingle_51 f_R_16 rfl rfl rfl rfl ?_
      refine vg_iload C d_R_findSingle_54 rfl ?_
      refine wr_iald C d_R_findSingle_56 rfl rfl (by exact vp_in_nI (by omega) (by decide)) ?_
      rw [nI_clamp (by omega), sI_ne _ (by decide)]
      refine vg_istore C d_R_findSingle_57 (Nat.le_of_ble_eq_true rfl) rfl ?_
      refine vg_aload_n C d_R_findSingle_59 rfl ?_
      refine wr_get C d_R_findSingle_60 f_R_7 rfl rfl rfl rfl ?_
      refine vg_iload C d_R_findSingle_63 rfl ?_
      refine wr_iald C d_R_findSingle_65 rfl rfl (by exact vp_in_nI (by omega) (by decide)) ?_
      rw [nI_clamp (by omega), sI_ne _ (by decide)]
      obtain ⟨j_66, hj_66, es_66⟩ := hG.1.2 i (by omega)
      rcases (show j_66 = 0 ∨ j_66 = 1 ∨ j_66 = 2 ∨ j_66 = 3 ∨ j_66 = 4 ∨ j_66 = 5 ∨ j_66 = 6 ∨ j_66 = 7 ∨ j_66 = 8 ∨ j_66 = 9 ∨ j_66 = 10 by omega) with rfl | rfl | rfl | rfl | rfl | rfl | rfl | rfl | rfl | rfl | rfl
      · skip
        rw [es_66]
        refine vg_tabOut (tgt := 255) C d_R_findSingle_66 (by decide) (by decide) ?_
        refine vg_aload_n C d_R_findSingle_255 rfl ?_
        refine wr_get C d_R_findSingle_256 f_R_64 rfl rfl rfl rfl ?_
        refine vg_iload C d_R_findSingle_259 rfl ?_
        refine vg_aload_n C d_R_findSingle_261 rfl ?_
        refine vg_iload C d_R_findSingle_262 rfl ?_
        refine vg_iload_n C d_R_findSingle_264 rfl ?_
        refine vg_iload_n C d_R_findSingle_265 rfl ?_
        refine wr_callV (As := [_, _, _]) C (c_R_oneT Z hst ad (sI σ 134 r) i (by omega) x) l_R_findSingle_R_one k_R_98 rfl rfl rfl rfl rfl (Nat.le_of_ble_eq_true rfl) d_R_findSingle_266 ⟨Nat.le_of_ble_eq_true rfl, Nat.le_of_ble_eq_true rfl⟩ (fun v_266 w_266 h_266 => ?_)
        obtain ⟨rfl, rfl⟩ := h_266
        refine wr_zast C d_R_findSingle_269 rfl rfl (by exact vp_in_nI (by omega) (by decide)) ?_
        refine vg_lv [2, 3, 4, 5, 6] rfl ?_
        (try rw [nI_clamp (show i < 2 ^ 31 by omega)])
        rw [sI_sI, sI_at]
        refine S (by omega) _ ?_
        first
          | exact (bP_t ((b1_4 es_66).mpr (Or.inl (And.intro c_121 c_131)))).symm
          | exact (bP_t ((b1_4 es_66).mpr (Or.inr (And.intro c_141 c_151)))).symm
          | exact (bP_f (fun h => ((b1_4 es_66).mp h).elim (fun z => absurd c_121 z.1) (fun z => absurd z.1 c_141))).symm
          | exact (bP_f (fun h => ((b1_4 es_66).mp h).elim (fun z => absurd c_121 z.1) (fun z => absurd c_151 z.2))).symm
          | exact (bP_f (fun h => ((b1_4 es_66).mp h).elim (fun z => absurd z.2 c_131) (fun z => absurd z.1 c_141))).symm
          | exact (bP_f (fun h => ((b1_4 es_66).mp h).elim (fun z => absurd z.2 c_131) (fun z => absurd c_151 z.2))).symm
          | exact (bP_t ((b1_5 es_66).mpr (Or.inl (And.intro c_121 c_131)))).symm
          | exact (bP_t ((b1_5 es_66).mpr (Or.inr (And.intro c_141 c_151)))).symm
          | exact (bP_f (fun h => ((b1_5 es_66).mp h).elim (fun z => absurd c_121 z.1) (fun z => absurd z.1 c_141))).symm
          | exact (bP_f (fun h => ((b1_5 es_66).mp h).elim (fun z => absurd c_121 z.1) (fun z => absurd c_151 z.2))).symm
          | exact (bP_f (fun h => ((b1_5 es_66).mp h).elim (fun z => absurd z.2 c_131) (fun z => absurd z.1 c_141))).symm
          | exact (bP_f (fun h => ((b1_5 es_66).mp h).elim (fun z => absurd z.2 c_131) (fun z => absurd c_151 z.2))).symm
          | exact (bP_t ((b1_6 es_66).mpr (Or.inl c_176))).symm
          | exact (bP_t ((b1_6 es_66).mpr (Or.inr c_186))).symm
          | exact (bP_f (fun h => ((b1_6 es_66).mp h).elim (fun z => absurd c_176 z) (fun z => absurd c_186 z))).symm
          | (rw [hI.1 _ ca, nar_b]; exact bP_congr (b1_7 (F := fun c => ¬ r c = 0) es_66).symm)
          | exact (bP_t ((b1_10 es_66).mpr (Exists.intro c (And.intro (by omega) (And.intro (by rw [ot_e (by omega) hfd]; exact hgc) c_243))))).symm
          | exact (bP_f (fun h => absurd c_243 (DN (show c < 40 by omega) (by rw [ot_e (by omega) hfd]; exact hgc) ((b1_10 es_66).mp h)))).symm
          | exact (bP_f (fun h => DM (by rw [ot_e (by omega) hfd]; exact c_228) ((b1_10 es_66).mp h))).symm
          | (rw [nar_b]; exact bP_congr (b1_2 (F := fun c => ¬ r c = 0) es_66).symm)
          | (rw [nar_b]; exact bP_congr (b1_3 (F := fun c => ¬ r c = 0) es_66).symm)
          | (rw [nar_b]; exact bP_congr (b1_8 (F := fun c => ¬ r c = 0) es_66).symm)
          | (rw [nar_b]; exact bP_congr (Iff.intro (fun h => absurd (e_k h) (by rw [es_66]; decide)) (fun h => ((b1_0 (F := fun c => ¬ r c = 0) es_66).mp h).elim)))
          | (rw [nar_b]; exact bP_congr (Iff.intro (fun h => absurd (e_k h) (by rw [es_66]; decide)) (fun h => ((b1_1 (F := fun c => ¬ r c = 0) es_66).mp h).elim)))
          | (rw [nar_b]; exact bP_congr (Iff.intro (fun h => absurd (e_k h) (by rw [es_66]; decide)) (fun h => ((b1_9 (F := fun c => ¬ r c = 0) es_66).mp h).elim)))
      · skip
        rw [es_66]
        refine vg_tabOut (tgt := 255) C d_R_findSingle_66 (by decide) (by decide) ?_
        refine vg_aload_n C d_R_findSingle_255 rfl ?_
        refine wr_get C d_R_findSingle_256 f_R_64 rfl rfl rfl rfl ?_
        refine vg_iload C d_R_findSingle_259 rfl ?_
        refine vg_aload_n C d_R_findSingle_261 rfl ?_
        refine vg_iload C d_R_findSingle_262 rfl ?_
        refine vg_iload_n C d_R_findSingle_264 rfl ?_
        refine vg_iload_n C d_R_findSingle_265 rfl ?_
        refine wr_callV (As := [_, _, _]) C (c_R_oneT Z hst ad (sI σ 134 r) i (by omega) x) l_R_findSingle_R_one k_R_98 rfl rfl rfl rfl rfl (Nat.le_of_ble_eq_true rfl) d_R_findSingle_266 ⟨Nat.le_of_ble_eq_true rfl, Nat.le_of_ble_eq_true rfl⟩ (fun v_266 w_266 h_266 => ?_)
        obtain ⟨rfl, rfl⟩ := h_266
        refine wr_zast C d_R_findSingle_269 rfl rfl (by exact vp_in_nI (by omega) (by decide)) ?_
        refine vg_lv [2, 3, 4, 5, 6] rfl ?_
        (try rw [nI_clamp (show i < 2 ^ 31 by omega)])
        rw [sI_sI, sI_at]
        refine S (by omega) _ ?_
        first
          | exact (bP_t ((b1_4 es_66).mpr (Or.inl (And.intro c_121 c_131)))).symm
          | exact (bP_t ((b1_4 es_66).mpr (Or.inr (And.intro c_141 c_151)))).symm
          | exact (bP_f (fun h => ((b1_4 es_66).mp h).elim (fun z => absurd c_121 z.1) (fun z => absurd z.1 c_141))).symm
          | exact (bP_f (fun h => ((b1_4 es_66).mp h).elim (fun z => absurd c_121 z.1) (fun z => absurd c_151 z.2))).symm
          | exact (bP_f (fun h => ((b1_4 es_66).mp h).elim (fun z => absurd z.2 c_131) (fun z => absurd z.1 c_141))).symm
          | exact (bP_f (fun h => ((b1_4 es_66).mp h).elim (fun z => absurd z.2 c_131) (fun z => absurd c_151 z.2))).symm
          | exact (bP_t ((b1_5 es_66).mpr (Or.inl (And.intro c_121 c_131)))).symm
          | exact (bP_t ((b1_5 es_66).mpr (Or.inr (And.intro c_141 c_151)))).symm
          | exact (bP_f (fun h => ((b1_5 es_66).mp h).elim (fun z => absurd c_121 z.1) (fun z => absurd z.1 c_141))).symm
          | exact (bP_f (fun h => ((b1_5 es_66).mp h).elim (fun z => absurd c_121 z.1) (fun z => absurd c_151 z.2))).symm
          | exact (bP_f (fun h => ((b1_5 es_66).mp h).elim (fun z => absurd z.2 c_131) (fun z => absurd z.1 c_141))).symm
          | exact (bP_f (fun h => ((b1_5 es_66).mp h).elim (fun z => absurd z.2 c_131) (fun z => absurd c_151 z.2))).symm
          | exact (bP_t ((b1_6 es_66).mpr (Or.inl c_176))).symm
          | exact (bP_t ((b1_6 es_66).mpr (Or.inr c_186))).symm
          | exact (bP_f (fun h => ((b1_6 es_66).mp h).elim (fun z => absurd c_176 z) (fun z => absurd c_186 z))).symm
          | (rw [hI.1 _ ca, nar_b]; exact bP_congr (b1_7 (F := fun c => ¬ r c = 0) es_66).symm)
          | exact (bP_t ((b1_10 es_66).mpr (Exists.intro c (And.intro (by omega) (And.intro (by rw [ot_e (by omega) hfd]; exact hgc) c_243))))).symm
          | exact (bP_f (fun h => absurd c_243 (DN (show c < 40 by omega) (by rw [ot_e (by omega) hfd]; exact hgc) ((b1_10 es_66).mp h)))).symm
          | exact (bP_f (fun h => DM (by rw [ot_e (by omega) hfd]; exact c_228) ((b1_10 es_66).mp h))).symm
          | (rw [nar_b]; exact bP_congr (b1_2 (F := fun c => ¬ r c = 0) es_66).symm)
          | (rw [nar_b]; exact bP_congr (b1_3 (F := fun c => ¬ r c = 0) es_66).symm)
          | (rw [nar_b]; exact bP_congr (b1_8 (F := fun c => ¬ r c = 0) es_66).symm)
          | (rw [nar_b]; exact bP_congr (Iff.intro (fun h => absurd (e_k h) (by rw [es_66]; decide)) (fun h => ((b1_0 (F := fun c => ¬ r c = 0) es_66).mp h).elim)))
          | (rw [nar_b]; exact bP_congr (Iff.intro (fun h => absurd (e_k h) (by rw [es_66]; decide)) (fun h => ((b1_1 (F := fun c => ¬ r c = 0) es_66).mp h).elim)))
          | (rw [nar_b]; exact bP_congr (Iff.intro (fun h => absurd (e_k h) (by rw [es_66]; decide)) (fun h => ((b1_9 (F := fun c => ¬ r c = 0) es_66).mp h).elim)))
      · skip
        rw [es_66]
        refine vg_tabOut (tgt := 255) C d_R_findSingle_66 (by decide) (by decide) ?_
        refine vg_aload_n C d_R_findSingle_255 rfl ?_
        refine wr_get C d_R_findSingle_256 f_R_64 rfl rfl rfl rfl ?_
        refine vg_iload C d_R_findSingle_259 rfl ?_
        refine vg_aload_n C d_R_findSingle_261 rfl ?_
        refine vg_iload C d_R_findSingle_262 rfl ?_
        refine vg_iload_n C d_R_findSingle_264 rfl ?_
        refine vg_iload_n C d_R_findSingle_265 rfl ?_
        refine wr_callV (As := [_, _, _]) C (c_R_oneT Z hst ad (sI σ 134 r) i (by omega) x) l_R_findSingle_R_one k_R_98 rfl rfl rfl rfl rfl (Nat.le_of_ble_eq_true rfl) d_R_findSingle_266 ⟨Nat.le_of_ble_eq_true rfl, Nat.le_of_ble_eq_true rfl⟩ (fun v_266 w_266 h_266 => ?_)
        obtain ⟨rfl, rfl⟩ := h_266
        refine wr_zast C d_R_findSingle_269 rfl rfl (by exact vp_in_nI (by omega) (by decide)) ?_
        refine vg_lv [2, 3, 4, 5, 6] rfl ?_
        (try rw [nI_clamp (show i < 2 ^ 31 by omega)])
        rw [sI_sI, sI_at]
        refine S (by omega) _ ?_
        first
          | exact (bP_t ((b1_4 es_66).mpr (Or.inl (And.intro c_121 c_131)))).symm
          | exact (bP_t ((b1_4 es_66).mpr (Or.inr (And.intro c_141 c_151)))).symm
          | exact (bP_f (fun h => ((b1_4 es_66).mp h).elim (fun z => absurd c_121 z.1) (fun z => absurd z.1 c_141))).symm
          | exact (bP_f (fun h => ((b1_4 es_66).mp h).elim (fun z => absurd c_121 z.1) (fun z => absurd c_151 z.2))).symm
          | exact (bP_f (fun h => ((b1_4 es_66).mp h).elim (fun z => absurd z.2 c_131) (fun z => absurd z.1 c_141))).symm
          | exact (bP_f (fun h => ((b1_4 es_66).mp h).elim (fun z => absurd z.2 c_131) (fun z => absurd c_151 z.2))).symm
          | exact (bP_t ((b1_5 es_66).mpr (Or.inl (And.intro c_121 c_131)))).symm
          | exact (bP_t ((b1_5 es_66).mpr (Or.inr (And.intro c_141 c_151)))).symm
          | exact (bP_f (fun h => ((b1_5 es_66).mp h).elim (fun z => absurd c_121 z.1) (fun z => absurd z.1 c_141))).symm
          | exact (bP_f (fun h => ((b1_5 es_66).mp h).elim (fun z => absurd c_121 z.1) (fun z => absurd c_151 z.2))).symm
          | exact (bP_f (fun h => ((b1_5 es_66).mp h).elim (fun z => absurd z.2 c_131) (fun z => absurd z.1 c_141))).symm
          | exact (bP_f (fun h => ((b1_5 es_66).mp h).elim (fun z => absurd z.2 c_131) (fun z => absurd c_151 z.2))).symm
          | exact (bP_t ((b1_6 es_66).mpr (Or.inl c_176))).symm
          | exact (bP_t ((b1_6 es_66).mpr (Or.inr c_186))).symm
          | exact (bP_f (fun h => ((b1_6 es_66).mp h).elim (fun z => absurd c_176 z) (fun z => absurd c_186 z))).symm
          | (rw [hI.1 _ ca, nar_b]; exact bP_congr (b1_7 (F := fun c => ¬ r c = 0) es_66).symm)
          | exact (bP_t ((b1_10 es_66).mpr (Exists.intro c (And.intro (by omega) (And.intro (by rw [ot_e (by omega) hfd]; exact hgc) c_243))))).symm
          | exact (bP_f (fun h => absurd c_243 (DN (show c < 40 by omega) (by rw [ot_e (by omega) hfd]; exact hgc) ((b1_10 es_66).mp h)))).symm
          | exact (bP_f (fun h => DM (by rw [ot_e (by omega) hfd]; exact c_228) ((b1_10 es_66).mp h))).symm
          | (rw [nar_b]; exact bP_congr (b1_2 (F := fun c => ¬ r c = 0) es_66).symm)
          | (rw [nar_b]; exact bP_congr (b1_3 (F := fun c => ¬ r c = 0) es_66).symm)
          | (rw [nar_b]; exact bP_congr (b1_8 (F := fun c => ¬ r c = 0) es_66).symm)
          | (rw [nar_b]; exact bP_congr (Iff.intro (fun h => absurd (e_k h) (by rw [es_66]; decide)) (fun h => ((b1_0 (F := fun c => ¬ r c = 0) es_66).mp h).elim)))
          | (rw [nar_b]; exact bP_congr (Iff.intro (fun h => absurd (e_k h) (by rw [es_66]; decide)) (fun h => ((b1_1 (F := fun c => ¬ r c = 0) es_66).mp h).elim)))
          | (rw [nar_b]; exact bP_congr (Iff.intro (fun h => absurd (e_k h) (by rw [es_66]; decide)) (fun h => ((b1_9 (F := fun c => ¬ r c = 0) es_66).mp h).elim)))
      · skip
        rw [es_66]
        refine vg_tabOut (tgt := 255) C d_R_findSingle_66 (by decide) (by decide) ?_
        refine vg_aload_n C d_R_findSingle_255 rfl ?_
        refine wr_get C d_R_findSingle_256 f_R_64 rfl rfl rfl rfl ?_
        refine vg_iload C d_R_findSingle_259 rfl ?_
        refine vg_aload_n C d_R_findSingle_261 rfl ?_
        refine vg_iload C d_R_findSingle_262 rfl ?_
        refine vg_iload_n C d_R_findSingle_264 rfl ?_
        refine vg_iload_n C d_R_findSingle_265 rfl ?_
        refine wr_callV (As := [_, _, _]) C (c_R_oneT Z hst ad (sI σ 134 r) i (by omega) x) l_R_findSingle_R_one k_R_98 rfl rfl rfl rfl rfl (Nat.le_of_ble_eq_true rfl) d_R_findSingle_266 ⟨Nat.le_of_ble_eq_true rfl, Nat.le_of_ble_eq_true rfl⟩ (fun v_266 w_266 h_266 => ?_)
        obtain ⟨rfl, rfl⟩ := h_266
        refine wr_zast C d_R_findSingle_269 rfl rfl (by exact vp_in_nI (by omega) (by decide)) ?_
        refine vg_lv [2, 3, 4, 5, 6] rfl ?_
        (try rw [nI_clamp (show i < 2 ^ 31 by omega)])
        rw [sI_sI, sI_at]
        refine S (by omega) _ ?_
        first
          | exact (bP_t ((b1_4 es_66).mpr (Or.inl (And.intro c_121 c_131)))).symm
          | exact (bP_t ((b1_4 es_66).mpr (Or.inr (And.intro c_141 c_151)))).symm
          | exact (bP_f (fun h => ((b1_4 es_66).mp h).elim (fun z => absurd c_121 z.1) (fun z => absurd z.1 c_141))).symm
          | exact (bP_f (fun h => ((b1_4 es_66).mp h).elim (fun z => absurd c_121 z.1) (fun z => absurd c_151 z.2))).symm
          | exact (bP_f (fun h => ((b1_4 es_66).mp h).elim (fun z => absurd z.2 c_131) (fun z => absurd z.1 c_141))).symm
          | exact (bP_f (fun h => ((b1_4 es_66).mp h).elim (fun z => absurd z.2 c_131) (fun z => absurd c_151 z.2))).symm
          | exact (bP_t ((b1_5 es_66).mpr (Or.inl (And.intro c_121 c_131)))).symm
          | exact (bP_t ((b1_5 es_66).mpr (Or.inr (And.intro c_141 c_151)))).symm
          | exact (bP_f (fun h => ((b1_5 es_66).mp h).elim (fun z => absurd c_121 z.1) (fun z => absurd z.1 c_141))).symm
          | exact (bP_f (fun h => ((b1_5 es_66).mp h).elim (fun z => absurd c_121 z.1) (fun z => absurd c_151 z.2))).symm
          | exact (bP_f (fun h => ((b1_5 es_66).mp h).elim (fun z => absurd z.2 c_131) (fun z => absurd z.1 c_141))).symm
          | exact (bP_f (fun h => ((b1_5 es_66).mp h).elim (fun z => absurd z.2 c_131) (fun z => absurd c_151 z.2))).symm
          | exact (bP_t ((b1_6 es_66).mpr (Or.inl c_176))).symm
          | exact (bP_t ((b1_6 es_66).mpr (Or.inr c_186))).symm
          | exact (bP_f (fun h => ((b1_6 es_66).mp h).elim (fun z => absurd c_176 z) (fun z => absurd c_186 z))).symm
          | (rw [hI.1 _ ca, nar_b]; exact bP_congr (b1_7 (F := fun c => ¬ r c = 0) es_66).symm)
          | exact (bP_t ((b1_10 es_66).mpr (Exists.intro c (And.intro (by omega) (And.intro (by rw [ot_e (by omega) hfd]; exact hgc) c_243))))).symm
          | exact (bP_f (fun h => absurd c_243 (DN (show c < 40 by omega) (by rw [ot_e (by omega) hfd]; exact hgc) ((b1_10 es_66).mp h)))).symm
          | exact (bP_f (fun h => DM (by rw [ot_e (by omega) hfd]; exact c_228) ((b1_10 es_66).mp h))).symm
          | (rw [nar_b]; exact bP_congr (b1_2 (F := fun c => ¬ r c = 0) es_66).symm)
          | (rw [nar_b]; exact bP_congr (b1_3 (F := fun c => ¬ r c = 0) es_66).symm)
          | (rw [nar_b]; exact bP_congr (b1_8 (F := fun c => ¬ r c = 0) es_66).symm)
          | (rw [nar_b]; exact bP_congr (Iff.intro (fun h => absurd (e_k h) (by rw [es_66]; decide)) (fun h => ((b1_0 (F := fun c => ¬ r c = 0) es_66).mp h).elim)))
          | (rw [nar_b]; exact bP_congr (Iff.intro (fun h => absurd (e_k h) (by rw [es_66]; decide)) (fun h => ((b1_1 (F := fun c => ¬ r c = 0) es_66).mp h).elim)))
          | (rw [nar_b]; exact bP_congr (Iff.intro (fun h => absurd (e_k h) (by rw [es_66]; decide)) (fun h => ((b1_9 (F := fun c => ¬ r c = 0) es_66).mp h).elim)))
      · skip
        rw [es_66]
        refine vg_tabIn (tgt := 108) C d_R_findSingle_66 (by decide) (by decide) rfl (by decide) ?_
        obtain ⟨ca, ea, -⟩ := Ch_f hG.1.1 (p := i) (by omega) (by rw [es_66]; decide)
        rw [ea]
        obtain ⟨cb, eb, -⟩ := Ch_s hG.1.1 (p := i) (by omega) (by rw [es_66]; decide)
        rw [eb]
        have cn1 := (c_fn hG.1.1 hH (p := i) (by rw [es_66]; decide) (by omega)).1
        have cn2 := (c_sn hG.1.1 hH (p := i) (by rw [es_66]; decide) (by omega)).1
        refine vg_aload_n C d_R_findSingle_108 rfl ?_
        refine wr_get C d_R_findSingle_109 f_R_64 rfl rfl rfl rfl ?_
        refine vg_iload C d_R_findSingle_112 rfl ?_
        refine vg_aload_n C d_R_findSingle_114 rfl ?_
        refine wr_get C d_R_findSingle_115 f_R_64 rfl rfl rfl rfl ?_
        refine vg_iload C d_R_findSingle_118 rfl ?_
        refine wr_zald C d_R_findSingle_120 rfl rfl (by exact vp_in_nI (by omega) (by decide)) ?_
        rw [nI_clamp (by omega), sI_at]
        refine vg_if_eq (tgt := 134) C d_R_findSingle_121 (by decide) (fun c_121 => ?_) (fun c_121 => ?_)
        · skip
          refine vg_aload_n C d_R_findSingle_134 rfl ?_
          refine wr_get C d_R_findSingle_135 f_R_61 rfl rfl rfl rfl ?_
          refine vg_iload C d_R_findSingle_138 rfl ?_
          refine wr_zald C d_R_findSingle_140 rfl rfl (by exact vp_in_nI (by omega) (by decide)) ?_
          rw [nI_clamp (by omega), sI_ne _ (by decide), hN _ cn1]
          refine vg_if_eq (tgt := 158) C d_R_findSingle_141 (by decide) (fun c_141 => ?_) (fun c_141 => ?_)
          · rw [bP_eq] at c_141; (try simp only [Classical.not_not] at c_141)
            refine vg_iconst (v := 0) C d_R_findSingle_158 (by decide) ?_
            refine wr_zast C d_R_findSingle_159 rfl rfl (by exact vp_in_nI (by omega) (by decide)) ?_
            rw [nI_clamp (by omega)]
            refine vg_goto (tgt := 270) C d_R_findSingle_160 (by decide) ?_
            refine vg_lv [2, 3, 4, 5, 6] rfl ?_
            (try rw [nI_clamp (show i < 2 ^ 31 by omega)])
            rw [sI_sI, sI_at]
            refine S (by omega) _ ?_
            first
              | exact (bP_t ((b1_4 es_66).mpr (Or.inl (And.intro c_121 c_131)))).symm
              | exact (bP_t ((b1_4 es_66).mpr (Or.inr (And.intro c_141 c_151)))).symm
              | exact (bP_f (fun h => ((b1_4 es_66).mp h).elim (fun z => absurd c_121 z.1) (fun z => absurd z.1 c_141))).symm
              | exact (bP_f (fun h => ((b1_4 es_66).mp h).elim (fun z => absurd c_121 z.1) (fun z => absurd c_151 z.2))).symm
              | exact (bP_f (fun h => ((b1_4 es_66).mp h).elim (fun z => absurd z.2 c_131) (fun z => absurd z.1 c_141))).symm
              | exact (bP_f (fun h => ((b1_4 es_66).mp h).elim (fun z => absurd z.2 c_131) (fun z => absurd c_151 z.2))).symm
              | exact (bP_t ((b1_5 es_66).mpr (Or.inl (And.intro c_121 c_131)))).symm
              | exact (bP_t ((b1_5 es_66).mpr (Or.inr (And.intro c_141 c_151)))).symm
              | exact (bP_f (fun h => ((b1_5 es_66).mp h).elim (fun z => absurd c_121 z.1) (fun z => absurd z.1 c_141))).symm
              | exact (bP_f (fun h => ((b1_5 es_66).mp h).elim (fun z => absurd c_121 z.1) (fun z => absurd c_151 z.2))).symm
              | exact (bP_f (fun h => ((b1_5 es_66).mp h).elim (fun z => absurd z.2 c_131) (fun z => absurd z.1 c_141))).symm
              | exact (bP_f (fun h => ((b1_5 es_66).mp h).elim (fun z => absurd z.2 c_131) (fun z => absurd c_151 z.2))).symm
              | exact (bP_t ((b1_6 es_66).mpr (Or.inl c_176))).symm
              | exact (bP_t ((b1_6 es_66).mpr (Or.inr c_186))).symm
              | exact (bP_f (fun h => ((b1_6 es_66).mp h).elim (fun z => absurd c_176 z) (fun z => absurd c_186 z))).symm
              | (rw [hI.1 _ ca, nar_b]; exact bP_congr (b1_7 (F := fun c => ¬ r c = 0) es_66).symm)
              | exact (bP_t ((b1_10 es_66).mpr (Exists.intro c (And.intro (by omega) (And.intro (by rw [ot_e (by omega) hfd]; exact hgc) c_243))))).symm
              | exact (bP_f (fun h => absurd c_243 (DN (show c < 40 by omega) (by rw [ot_e (by omega) hfd]; exact hgc) ((b1_10 es_66).mp h)))).symm
              | exact (bP_f (fun h => DM (by rw [ot_e (by omega) hfd]; exact c_228) ((b1_10 es_66).mp h))).symm
              | (rw [nar_b]; exact bP_congr (b1_2 (F := fun c => ¬ r c = 0) es_66).symm)
              | (rw [nar_b]; exact bP_congr (b1_3 (F := fun c => ¬ r c = 0) es_66).symm)
              | (rw [nar_b]; exact bP_congr (b1_8 (F := fun c => ¬ r c = 0) es_66).symm)
              | (rw [nar_b]; exact bP_congr (Iff.intro (fun h => absurd (e_k h) (by rw [es_66]; decide)) (fun h => ((b1_0 (F := fun c => ¬ r c = 0) es_66).mp h).elim)))
              | (rw [nar_b]; exact bP_congr (Iff.intro (fun h => absurd (e_k h) (by rw [es_66]; decide)) (fun h => ((b1_1 (F := fun c => ¬ r c = 0) es_66).mp h).elim)))
              | (rw [nar_b]; exact bP_congr (Iff.intro (fun h => absurd (e_k h) (by rw [es_66]; decide)) (fun h => ((b1_9 (F := fun c => ¬ r c = 0) es_66).mp h).elim)))
          · rw [bP_eq] at c_141; (try simp only [Classical.not_not] at c_141)
            refine vg_aload_n C d_R_findSingle_144 rfl ?_
            refine wr_get C d_R_findSingle_145 f_R_64 rfl rfl rfl rfl ?_
            refine vg_iload C d_R_findSingle_148 rfl ?_
            refine wr_zald C d_R_findSingle_150 rfl rfl (by exact vp_in_nI (by omega) (by decide)) ?_
            rw [nI_clamp (by omega), sI_at]
            refine vg_if_eq (tgt := 158) C d_R_findSingle_151 (by decide) (fun c_151 => ?_) (fun c_151 => ?_)
            · skip
              refine vg_iconst (v := 0) C d_R_findSingle_158 (by decide) ?_
              refine wr_zast C d_R_findSingle_159 rfl rfl (by exact vp_in_nI (by omega) (by decide)) ?_
              rw [nI_clamp (by omega)]
              refine vg_goto (tgt := 270) C d_R_findSingle_160 (by decide) ?_
              refine vg_lv [2, 3, 4, 5, 6] rfl ?_
              (try rw [nI_clamp (show i < 2 ^ 31 by omega)])
              rw [sI_sI, sI_at]
              refine S (by omega) _ ?_
              first
                | exact (bP_t ((b1_4 es_66).mpr (Or.inl (And.intro c_121 c_131)))).symm
                | exact (bP_t ((b1_4 es_66).mpr (Or.inr (And.intro c_141 c_151)))).symm
                | exact (bP_f (fun h => ((b1_4 es_66).mp h).elim (fun z => absurd c_121 z.1) (fun z => absurd z.1 c_141))).symm
                | exact (bP_f (fun h => ((b1_4 es_66).mp h).elim (fun z => absurd c_121 z.1) (fun z => absurd c_151 z.2))).symm
                | exact (bP_f (fun h => ((b1_4 es_66).mp h).elim (fun z => absurd z.2 c_131) (fun z => absurd z.1 c_141))).symm
                | exact (bP_f (fun h => ((b1_4 es_66).mp h).elim (fun z => absurd z.2 c_131) (fun z => absurd c_151 z.2))).symm
                | exact (bP_t ((b1_5 es_66).mpr (Or.inl (And.intro c_121 c_131)))).symm
                | exact (bP_t ((b1_5 es_66).mpr (Or.inr (And.intro c_141 c_151)))).symm
                | exact (bP_f (fun h => ((b1_5 es_66).mp h).elim (fun z => absurd c_121 z.1) (fun z => absurd z.1 c_141))).symm
                | exact (bP_f (fun h => ((b1_5 es_66).mp h).elim (fun z => absurd c_121 z.1) (fun z => absurd c_151 z.2))).symm
                | exact (bP_f (fun h => ((b1_5 es_66).mp h).elim (fun z => absurd z.2 c_131) (fun z => absurd z.1 c_141))).symm
                | exact (bP_f (fun h => ((b1_5 es_66).mp h).elim (fun z => absurd z.2 c_131) (fun z => absurd c_151 z.2))).symm
                | exact (bP_t ((b1_6 es_66).mpr (Or.inl c_176))).symm
                | exact (bP_t ((b1_6 es_66).mpr (Or.inr c_186))).symm
                | exact (bP_f (fun h => ((b1_6 es_66).mp h).elim (fun z => absurd c_176 z) (fun z => absurd c_186 z))).symm
                | (rw [hI.1 _ ca, nar_b]; exact bP_congr (b1_7 (F := fun c => ¬ r c = 0) es_66).symm)
                | exact (bP_t ((b1_10 es_66).mpr (Exists.intro c (And.intro (by omega) (And.intro (by rw [ot_e (by omega) hfd]; exact hgc) c_243))))).symm
                | exact (bP_f (fun h => absurd c_243 (DN (show c < 40 by omega) (by rw [ot_e (by omega) hfd]; exact hgc) ((b1_10 es_66).mp h)))).symm
                | exact (bP_f (fun h => DM (by rw [ot_e (by omega) hfd]; exact c_228) ((b1_10 es_66).mp h))).symm
                | (rw [nar_b]; exact bP_congr (b1_2 (F := fun c => ¬ r c = 0) es_66).symm)
                | (rw [nar_b]; exact bP_congr (b1_3 (F := fun c => ¬ r c = 0) es_66).symm)
                | (rw [nar_b]; exact bP_congr (b1_8 (F := fun c => ¬ r c = 0) es_66).symm)
                | (rw [nar_b]; exact bP_congr (Iff.intro (fun h => absurd (e_k h) (by rw [es_66]; decide)) (fun h => ((b1_0 (F := fun c => ¬ r c = 0) es_66).mp h).elim)))
                | (rw [nar_b]; exact bP_congr (Iff.intro (fun h => absurd (e_k h) (by rw [es_66]; decide)) (fun h => ((b1_1 (F := fun c => ¬ r c = 0) es_66).mp h).elim)))
                | (rw [nar_b]; exact bP_congr (Iff.intro (fun h => absurd (e_k h) (by rw [es_66]; decide)) (fun h => ((b1_9 (F := fun c => ¬ r c = 0) es_66).mp h).elim)))
            · skip
              refine vg_iconst (v := 1) C d_R_findSingle_154 (by decide) ?_
              refine vg_goto (tgt := 159) C d_R_findSingle_155 (by decide) ?_
              refine wr_zast C d_R_findSingle_159 rfl rfl (by exact vp_in_nI (by omega) (by decide)) ?_
              rw [nI_clamp (by omega)]
              refine vg_goto (tgt := 270) C d_R_findSingle_160 (by decide) ?_
              refine vg_lv [2, 3, 4, 5, 6] rfl ?_
              (try rw [nI_clamp (show i < 2 ^ 31 by omega)])
              rw [sI_sI, sI_at]
              refine S (by omega) _ ?_
              first
                | exact (bP_t ((b1_4 es_66).mpr (Or.inl (And.intro c_121 c_131)))).symm
                | exact (bP_t ((b1_4 es_66).mpr (Or.inr (And.intro c_141 c_151)))).symm
                | exact (bP_f (fun h => ((b1_4 es_66).mp h).elim (fun z => absurd c_121 z.1) (fun z => absurd z.1 c_141))).symm
                | exact (bP_f (fun h => ((b1_4 es_66).mp h).elim (fun z => absurd c_121 z.1) (fun z => absurd c_151 z.2))).symm
                | exact (bP_f (fun h => ((b1_4 es_66).mp h).elim (fun z => absurd z.2 c_131) (fun z => absurd z.1 c_141))).symm
                | exact (bP_f (fun h => ((b1_4 es_66).mp h).elim (fun z => absurd z.2 c_131) (fun z => absurd c_151 z.2))).symm
                | exact (bP_t ((b1_5 es_66).mpr (Or.inl (And.intro c_121 c_131)))).symm
                | exact (bP_t ((b1_5 es_66).mpr (Or.inr (And.intro c_141 c_151)))).symm
                | exact (bP_f (fun h => ((b1_5 es_66).mp h).elim (fun z => absurd c_121 z.1) (fun z => absurd z.1 c_141))).symm
                | exact (bP_f (fun h => ((b1_5 es_66).mp h).elim (fun z => absurd c_121 z.1) (fun z => absurd c_151 z.2))).symm
                | exact (bP_f (fun h => ((b1_5 es_66).mp h).elim (fun z => absurd z.2 c_131) (fun z => absurd z.1 c_141))).symm
                | exact (bP_f (fun h => ((b1_5 es_66).mp h).elim (fun z => absurd z.2 c_131) (fun z => absurd c_151 z.2))).symm
                | exact (bP_t ((b1_6 es_66).mpr (Or.inl c_176))).symm
                | exact (bP_t ((b1_6 es_66).mpr (Or.inr c_186))).symm
                | exact (bP_f (fun h => ((b1_6 es_66).mp h).elim (fun z => absurd c_176 z) (fun z => absurd c_186 z))).symm
                | (rw [hI.1 _ ca, nar_b]; exact bP_congr (b1_7 (F := fun c => ¬ r c = 0) es_66).symm)
                | exact (bP_t ((b1_10 es_66).mpr (Exists.intro c (And.intro (by omega) (And.intro (by rw [ot_e (by omega) hfd]; exact hgc) c_243))))).symm
                | exact (bP_f (fun h => absurd c_243 (DN (show c < 40 by omega) (by rw [ot_e (by omega) hfd]; exact hgc) ((b1_10 es_66).mp h)))).symm
                | exact (bP_f (fun h => DM (by rw [ot_e (by omega) hfd]; exact c_228) ((b1_10 es_66).mp h))).symm
                | (rw [nar_b]; exact bP_congr (b1_2 (F := fun c => ¬ r c = 0) es_66).symm)
                | (rw [nar_b]; exact bP_congr (b1_3 (F := fun c => ¬ r c = 0) es_66).symm)
                | (rw [nar_b]; exact bP_congr (b1_8 (F := fun c => ¬ r c = 0) es_66).symm)
                | (rw [nar_b]; exact bP_congr (Iff.intro (fun h => absurd (e_k h) (by rw [es_66]; decide)) (fun h => ((b1_0 (F := fun c => ¬ r c = 0) es_66).mp h).elim)))
                | (rw [nar_b]; exact bP_congr (Iff.intro (fun h => absurd (e_k h) (by rw [es_66]; decide)) (fun h => ((b1_1 (F := fun c => ¬ r c = 0) es_66).mp h).elim)))
                | (rw [nar_b]; exact bP_congr (Iff.intro (fun h => absurd (e_k h) (by rw [es_66]; decide)) (fun h => ((b1_9 (F := fun c => ¬ r c = 0) es_66).mp h).elim)))
        · skip
          refine vg_aload_n C d_R_findSingle_124 rfl ?_
          refine wr_get C d_R_findSingle_125 f_R_61 rfl rfl rfl rfl ?_
          refine vg_iload C d_R_findSingle_128 rfl ?_
          refine wr_zald C d_R_findSingle_130 rfl rfl (by exact vp_in_nI (by omega) (by decide)) ?_
          rw [nI_clamp (by omega), sI_ne _ (by decide), hN _ cn2]
          refine vg_if_ne (tgt := 154) C d_R_findSingle_131 (by decide) (fun c_131 => ?_) (fun c_131 => ?_)
          · rw [bP_eq] at c_131; (try simp only [Classical.not_not] at c_131)
            refine vg_iconst (v := 1) C d_R_findSingle_154 (by decide) ?_
            refine vg_goto (tgt := 159) C d_R_findSingle_155 (by decide) ?_
            refine wr_zast C d_R_findSingle_159 rfl rfl (by exact vp_in_nI (by omega) (by decide)) ?_
            rw [nI_clamp (by omega)]
            refine vg_goto (tgt := 270) C d_R_findSingle_160 (by decide) ?_
            refine vg_lv [2, 3, 4, 5, 6] rfl ?_
            (try rw [nI_clamp (show i < 2 ^ 31 by omega)])
            rw [sI_sI, sI_at]
            refine S (by omega) _ ?_
            first
              | exact (bP_t ((b1_4 es_66).mpr (Or.inl (And.intro c_121 c_131)))).symm
              | exact (bP_t ((b1_4 es_66).mpr (Or.inr (And.intro c_141 c_151)))).symm
              | exact (bP_f (fun h => ((b1_4 es_66).mp h).elim (fun z => absurd c_121 z.1) (fun z => absurd z.1 c_141))).symm
              | exact (bP_f (fun h => ((b1_4 es_66).mp h).elim (fun z => absurd c_121 z.1) (fun z => absurd c_151 z.2))).symm
              | exact (bP_f (fun h => ((b1_4 es_66).mp h).elim (fun z => absurd z.2 c_131) (fun z => absurd z.1 c_141))).symm
              | exact (bP_f (fun h => ((b1_4 es_66).mp h).elim (fun z => absurd z.2 c_131) (fun z => absurd c_151 z.2))).symm
              | exact (bP_t ((b1_5 es_66).mpr (Or.inl (And.intro c_121 c_131)))).symm
              | exact (bP_t ((b1_5 es_66).mpr (Or.inr (And.intro c_141 c_151)))).symm
              | exact (bP_f (fun h => ((b1_5 es_66).mp h).elim (fun z => absurd c_121 z.1) (fun z => absurd z.1 c_141))).symm
              | exact (bP_f (fun h => ((b1_5 es_66).mp h).elim (fun z => absurd c_121 z.1) (fun z => absurd c_151 z.2))).symm
              | exact (bP_f (fun h => ((b1_5 es_66).mp h).elim (fun z => absurd z.2 c_131) (fun z => absurd z.1 c_141))).symm
              | exact (bP_f (fun h => ((b1_5 es_66).mp h).elim (fun z => absurd z.2 c_131) (fun z => absurd c_151 z.2))).symm
              | exact (bP_t ((b1_6 es_66).mpr (Or.inl c_176))).symm
              | exact (bP_t ((b1_6 es_66).mpr (Or.inr c_186))).symm
              | exact (bP_f (fun h => ((b1_6 es_66).mp h).elim (fun z => absurd c_176 z) (fun z => absurd c_186 z))).symm
              | (rw [hI.1 _ ca, nar_b]; exact bP_congr (b1_7 (F := fun c => ¬ r c = 0) es_66).symm)
              | exact (bP_t ((b1_10 es_66).mpr (Exists.intro c (And.intro (by omega) (And.intro (by rw [ot_e (by omega) hfd]; exact hgc) c_243))))).symm
              | exact (bP_f (fun h => absurd c_243 (DN (show c < 40 by omega) (by rw [ot_e (by omega) hfd]; exact hgc) ((b1_10 es_66).mp h)))).symm
              | exact (bP_f (fun h => DM (by rw [ot_e (by omega) hfd]; exact c_228) ((b1_10 es_66).mp h))).symm
              | (rw [nar_b]; exact bP_congr (b1_2 (F := fun c => ¬ r c = 0) es_66).symm)
              | (rw [nar_b]; exact bP_congr (b1_3 (F := fun c => ¬ r c = 0) es_66).symm)
              | (rw [nar_b]; exact bP_congr (b1_8 (F := fun c => ¬ r c = 0) es_66).symm)
              | (rw [nar_b]; exact bP_congr (Iff.intro (fun h => absurd (e_k h) (by rw [es_66]; decide)) (fun h => ((b1_0 (F := fun c => ¬ r c = 0) es_66).mp h).elim)))
              | (rw [nar_b]; exact bP_congr (Iff.intro (fun h => absurd (e_k h) (by rw [es_66]; decide)) (fun h => ((b1_1 (F := fun c => ¬ r c = 0) es_66).mp h).elim)))
              | (rw [nar_b]; exact bP_congr (Iff.intro (fun h => absurd (e_k h) (by rw [es_66]; decide)) (fun h => ((b1_9 (F := fun c => ¬ r c = 0) es_66).mp h).elim)))
          · rw [bP_eq] at c_131; (try simp only [Classical.not_not] at c_131)
            refine vg_aload_n C d_R_findSingle_134 rfl ?_
            refine wr_get C d_R_findSingle_135 f_R_61 rfl rfl rfl rfl ?_
            refine vg_iload C d_R_findSingle_138 rfl ?_
            refine wr_zald C d_R_findSingle_140 rfl rfl (by exact vp_in_nI (by omega) (by decide)) ?_
            rw [nI_clamp (by omega), sI_ne _ (by decide), hN _ cn1]
            refine vg_if_eq (tgt := 158) C d_R_findSingle_141 (by decide) (fun c_141 => ?_) (fun c_141 => ?_)
            · rw [bP_eq] at c_141; (try simp only [Classical.not_not] at c_141)
              refine vg_iconst (v := 0) C d_R_findSingle_158 (by decide) ?_
              refine wr_zast C d_R_findSingle_159 rfl rfl (by exact vp_in_nI (by omega) (by decide)) ?_
              rw [nI_clamp (by omega)]
              refine vg_goto (tgt := 270) C d_R_findSingle_160 (by decide) ?_
              refine vg_lv [2, 3, 4, 5, 6] rfl ?_
              (try rw [nI_clamp (show i < 2 ^ 31 by omega)])
              rw [sI_sI, sI_at]
              refine S (by omega) _ ?_
              first
                | exact (bP_t ((b1_4 es_66).mpr (Or.inl (And.intro c_121 c_131)))).symm
                | exact (bP_t ((b1_4 es_66).mpr (Or.inr (And.intro c_141 c_151)))).symm
                | exact (bP_f (fun h => ((b1_4 es_66).mp h).elim (fun z => absurd c_121 z.1) (fun z => absurd z.1 c_141))).symm
                | exact (bP_f (fun h => ((b1_4 es_66).mp h).elim (fun z => absurd c_121 z.1) (fun z => absurd c_151 z.2))).symm
                | exact (bP_f (fun h => ((b1_4 es_66).mp h).elim (fun z => absurd z.2 c_131) (fun z => absurd z.1 c_141))).symm
                | exact (bP_f (fun h => ((b1_4 es_66).mp h).elim (fun z => absurd z.2 c_131) (fun z => absurd c_151 z.2))).symm
                | exact (bP_t ((b1_5 es_66).mpr (Or.inl (And.intro c_121 c_131)))).symm
                | exact (bP_t ((b1_5 es_66).mpr (Or.inr (And.intro c_141 c_151)))).symm
                | exact (bP_f (fun h => ((b1_5 es_66).mp h).elim (fun z => absurd c_121 z.1) (fun z => absurd z.1 c_141))).symm
                | exact (bP_f (fun h => ((b1_5 es_66).mp h).elim (fun z => absurd c_121 z.1) (fun z => absurd c_151 z.2))).symm
                | exact (bP_f (fun h => ((b1_5 es_66).mp h).elim (fun z => absurd z.2 c_131) (fun z => absurd z.1 c_141))).symm
                | exact (bP_f (fun h => ((b1_5 es_66).mp h).elim (fun z => absurd z.2 c_131) (fun z => absurd c_151 z.2))).symm
                | exact (bP_t ((b1_6 es_66).mpr (Or.inl c_176))).symm
                | exact (bP_t ((b1_6 es_66).mpr (Or.inr c_186))).symm
                | exact (bP_f (fun h => ((b1_6 es_66).mp h).elim (fun z => absurd c_176 z) (fun z => absurd c_186 z))).symm
                | (rw [hI.1 _ ca, nar_b]; exact bP_congr (b1_7 (F := fun c => ¬ r c = 0) es_66).symm)
                | exact (bP_t ((b1_10 es_66).mpr (Exists.intro c (And.intro (by omega) (And.intro (by rw [ot_e (by omega) hfd]; exact hgc) c_243))))).symm
                | exact (bP_f (fun h => absurd c_243 (DN (show c < 40 by omega) (by rw [ot_e (by omega) hfd]; exact hgc) ((b1_10 es_66).mp h)))).symm
                | exact (bP_f (fun h => DM (by rw [ot_e (by omega) hfd]; exact c_228) ((b1_10 es_66).mp h))).symm
                | (rw [nar_b]; exact bP_congr (b1_2 (F := fun c => ¬ r c = 0) es_66).symm)
                | (rw [nar_b]; exact bP_congr (b1_3 (F := fun c => ¬ r c = 0) es_66).symm)
                | (rw [nar_b]; exact bP_congr (b1_8 (F := fun c => ¬ r c = 0) es_66).symm)
                | (rw [nar_b]; exact bP_congr (Iff.intro (fun h => absurd (e_k h) (by rw [es_66]; decide)) (fun h => ((b1_0 (F := fun c => ¬ r c = 0) es_66).mp h).elim)))
                | (rw [nar_b]; exact bP_congr (Iff.intro (fun h => absurd (e_k h) (by rw [es_66]; decide)) (fun h => ((b1_1 (F := fun c => ¬ r c = 0) es_66).mp h).elim)))
                | (rw [nar_b]; exact bP_congr (Iff.intro (fun h => absurd (e_k h) (by rw [es_66]; decide)) (fun h => ((b1_9 (F := fun c => ¬ r c = 0) es_66).mp h).elim)))
            · rw [bP_eq] at c_141; (try simp only [Classical.not_not] at c_141)
              refine vg_aload_n C d_R_findSingle_144 rfl ?_
              refine wr_get C d_R_findSingle_145 f_R_64 rfl rfl rfl rfl ?_
              refine vg_iload C d_R_findSingle_148 rfl ?_
              refine wr_zald C d_R_findSingle_150 rfl rfl (by exact vp_in_nI (by omega) (by decide)) ?_
              rw [nI_clamp (by omega), sI_at]
              refine vg_if_eq (tgt := 158) C d_R_findSingle_151 (by decide) (fun c_151 => ?_) (fun c_151 => ?_)
              · skip
                refine vg_iconst (v := 0) C d_R_findSingle_158 (by decide) ?_
                refine wr_zast C d_R_findSingle_159 rfl rfl (by exact vp_in_nI (by omega) (by decide)) ?_
                rw [nI_clamp (by omega)]
                refine vg_goto (tgt := 270) C d_R_findSingle_160 (by decide) ?_
                refine vg_lv [2, 3, 4, 5, 6] rfl ?_
                (try rw [nI_clamp (show i < 2 ^ 31 by omega)])
                rw [sI_sI, sI_at]
                refine S (by omega) _ ?_
                first
                  | exact (bP_t ((b1_4 es_66).mpr (Or.inl (And.intro c_121 c_131)))).symm
                  | exact (bP_t ((b1_4 es_66).mpr (Or.inr (And.intro c_141 c_151)))).symm
                  | exact (bP_f (fun h => ((b1_4 es_66).mp h).elim (fun z => absurd c_121 z.1) (fun z => absurd z.1 c_141))).symm
                  | exact (bP_f (fun h => ((b1_4 es_66).mp h).elim (fun z => absurd c_121 z.1) (fun z => absurd c_151 z.2))).symm
                  | exact (bP_f (fun h => ((b1_4 es_66).mp h).elim (fun z => absurd z.2 c_131) (fun z => absurd z.1 c_141))).symm
                  | exact (bP_f (fun h => ((b1_4 es_66).mp h).elim (fun z => absurd z.2 c_131) (fun z => absurd c_151 z.2))).symm
                  | exact (bP_t ((b1_5 es_66).mpr (Or.inl (And.intro c_121 c_131)))).symm
                  | exact (bP_t ((b1_5 es_66).mpr (Or.inr (And.intro c_141 c_151)))).symm
                  | exact (bP_f (fun h => ((b1_5 es_66).mp h).elim (fun z => absurd c_121 z.1) (fun z => absurd z.1 c_141))).symm
                  | exact (bP_f (fun h => ((b1_5 es_66).mp h).elim (fun z => absurd c_121 z.1) (fun z => absurd c_151 z.2))).symm
                  | exact (bP_f (fun h => ((b1_5 es_66).mp h).elim (fun z => absurd z.2 c_131) (fun z => absurd z.1 c_141))).symm
                  | exact (bP_f (fun h => ((b1_5 es_66).mp h).elim (fun z => absurd z.2 c_131) (fun z => absurd c_151 z.2))).symm
                  | exact (bP_t ((b1_6 es_66).mpr (Or.inl c_176))).symm
                  | exact (bP_t ((b1_6 es_66).mpr (Or.inr c_186))).symm
                  | exact (bP_f (fun h => ((b1_6 es_66).mp h).elim (fun z => absurd c_176 z) (fun z => absurd c_186 z))).symm
                  | (rw [hI.1 _ ca, nar_b]; exact bP_congr (b1_7 (F := fun c => ¬ r c = 0) es_66).symm)
                  | exact (bP_t ((b1_10 es_66).mpr (Exists.intro c (And.intro (by omega) (And.intro (by rw [ot_e (by omega) hfd]; exact hgc) c_243))))).symm
                  | exact (bP_f (fun h => absurd c_243 (DN (show c < 40 by omega) (by rw [ot_e (by omega) hfd]; exact hgc) ((b1_10 es_66).mp h)))).symm
                  | exact (bP_f (fun h => DM (by rw [ot_e (by omega) hfd]; exact c_228) ((b1_10 es_66).mp h))).symm
                  | (rw [nar_b]; exact bP_congr (b1_2 (F := fun c => ¬ r c = 0) es_66).symm)
                  | (rw [nar_b]; exact bP_congr (b1_3 (F := fun c => ¬ r c = 0) es_66).symm)
                  | (rw [nar_b]; exact bP_congr (b1_8 (F := fun c => ¬ r c = 0) es_66).symm)
                  | (rw [nar_b]; exact bP_congr (Iff.intro (fun h => absurd (e_k h) (by rw [es_66]; decide)) (fun h => ((b1_0 (F := fun c => ¬ r c = 0) es_66).mp h).elim)))
                  | (rw [nar_b]; exact bP_congr (Iff.intro (fun h => absurd (e_k h) (by rw [es_66]; decide)) (fun h => ((b1_1 (F := fun c => ¬ r c = 0) es_66).mp h).elim)))
                  | (rw [nar_b]; exact bP_congr (Iff.intro (fun h => absurd (e_k h) (by rw [es_66]; decide)) (fun h => ((b1_9 (F := fun c => ¬ r c = 0) es_66).mp h).elim)))
              · skip
                refine vg_iconst (v := 1) C d_R_findSingle_154 (by decide) ?_
                refine vg_goto (tgt := 159) C d_R_findSingle_155 (by decide) ?_
                refine wr_zast C d_R_findSingle_159 rfl rfl (by exact vp_in_nI (by omega) (by decide)) ?_
                rw [nI_clamp (by omega)]
                refine vg_goto (tgt := 270) C d_R_findSingle_160 (by decide) ?_
                refine vg_lv [2, 3, 4, 5, 6] rfl ?_
                (try rw [nI_clamp (show i < 2 ^ 31 by omega)])
                rw [sI_sI, sI_at]
                refine S (by omega) _ ?_
                first
                  | exact (bP_t ((b1_4 es_66).mpr (Or.inl (And.intro c_121 c_131)))).symm
                  | exact (bP_t ((b1_4 es_66).mpr (Or.inr (And.intro c_141 c_151)))).symm
                  | exact (bP_f (fun h => ((b1_4 es_66).mp h).elim (fun z => absurd c_121 z.1) (fun z => absurd z.1 c_141))).symm
                  | exact (bP_f (fun h => ((b1_4 es_66).mp h).elim (fun z => absurd c_121 z.1) (fun z => absurd c_151 z.2))).symm
                  | exact (bP_f (fun h => ((b1_4 es_66).mp h).elim (fun z => absurd z.2 c_131) (fun z => absurd z.1 c_141))).symm
                  | exact (bP_f (fun h => ((b1_4 es_66).mp h).elim (fun z => absurd z.2 c_131) (fun z => absurd c_151 z.2))).symm
                  | exact (bP_t ((b1_5 es_66).mpr (Or.inl (And.intro c_121 c_131)))).symm
                  | exact (bP_t ((b1_5 es_66).mpr (Or.inr (And.intro c_141 c_151)))).symm
                  | exact (bP_f (fun h => ((b1_5 es_66).mp h).elim (fun z => absurd c_121 z.1) (fun z => absurd z.1 c_141))).symm
                  | exact (bP_f (fun h => ((b1_5 es_66).mp h).elim (fun z => absurd c_121 z.1) (fun z => absurd c_151 z.2))).symm
                  | exact (bP_f (fun h => ((b1_5 es_66).mp h).elim (fun z => absurd z.2 c_131) (fun z => absurd z.1 c_141))).symm
                  | exact (bP_f (fun h => ((b1_5 es_66).mp h).elim (fun z => absurd z.2 c_131) (fun z => absurd c_151 z.2))).symm
                  | exact (bP_t ((b1_6 es_66).mpr (Or.inl c_176))).symm
                  | exact (bP_t ((b1_6 es_66).mpr (Or.inr c_186))).symm
                  | exact (bP_f (fun h => ((b1_6 es_66).mp h).elim (fun z => absurd c_176 z) (fun z => absurd c_186 z))).symm
                  | (rw [hI.1 _ ca, nar_b]; exact bP_congr (b1_7 (F := fun c => ¬ r c = 0) es_66).symm)
                  | exact (bP_t ((b1_10 es_66).mpr (Exists.intro c (And.intro (by omega) (And.intro (by rw [ot_e (by omega) hfd]; exact hgc) c_243))))).symm
                  | exact (bP_f (fun h => absurd c_243 (DN (show c < 40 by omega) (by rw [ot_e (by omega) hfd]; exact hgc) ((b1_10 es_66).mp h)))).symm
                  | exact (bP_f (fun h => DM (by rw [ot_e (by omega) hfd]; exact c_228) ((b1_10 es_66).mp h))).symm
                  | (rw [nar_b]; exact bP_congr (b1_2 (F := fun c => ¬ r c = 0) es_66).symm)
                  | (rw [nar_b]; exact bP_congr (b1_3 (F := fun c => ¬ r c = 0) es_66).symm)
                  | (rw [nar_b]; exact bP_congr (b1_8 (F := fun c => ¬ r c = 0) es_66).symm)
                  | (rw [nar_b]; exact bP_congr (Iff.intro (fun h => absurd (e_k h) (by rw [es_66]; decide)) (fun h => ((b1_0 (F := fun c => ¬ r c = 0) es_66).mp h).elim)))
                  | (rw [nar_b]; exact bP_congr (Iff.intro (fun h => absurd (e_k h) (by rw [es_66]; decide)) (fun h => ((b1_1 (F := fun c => ¬ r c = 0) es_66).mp h).elim)))
                  | (rw [nar_b]; exact bP_congr (Iff.intro (fun h => absurd (e_k h) (by rw [es_66]; decide)) (fun h => ((b1_9 (F := fun c => ¬ r c = 0) es_66).mp h).elim)))
      · skip
        rw [es_66]
        refine vg_tabIn (tgt := 108) C d_R_findSingle_66 (by decide) (by decide) rfl (by decide) ?_
        obtain ⟨ca, ea, -⟩ := Ch_f hG.1.1 (p := i) (by omega) (by rw [es_66]; decide)
        rw [ea]
        obtain ⟨cb, eb, -⟩ := Ch_s hG.1.1 (p := i) (by omega) (by rw [es_66]; decide)
        rw [eb]
        have cn1 := (c_fn hG.1.1 hH (p := i) (by rw [es_66]; decide) (by omega)).1
        have cn2 := (c_sn hG.1.1 hH (p := i) (by rw [es_66]; decide) (by omega)).1
        refine vg_aload_n C d_R_findSingle_108 rfl ?_
        refine wr_get C d_R_findSingle_109 f_R_64 rfl rfl rfl rfl ?_
        refine vg_iload C d_R_findSingle_112 rfl ?_
        refine vg_aload_n C d_R_findSingle_114 rfl ?_
        refine wr_get C d_R_findSingle_115 f_R_64 rfl rfl rfl rfl ?_
        refine vg_iload C d_R_findSingle_118 rfl ?_
        refine wr_zald C d_R_findSingle_120 rfl rfl (by exact vp_in_nI (by omega) (by decide)) ?_
        rw [nI_clamp (by omega), sI_at]
        refine vg_if_eq (tgt := 134) C d_R_findSingle_121 (by decide) (fun c_121 => ?_) (fun c_121 => ?_)
        · skip
          refine vg_aload_n C d_R_findSingle_134 rfl ?_
          refine wr_get C d_R_findSingle_135 f_R_61 rfl rfl rfl rfl ?_
          refine vg_iload C d_R_findSingle_138 rfl ?_
          refine wr_zald C d_R_findSingle_140 rfl rfl (by exact vp_in_nI (by omega) (by decide)) ?_
          rw [nI_clamp (by omega), sI_ne _ (by decide), hN _ cn1]
          refine vg_if_eq (tgt := 158) C d_R_findSingle_141 (by decide) (fun c_141 => ?_) (fun c_141 => ?_)
          · rw [bP_eq] at c_141; (try simp only [Classical.not_not] at c_141)
            refine vg_iconst (v := 0) C d_R_findSingle_158 (by decide) ?_
            refine wr_zast C d_R_findSingle_159 rfl rfl (by exact vp_in_nI (by omega) (by decide)) ?_
            rw [nI_clamp (by omega)]
            refine vg_goto (tgt := 270) C d_R_findSingle_160 (by decide) ?_
            refine vg_lv [2, 3, 4, 5, 6] rfl ?_
            (try rw [nI_clamp (show i < 2 ^ 31 by omega)])
            rw [sI_sI, sI_at]
            refine S (by omega) _ ?_
            first
              | exact (bP_t ((b1_4 es_66).mpr (Or.inl (And.intro c_121 c_131)))).symm
              | exact (bP_t ((b1_4 es_66).mpr (Or.inr (And.intro c_141 c_151)))).symm
              | exact (bP_f (fun h => ((b1_4 es_66).mp h).elim (fun z => absurd c_121 z.1) (fun z => absurd z.1 c_141))).symm
              | exact (bP_f (fun h => ((b1_4 es_66).mp h).elim (fun z => absurd c_121 z.1) (fun z => absurd c_151 z.2))).symm
              | exact (bP_f (fun h => ((b1_4 es_66).mp h).elim (fun z => absurd z.2 c_131) (fun z => absurd z.1 c_141))).symm
              | exact (bP_f (fun h => ((b1_4 es_66).mp h).elim (fun z => absurd z.2 c_131) (fun z => absurd c_151 z.2))).symm
              | exact (bP_t ((b1_5 es_66).mpr (Or.inl (And.intro c_121 c_131)))).symm
              | exact (bP_t ((b1_5 es_66).mpr (Or.inr (And.intro c_141 c_151)))).symm
              | exact (bP_f (fun h => ((b1_5 es_66).mp h).elim (fun z => absurd c_121 z.1) (fun z => absurd z.1 c_141))).symm
              | exact (bP_f (fun h => ((b1_5 es_66).mp h).elim (fun z => absurd c_121 z.1) (fun z => absurd c_151 z.2))).symm
              | exact (bP_f (fun h => ((b1_5 es_66).mp h).elim (fun z => absurd z.2 c_131) (fun z => absurd z.1 c_141))).symm
              | exact (bP_f (fun h => ((b1_5 es_66).mp h).elim (fun z => absurd z.2 c_131) (fun z => absurd c_151 z.2))).symm
              | exact (bP_t ((b1_6 es_66).mpr (Or.inl c_176))).symm
              | exact (bP_t ((b1_6 es_66).mpr (Or.inr c_186))).symm
              | exact (bP_f (fun h => ((b1_6 es_66).mp h).elim (fun z => absurd c_176 z) (fun z => absurd c_186 z))).symm
              | (rw [hI.1 _ ca, nar_b]; exact bP_congr (b1_7 (F := fun c => ¬ r c = 0) es_66).symm)
              | exact (bP_t ((b1_10 es_66).mpr (Exists.intro c (And.intro (by omega) (And.intro (by rw [ot_e (by omega) hfd]; exact hgc) c_243))))).symm
              | exact (bP_f (fun h => absurd c_243 (DN (show c < 40 by omega) (by rw [ot_e (by omega) hfd]; exact hgc) ((b1_10 es_66).mp h)))).symm
              | exact (bP_f (fun h => DM (by rw [ot_e (by omega) hfd]; exact c_228) ((b1_10 es_66).mp h))).symm
              | (rw [nar_b]; exact bP_congr (b1_2 (F := fun c => ¬ r c = 0) es_66).symm)
              | (rw [nar_b]; exact bP_congr (b1_3 (F := fun c => ¬ r c = 0) es_66).symm)
              | (rw [nar_b]; exact bP_congr (b1_8 (F := fun c => ¬ r c = 0) es_66).symm)
              | (rw [nar_b]; exact bP_congr (Iff.intro (fun h => absurd (e_k h) (by rw [es_66]; decide)) (fun h => ((b1_0 (F := fun c => ¬ r c = 0) es_66).mp h).elim)))
              | (rw [nar_b]; exact bP_congr (Iff.intro (fun h => absurd (e_k h) (by rw [es_66]; decide)) (fun h => ((b1_1 (F := fun c => ¬ r c = 0) es_66).mp h).elim)))
              | (rw [nar_b]; exact bP_congr (Iff.intro (fun h => absurd (e_k h) (by rw [es_66]; decide)) (fun h => ((b1_9 (F := fun c => ¬ r c = 0) es_66).mp h).elim)))
          · rw [bP_eq] at c_141; (try simp only [Classical.not_not] at c_141)
            refine vg_aload_n C d_R_findSingle_144 rfl ?_
            refine wr_get C d_R_findSingle_145 f_R_64 rfl rfl rfl rfl ?_
            refine vg_iload C d_R_findSingle_148 rfl ?_
            refine wr_zald C d_R_findSingle_150 rfl rfl (by exact vp_in_nI (by omega) (by decide)) ?_
            rw [nI_clamp (by omega), sI_at]
            refine vg_if_eq (tgt := 158) C d_R_findSingle_151 (by decide) (fun c_151 => ?_) (fun c_151 => ?_)
            · skip
              refine vg_iconst (v := 0) C d_R_findSingle_158 (by decide) ?_
              refine wr_zast C d_R_findSingle_159 rfl rfl (by exact vp_in_nI (by omega) (by decide)) ?_
              rw [nI_clamp (by omega)]
              refine vg_goto (tgt := 270) C d_R_findSingle_160 (by decide) ?_
              refine vg_lv [2, 3, 4, 5, 6] rfl ?_
              (try rw [nI_clamp (show i < 2 ^ 31 by omega)])
              rw [sI_sI, sI_at]
              refine S (by omega) _ ?_
              first
                | exact (bP_t ((b1_4 es_66).mpr (Or.inl (And.intro c_121 c_131)))).symm
                | exact (bP_t ((b1_4 es_66).mpr (Or.inr (And.intro c_141 c_151)))).symm
                | exact (bP_f (fun h => ((b1_4 es_66).mp h).elim (fun z => absurd c_121 z.1) (fun z => absurd z.1 c_141))).symm
                | exact (bP_f (fun h => ((b1_4 es_66).mp h).elim (fun z => absurd c_121 z.1) (fun z => absurd c_151 z.2))).symm
                | exact (bP_f (fun h => ((b1_4 es_66).mp h).elim (fun z => absurd z.2 c_131) (fun z => absurd z.1 c_141))).symm
                | exact (bP_f (fun h => ((b1_4 es_66).mp h).elim (fun z => absurd z.2 c_131) (fun z => absurd c_151 z.2))).symm
                | exact (bP_t ((b1_5 es_66).mpr (Or.inl (And.intro c_121 c_131)))).symm
                | exact (bP_t ((b1_5 es_66).mpr (Or.inr (And.intro c_141 c_151)))).symm
                | exact (bP_f (fun h => ((b1_5 es_66).mp h).elim (fun z => absurd c_121 z.1) (fun z => absurd z.1 c_141))).symm
                | exact (bP_f (fun h => ((b1_5 es_66).mp h).elim (fun z => absurd c_121 z.1) (fun z => absurd c_151 z.2))).symm
                | exact (bP_f (fun h => ((b1_5 es_66).mp h).elim (fun z => absurd z.2 c_131) (fun z => absurd z.1 c_141))).symm
                | exact (bP_f (fun h => ((b1_5 es_66).mp h).elim (fun z => absurd z.2 c_131) (fun z => absurd c_151 z.2))).symm
                | exact (bP_t ((b1_6 es_66).mpr (Or.inl c_176))).symm
                | exact (bP_t ((b1_6 es_66).mpr (Or.inr c_186))).symm
                | exact (bP_f (fun h => ((b1_6 es_66).mp h).elim (fun z => absurd c_176 z) (fun z => absurd c_186 z))).symm
                | (rw [hI.1 _ ca, nar_b]; exact bP_congr (b1_7 (F := fun c => ¬ r c = 0) es_66).symm)
                | exact (bP_t ((b1_10 es_66).mpr (Exists.intro c (And.intro (by omega) (And.intro (by rw [ot_e (by omega) hfd]; exact hgc) c_243))))).symm
                | exact (bP_f (fun h => absurd c_243 (DN (show c < 40 by omega) (by rw [ot_e (by omega) hfd]; exact hgc) ((b1_10 es_66).mp h)))).symm
                | exact (bP_f (fun h => DM (by rw [ot_e (by omega) hfd]; exact c_228) ((b1_10 es_66).mp h))).symm
                | (rw [nar_b]; exact bP_congr (b1_2 (F := fun c => ¬ r c = 0) es_66).symm)
                | (rw [nar_b]; exact bP_congr (b1_3 (F := fun c => ¬ r c = 0) es_66).symm)
                | (rw [nar_b]; exact bP_congr (b1_8 (F := fun c => ¬ r c = 0) es_66).symm)
                | (rw [nar_b]; exact bP_congr (Iff.intro (fun h => absurd (e_k h) (by rw [es_66]; decide)) (fun h => ((b1_0 (F := fun c => ¬ r c = 0) es_66).mp h).elim)))
                | (rw [nar_b]; exact bP_congr (Iff.intro (fun h => absurd (e_k h) (by rw [es_66]; decide)) (fun h => ((b1_1 (F := fun c => ¬ r c = 0) es_66).mp h).elim)))
                | (rw [nar_b]; exact bP_congr (Iff.intro (fun h => absurd (e_k h) (by rw [es_66]; decide)) (fun h => ((b1_9 (F := fun c => ¬ r c = 0) es_66).mp h).elim)))
            · skip
              refine vg_iconst (v := 1) C d_R_findSingle_154 (by decide) ?_
              refine vg_goto (tgt := 159) C d_R_findSingle_155 (by decide) ?_
              refine wr_zast C d_R_findSingle_159 rfl rfl (by exact vp_in_nI (by omega) (by decide)) ?_
              rw [nI_clamp (by omega)]
              refine vg_goto (tgt := 270) C d_R_findSingle_160 (by decide) ?_
              refine vg_lv [2, 3, 4, 5, 6] rfl ?_
              (try rw [nI_clamp (show i < 2 ^ 31 by omega)])
              rw [sI_sI, sI_at]
              refine S (by omega) _ ?_
              first
                | exact (bP_t ((b1_4 es_66).mpr (Or.inl (And.intro c_121 c_131)))).symm
                | exact (bP_t ((b1_4 es_66).mpr (Or.inr (And.intro c_141 c_151)))).symm
                | exact (bP_f (fun h => ((b1_4 es_66).mp h).elim (fun z => absurd c_121 z.1) (fun z => absurd z.1 c_141))).symm
                | exact (bP_f (fun h => ((b1_4 es_66).mp h).elim (fun z => absurd c_121 z.1) (fun z => absurd c_151 z.2))).symm
                | exact (bP_f (fun h => ((b1_4 es_66).mp h).elim (fun z => absurd z.2 c_131) (fun z => absurd z.1 c_141))).symm
                | exact (bP_f (fun h => ((b1_4 es_66).mp h).elim (fun z => absurd z.2 c_131) (fun z => absurd c_151 z.2))).symm
                | exact (bP_t ((b1_5 es_66).mpr (Or.inl (And.intro c_121 c_131)))).symm
                | exact (bP_t ((b1_5 es_66).mpr (Or.inr (And.intro c_141 c_151)))).symm
                | exact (bP_f (fun h => ((b1_5 es_66).mp h).elim (fun z => absurd c_121 z.1) (fun z => absurd z.1 c_141))).symm
                | exact (bP_f (fun h => ((b1_5 es_66).mp h).elim (fun z => absurd c_121 z.1) (fun z => absurd c_151 z.2))).symm
                | exact (bP_f (fun h => ((b1_5 es_66).mp h).elim (fun z => absurd z.2 c_131) (fun z => absurd z.1 c_141))).symm
                | exact (bP_f (fun h => ((b1_5 es_66).mp h).elim (fun z => absurd z.2 c_131) (fun z => absurd c_151 z.2))).symm
                | exact (bP_t ((b1_6 es_66).mpr (Or.inl c_176))).symm
                | exact (bP_t ((b1_6 es_66).mpr (Or.inr c_186))).symm
                | exact (bP_f (fun h => ((b1_6 es_66).mp h).elim (fun z => absurd c_176 z) (fun z => absurd c_186 z))).symm
                | (rw [hI.1 _ ca, nar_b]; exact bP_congr (b1_7 (F := fun c => ¬ r c = 0) es_66).symm)
                | exact (bP_t ((b1_10 es_66).mpr (Exists.intro c (And.intro (by omega) (And.intro (by rw [ot_e (by omega) hfd]; exact hgc) c_243))))).symm
                | exact (bP_f (fun h => absurd c_243 (DN (show c < 40 by omega) (by rw [ot_e (by omega) hfd]; exact hgc) ((b1_10 es_66).mp h)))).symm
                | exact (bP_f (fun h => DM (by rw [ot_e (by omega) hfd]; exact c_228) ((b1_10 es_66).mp h))).symm
                | (rw [nar_b]; exact bP_congr (b1_2 (F := fun c => ¬ r c = 0) es_66).symm)
                | (rw [nar_b]; exact bP_congr (b1_3 (F := fun c => ¬ r c = 0) es_66).symm)
                | (rw [nar_b]; exact bP_congr (b1_8 (F := fun c => ¬ r c = 0) es_66).symm)
                | (rw [nar_b]; exact bP_congr (Iff.intro (fun h => absurd (e_k h) (by rw [es_66]; decide)) (fun h => ((b1_0 (F := fun c => ¬ r c = 0) es_66).mp h).elim)))
                | (rw [nar_b]; exact bP_congr (Iff.intro (fun h => absurd (e_k h) (by rw [es_66]; decide)) (fun h => ((b1_1 (F := fun c => ¬ r c = 0) es_66).mp h).elim)))
                | (rw [nar_b]; exact bP_congr (Iff.intro (fun h => absurd (e_k h) (by rw [es_66]; decide)) (fun h => ((b1_9 (F := fun c => ¬ r c = 0) es_66).mp h).elim)))
        · skip
          refine vg_aload_n C d_R_findSingle_124 rfl ?_
          refine wr_get C d_R_findSingle_125 f_R_61 rfl rfl rfl rfl ?_
          refine vg_iload C d_R_findSingle_128 rfl ?_
          refine wr_zald C d_R_findSingle_130 rfl rfl (by exact vp_in_nI (by omega) (by decide)) ?_
          rw [nI_clamp (by omega), sI_ne _ (by decide), hN _ cn2]
          refine vg_if_ne (tgt := 154) C d_R_findSingle_131 (by decide) (fun c_131 => ?_) (fun c_131 => ?_)
          · rw [bP_eq] at c_131; (try simp only [Classical.not_not] at c_131)
            refine vg_iconst (v := 1) C d_R_findSingle_154 (by decide) ?_
            refine vg_goto (tgt := 159) C d_R_findSingle_155 (by decide) ?_
            refine wr_zast C d_R_findSingle_159 rfl rfl (by exact vp_in_nI (by omega) (by decide)) ?_
            rw [nI_clamp (by omega)]
            refine vg_goto (tgt := 270) C d_R_findSingle_160 (by decide) ?_
            refine vg_lv [2, 3, 4, 5, 6] rfl ?_
            (try rw [nI_clamp (show i < 2 ^ 31 by omega)])
            rw [sI_sI, sI_at]
            refine S (by omega) _ ?_
            first
              | exact (bP_t ((b1_4 es_66).mpr (Or.inl (And.intro c_121 c_131)))).symm
              | exact (bP_t ((b1_4 es_66).mpr (Or.inr (And.intro c_141 c_151)))).symm
              | exact (bP_f (fun h => ((b1_4 es_66).mp h).elim (fun z => absurd c_121 z.1) (fun z => absurd z.1 c_141))).symm
              | exact (bP_f (fun h => ((b1_4 es_66).mp h).elim (fun z => absurd c_121 z.1) (fun z => absurd c_151 z.2))).symm
              | exact (bP_f (fun h => ((b1_4 es_66).mp h).elim (fun z => absurd z.2 c_131) (fun z => absurd z.1 c_141))).symm
              | exact (bP_f (fun h => ((b1_4 es_66).mp h).elim (fun z => absurd z.2 c_131) (fun z => absurd c_151 z.2))).symm
              | exact (bP_t ((b1_5 es_66).mpr (Or.inl (And.intro c_121 c_131)))).symm
              | exact (bP_t ((b1_5 es_66).mpr (Or.inr (And.intro c_141 c_151)))).symm
              | exact (bP_f (fun h => ((b1_5 es_66).mp h).elim (fun z => absurd c_121 z.1) (fun z => absurd z.1 c_141))).symm
              | exact (bP_f (fun h => ((b1_5 es_66).mp h).elim (fun z => absurd c_121 z.1) (fun z => absurd c_151 z.2))).symm
              | exact (bP_f (fun h => ((b1_5 es_66).mp h).elim (fun z => absurd z.2 c_131) (fun z => absurd z.1 c_141))).symm
              | exact (bP_f (fun h => ((b1_5 es_66).mp h).elim (fun z => absurd z.2 c_131) (fun z => absurd c_151 z.2))).symm
              | exact (bP_t ((b1_6 es_66).mpr (Or.inl c_176))).symm
              | exact (bP_t ((b1_6 es_66).mpr (Or.inr c_186))).symm
              | exact (bP_f (fun h => ((b1_6 es_66).mp h).elim (fun z => absurd c_176 z) (fun z => absurd c_186 z))).symm
              | (rw [hI.1 _ ca, nar_b]; exact bP_congr (b1_7 (F := fun c => ¬ r c = 0) es_66).symm)
              | exact (bP_t ((b1_10 es_66).mpr (Exists.intro c (And.intro (by omega) (And.intro (by rw [ot_e (by omega) hfd]; exact hgc) c_243))))).symm
              | exact (bP_f (fun h => absurd c_243 (DN (show c < 40 by omega) (by rw [ot_e (by omega) hfd]; exact hgc) ((b1_10 es_66).mp h)))).symm
              | exact (bP_f (fun h => DM (by rw [ot_e (by omega) hfd]; exact c_228) ((b1_10 es_66).mp h))).symm
              | (rw [nar_b]; exact bP_congr (b1_2 (F := fun c => ¬ r c = 0) es_66).symm)
              | (rw [nar_b]; exact bP_congr (b1_3 (F := fun c => ¬ r c = 0) es_66).symm)
              | (rw [nar_b]; exact bP_congr (b1_8 (F := fun c => ¬ r c = 0) es_66).symm)
              | (rw [nar_b]; exact bP_congr (Iff.intro (fun h => absurd (e_k h) (by rw [es_66]; decide)) (fun h => ((b1_0 (F := fun c => ¬ r c = 0) es_66).mp h).elim)))
              | (rw [nar_b]; exact bP_congr (Iff.intro (fun h => absurd (e_k h) (by rw [es_66]; decide)) (fun h => ((b1_1 (F := fun c => ¬ r c = 0) es_66).mp h).elim)))
              | (rw [nar_b]; exact bP_congr (Iff.intro (fun h => absurd (e_k h) (by rw [es_66]; decide)) (fun h => ((b1_9 (F := fun c => ¬ r c = 0) es_66).mp h).elim)))
          · rw [bP_eq] at c_131; (try simp only [Classical.not_not] at c_131)
            refine vg_aload_n C d_R_findSingle_134 rfl ?_
            refine wr_get C d_R_findSingle_135 f_R_61 rfl rfl rfl rfl ?_
            refine vg_iload C d_R_findSingle_138 rfl ?_
            refine wr_zald C d_R_findSingle_140 rfl rfl (by exact vp_in_nI (by omega) (by decide)) ?_
            rw [nI_clamp (by omega), sI_ne _ (by decide), hN _ cn1]
            refine vg_if_eq (tgt := 158) C d_R_findSingle_141 (by decide) (fun c_141 => ?_) (fun c_141 => ?_)
            · rw [bP_eq] at c_141; (try simp only [Classical.not_not] at c_141)
              refine vg_iconst (v := 0) C d_R_findSingle_158 (by decide) ?_
              refine wr_zast C d_R_findSingle_159 rfl rfl (by exact vp_in_nI (by omega) (by decide)) ?_
              rw [nI_clamp (by omega)]
              refine vg_goto (tgt := 270) C d_R_findSingle_160 (by decide) ?_
              refine vg_lv [2, 3, 4, 5, 6] rfl ?_
              (try rw [nI_clamp (show i < 2 ^ 31 by omega)])
              rw [sI_sI, sI_at]
              refine S (by omega) _ ?_
              first
                | exact (bP_t ((b1_4 es_66).mpr (Or.inl (And.intro c_121 c_131)))).symm
                | exact (bP_t ((b1_4 es_66).mpr (Or.inr (And.intro c_141 c_151)))).symm
                | exact (bP_f (fun h => ((b1_4 es_66).mp h).elim (fun z => absurd c_121 z.1) (fun z => absurd z.1 c_141))).symm
                | exact (bP_f (fun h => ((b1_4 es_66).mp h).elim (fun z => absurd c_121 z.1) (fun z => absurd c_151 z.2))).symm
                | exact (bP_f (fun h => ((b1_4 es_66).mp h).elim (fun z => absurd z.2 c_131) (fun z => absurd z.1 c_141))).symm
                | exact (bP_f (fun h => ((b1_4 es_66).mp h).elim (fun z => absurd z.2 c_131) (fun z => absurd c_151 z.2))).symm
                | exact (bP_t ((b1_5 es_66).mpr (Or.inl (And.intro c_121 c_131)))).symm
                | exact (bP_t ((b1_5 es_66).mpr (Or.inr (And.intro c_141 c_151)))).symm
                | exact (bP_f (fun h => ((b1_5 es_66).mp h).elim (fun z => absurd c_121 z.1) (fun z => absurd z.1 c_141))).symm
                | exact (bP_f (fun h => ((b1_5 es_66).mp h).elim (fun z => absurd c_121 z.1) (fun z => absurd c_151 z.2))).symm
                | exact (bP_f (fun h => ((b1_5 es_66).mp h).elim (fun z => absurd z.2 c_131) (fun z => absurd z.1 c_141))).symm
                | exact (bP_f (fun h => ((b1_5 es_66).mp h).elim (fun z => absurd z.2 c_131) (fun z => absurd c_151 z.2))).symm
                | exact (bP_t ((b1_6 es_66).mpr (Or.inl c_176))).symm
                | exact (bP_t ((b1_6 es_66).mpr (Or.inr c_186))).symm
                | exact (bP_f (fun h => ((b1_6 es_66).mp h).elim (fun z => absurd c_176 z) (fun z => absurd c_186 z))).symm
                | (rw [hI.1 _ ca, nar_b]; exact bP_congr (b1_7 (F := fun c => ¬ r c = 0) es_66).symm)
                | exact (bP_t ((b1_10 es_66).mpr (Exists.intro c (And.intro (by omega) (And.intro (by rw [ot_e (by omega) hfd]; exact hgc) c_243))))).symm
                | exact (bP_f (fun h => absurd c_243 (DN (show c < 40 by omega) (by rw [ot_e (by omega) hfd]; exact hgc) ((b1_10 es_66).mp h)))).symm
                | exact (bP_f (fun h => DM (by rw [ot_e (by omega) hfd]; exact c_228) ((b1_10 es_66).mp h))).symm
                | (rw [nar_b]; exact bP_congr (b1_2 (F := fun c => ¬ r c = 0) es_66).symm)
                | (rw [nar_b]; exact bP_congr (b1_3 (F := fun c => ¬ r c = 0) es_66).symm)
                | (rw [nar_b]; exact bP_congr (b1_8 (F := fun c => ¬ r c = 0) es_66).symm)
                | (rw [nar_b]; exact bP_congr (Iff.intro (fun h => absurd (e_k h) (by rw [es_66]; decide)) (fun h => ((b1_0 (F := fun c => ¬ r c = 0) es_66).mp h).elim)))
                | (rw [nar_b]; exact bP_congr (Iff.intro (fun h => absurd (e_k h) (by rw [es_66]; decide)) (fun h => ((b1_1 (F := fun c => ¬ r c = 0) es_66).mp h).elim)))
                | (rw [nar_b]; exact bP_congr (Iff.intro (fun h => absurd (e_k h) (by rw [es_66]; decide)) (fun h => ((b1_9 (F := fun c => ¬ r c = 0) es_66).mp h).elim)))
            · rw [bP_eq] at c_141; (try simp only [Classical.not_not] at c_141)
              refine vg_aload_n C d_R_findSingle_144 rfl ?_
              refine wr_get C d_R_findSingle_145 f_R_64 rfl rfl rfl rfl ?_
              refine vg_iload C d_R_findSingle_148 rfl ?_
              refine wr_zald C d_R_findSingle_150 rfl rfl (by exact vp_in_nI (by omega) (by decide)) ?_
              rw [nI_clamp (by omega), sI_at]
              refine vg_if_eq (tgt := 158) C d_R_findSingle_151 (by decide) (fun c_151 => ?_) (fun c_151 => ?_)
              · skip
                refine vg_iconst (v := 0) C d_R_findSingle_158 (by decide) ?_
                refine wr_zast C d_R_findSingle_159 rfl rfl (by exact vp_in_nI (by omega) (by decide)) ?_
                rw [nI_clamp (by omega)]
                refine vg_goto (tgt := 270) C d_R_findSingle_160 (by decide) ?_
                refine vg_lv [2, 3, 4, 5, 6] rfl ?_
                (try rw [nI_clamp (show i < 2 ^ 31 by omega)])
                rw [sI_sI, sI_at]
                refine S (by omega) _ ?_
                first
                  | exact (bP_t ((b1_4 es_66).mpr (Or.inl (And.intro c_121 c_131)))).symm
                  | exact (bP_t ((b1_4 es_66).mpr (Or.inr (And.intro c_141 c_151)))).symm
                  | exact (bP_f (fun h => ((b1_4 es_66).mp h).elim (fun z => absurd c_121 z.1) (fun z => absurd z.1 c_141))).symm
                  | exact (bP_f (fun h => ((b1_4 es_66).mp h).elim (fun z => absurd c_121 z.1) (fun z => absurd c_151 z.2))).symm
                  | exact (bP_f (fun h => ((b1_4 es_66).mp h).elim (fun z => absurd z.2 c_131) (fun z => absurd z.1 c_141))).symm
                  | exact (bP_f (fun h => ((b1_4 es_66).mp h).elim (fun z => absurd z.2 c_131) (fun z => absurd c_151 z.2))).symm
                  | exact (bP_t ((b1_5 es_66).mpr (Or.inl (And.intro c_121 c_131)))).symm
                  | exact (bP_t ((b1_5 es_66).mpr (Or.inr (And.intro c_141 c_151)))).symm
                  | exact (bP_f (fun h => ((b1_5 es_66).mp h).elim (fun z => absurd c_121 z.1) (fun z => absurd z.1 c_141))).symm
                  | exact (bP_f (fun h => ((b1_5 es_66).mp h).elim (fun z => absurd c_121 z.1) (fun z => absurd c_151 z.2))).symm
                  | exact (bP_f (fun h => ((b1_5 es_66).mp h).elim (fun z => absurd z.2 c_131) (fun z => absurd z.1 c_141))).symm
                  | exact (bP_f (fun h => ((b1_5 es_66).mp h).elim (fun z => absurd z.2 c_131) (fun z => absurd c_151 z.2))).symm
                  | exact (bP_t ((b1_6 es_66).mpr (Or.inl c_176))).symm
                  | exact (bP_t ((b1_6 es_66).mpr (Or.inr c_186))).symm
                  | exact (bP_f (fun h => ((b1_6 es_66).mp h).elim (fun z => absurd c_176 z) (fun z => absurd c_186 z))).symm
                  | (rw [hI.1 _ ca, nar_b]; exact bP_congr (b1_7 (F := fun c => ¬ r c = 0) es_66).symm)
                  | exact (bP_t ((b1_10 es_66).mpr (Exists.intro c (And.intro (by omega) (And.intro (by rw [ot_e (by omega) hfd]; exact hgc) c_243))))).symm
                  | exact (bP_f (fun h => absurd c_243 (DN (show c < 40 by omega) (by rw [ot_e (by omega) hfd]; exact hgc) ((b1_10 es_66).mp h)))).symm
                  | exact (bP_f (fun h => DM (by rw [ot_e (by omega) hfd]; exact c_228) ((b1_10 es_66).mp h))).symm
                  | (rw [nar_b]; exact bP_congr (b1_2 (F := fun c => ¬ r c = 0) es_66).symm)
                  | (rw [nar_b]; exact bP_congr (b1_3 (F := fun c => ¬ r c = 0) es_66).symm)
                  | (rw [nar_b]; exact bP_congr (b1_8 (F := fun c => ¬ r c = 0) es_66).symm)
                  | (rw [nar_b]; exact bP_congr (Iff.intro (fun h => absurd (e_k h) (by rw [es_66]; decide)) (fun h => ((b1_0 (F := fun c => ¬ r c = 0) es_66).mp h).elim)))
                  | (rw [nar_b]; exact bP_congr (Iff.intro (fun h => absurd (e_k h) (by rw [es_66]; decide)) (fun h => ((b1_1 (F := fun c => ¬ r c = 0) es_66).mp h).elim)))
                  | (rw [nar_b]; exact bP_congr (Iff.intro (fun h => absurd (e_k h) (by rw [es_66]; decide)) (fun h => ((b1_9 (F := fun c => ¬ r c = 0) es_66).mp h).elim)))
              · skip
                refine vg_iconst (v := 1) C d_R_findSingle_154 (by decide) ?_
                refine vg_goto (tgt := 159) C d_R_findSingle_155 (by decide) ?_
                refine wr_zast C d_R_findSingle_159 rfl rfl (by exact vp_in_nI (by omega) (by decide)) ?_
                rw [nI_clamp (by omega)]
                refine vg_goto (tgt := 270) C d_R_findSingle_160 (by decide) ?_
                refine vg_lv [2, 3, 4, 5, 6] rfl ?_
                (try rw [nI_clamp (show i < 2 ^ 31 by omega)])
                rw [sI_sI, sI_at]
                refine S (by omega) _ ?_
                first
                  | exact (bP_t ((b1_4 es_66).mpr (Or.inl (And.intro c_121 c_131)))).symm
                  | exact (bP_t ((b1_4 es_66).mpr (Or.inr (And.intro c_141 c_151)))).symm
                  | exact (bP_f (fun h => ((b1_4 es_66).mp h).elim (fun z => absurd c_121 z.1) (fun z => absurd z.1 c_141))).symm
                  | exact (bP_f (fun h => ((b1_4 es_66).mp h).elim (fun z => absurd c_121 z.1) (fun z => absurd c_151 z.2))).symm
                  | exact (bP_f (fun h => ((b1_4 es_66).mp h).elim (fun z => absurd z.2 c_131) (fun z => absurd z.1 c_141))).symm
                  | exact (bP_f (fun h => ((b1_4 es_66).mp h).elim (fun z => absurd z.2 c_131) (fun z => absurd c_151 z.2))).symm
                  | exact (bP_t ((b1_5 es_66).mpr (Or.inl (And.intro c_121 c_131)))).symm
                  | exact (bP_t ((b1_5 es_66).mpr (Or.inr (And.intro c_141 c_151)))).symm
                  | exact (bP_f (fun h => ((b1_5 es_66).mp h).elim (fun z => absurd c_121 z.1) (fun z => absurd z.1 c_141))).symm
                  | exact (bP_f (fun h => ((b1_5 es_66).mp h).elim (fun z => absurd c_121 z.1) (fun z => absurd c_151 z.2))).symm
                  | exact (bP_f (fun h => ((b1_5 es_66).mp h).elim (fun z => absurd z.2 c_131) (fun z => absurd z.1 c_141))).symm
                  | exact (bP_f (fun h => ((b1_5 es_66).mp h).elim (fun z => absurd z.2 c_131) (fun z => absurd c_151 z.2))).symm
                  | exact (bP_t ((b1_6 es_66).mpr (Or.inl c_176))).symm
                  | exact (bP_t ((b1_6 es_66).mpr (Or.inr c_186))).symm
                  | exact (bP_f (fun h => ((b1_6 es_66).mp h).elim (fun z => absurd c_176 z) (fun z => absurd c_186 z))).symm
                  | (rw [hI.1 _ ca, nar_b]; exact bP_congr (b1_7 (F := fun c => ¬ r c = 0) es_66).symm)
                  | exact (bP_t ((b1_10 es_66).mpr (Exists.intro c (And.intro (by omega) (And.intro (by rw [ot_e (by omega) hfd]; exact hgc) c_243))))).symm
                  | exact (bP_f (fun h => absurd c_243 (DN (show c < 40 by omega) (by rw [ot_e (by omega) hfd]; exact hgc) ((b1_10 es_66).mp h)))).symm
                  | exact (bP_f (fun h => DM (by rw [ot_e (by omega) hfd]; exact c_228) ((b1_10 es_66).mp h))).symm
                  | (rw [nar_b]; exact bP_congr (b1_2 (F := fun c => ¬ r c = 0) es_66).symm)
                  | (rw [nar_b]; exact bP_congr (b1_3 (F := fun c => ¬ r c = 0) es_66).symm)
                  | (rw [nar_b]; exact bP_congr (b1_8 (F := fun c => ¬ r c = 0) es_66).symm)
                  | (rw [nar_b]; exact bP_congr (Iff.intro (fun h => absurd (e_k h) (by rw [es_66]; decide)) (fun h => ((b1_0 (F := fun c => ¬ r c = 0) es_66).mp h).elim)))
                  | (rw [nar_b]; exact bP_congr (Iff.intro (fun h => absurd (e_k h) (by rw [es_66]; decide)) (fun h => ((b1_1 (F := fun c => ¬ r c = 0) es_66).mp h).elim)))
                  | (rw [nar_b]; exact bP_congr (Iff.intro (fun h => absurd (e_k h) (by rw [es_66]; decide)) (fun h => ((b1_9 (F := fun c => ¬ r c = 0) es_66).mp h).elim)))
      · skip
        rw [es_66]
        refine vg_tabIn (tgt := 163) C d_R_findSingle_66 (by decide) (by decide) rfl (by decide) ?_
        obtain ⟨ca, ea, -⟩ := Ch_f hG.1.1 (p := i) (by omega) (by rw [es_66]; decide)
        rw [ea]
        obtain ⟨cb, eb, -⟩ := Ch_s hG.1.1 (p := i) (by omega) (by rw [es_66]; decide)
        rw [eb]
        refine vg_aload_n C d_R_findSingle_163 rfl ?_
        refine wr_get C d_R_findSingle_164 f_R_64 rfl rfl rfl rfl ?_
        refine vg_iload C d_R_findSingle_167 rfl ?_
        refine vg_aload_n C d_R_findSingle_169 rfl ?_
        refine wr_get C d_R_findSingle_170 f_R_64 rfl rfl rfl rfl ?_
        refine vg_iload C d_R_findSingle_173 rfl ?_
        refine wr_zald C d_R_findSingle_175 rfl rfl (by exact vp_in_nI (by omega) (by decide)) ?_
        rw [nI_clamp (by omega), sI_at]
        refine vg_if_ne (tgt := 189) C d_R_findSingle_176 (by decide) (fun c_176 => ?_) (fun c_176 => ?_)
        · skip
          refine vg_iconst (v := 1) C d_R_findSingle_189 (by decide) ?_
          refine vg_goto (tgt := 194) C d_R_findSingle_190 (by decide) ?_
          refine wr_zast C d_R_findSingle_194 rfl rfl (by exact vp_in_nI (by omega) (by decide)) ?_
          rw [nI_clamp (by omega)]
          refine vg_goto (tgt := 270) C d_R_findSingle_195 (by decide) ?_
          refine vg_lv [2, 3, 4, 5, 6] rfl ?_
          (try rw [nI_clamp (show i < 2 ^ 31 by omega)])
          rw [sI_sI, sI_at]
          refine S (by omega) _ ?_
          first
            | exact (bP_t ((b1_4 es_66).mpr (Or.inl (And.intro c_121 c_131)))).symm
            | exact (bP_t ((b1_4 es_66).mpr (Or.inr (And.intro c_141 c_151)))).symm
            | exact (bP_f (fun h => ((b1_4 es_66).mp h).elim (fun z => absurd c_121 z.1) (fun z => absurd z.1 c_141))).symm
            | exact (bP_f (fun h => ((b1_4 es_66).mp h).elim (fun z => absurd c_121 z.1) (fun z => absurd c_151 z.2))).symm
            | exact (bP_f (fun h => ((b1_4 es_66).mp h).elim (fun z => absurd z.2 c_131) (fun z => absurd z.1 c_141))).symm
            | exact (bP_f (fun h => ((b1_4 es_66).mp h).elim (fun z => absurd z.2 c_131) (fun z => absurd c_151 z.2))).symm
            | exact (bP_t ((b1_5 es_66).mpr (Or.inl (And.intro c_121 c_131)))).symm
            | exact (bP_t ((b1_5 es_66).mpr (Or.inr (And.intro c_141 c_151)))).symm
            | exact (bP_f (fun h => ((b1_5 es_66).mp h).elim (fun z => absurd c_121 z.1) (fun z => absurd z.1 c_141))).symm
            | exact (bP_f (fun h => ((b1_5 es_66).mp h).elim (fun z => absurd c_121 z.1) (fun z => absurd c_151 z.2))).symm
            | exact (bP_f (fun h => ((b1_5 es_66).mp h).elim (fun z => absurd z.2 c_131) (fun z => absurd z.1 c_141))).symm
            | exact (bP_f (fun h => ((b1_5 es_66).mp h).elim (fun z => absurd z.2 c_131) (fun z => absurd c_151 z.2))).symm
            | exact (bP_t ((b1_6 es_66).mpr (Or.inl c_176))).symm
            | exact (bP_t ((b1_6 es_66).mpr (Or.inr c_186))).symm
            | exact (bP_f (fun h => ((b1_6 es_66).mp h).elim (fun z => absurd c_176 z) (fun z => absurd c_186 z))).symm
            | (rw [hI.1 _ ca, nar_b]; exact bP_congr (b1_7 (F := fun c => ¬ r c = 0) es_66).symm)
            | exact (bP_t ((b1_10 es_66).mpr (Exists.intro c (And.intro (by omega) (And.intro (by rw [ot_e (by omega) hfd]; exact hgc) c_243))))).symm
            | exact (bP_f (fun h => absurd c_243 (DN (show c < 40 by omega) (by rw [ot_e (by omega) hfd]; exact hgc) ((b1_10 es_66).mp h)))).symm
            | exact (bP_f (fun h => DM (by rw [ot_e (by omega) hfd]; exact c_228) ((b1_10 es_66).mp h))).symm
            | (rw [nar_b]; exact bP_congr (b1_2 (F := fun c => ¬ r c = 0) es_66).symm)
            | (rw [nar_b]; exact bP_congr (b1_3 (F := fun c => ¬ r c = 0) es_66).symm)
            | (rw [nar_b]; exact bP_congr (b1_8 (F := fun c => ¬ r c = 0) es_66).symm)
            | (rw [nar_b]; exact bP_congr (Iff.intro (fun h => absurd (e_k h) (by rw [es_66]; decide)) (fun h => ((b1_0 (F := fun c => ¬ r c = 0) es_66).mp h).elim)))
            | (rw [nar_b]; exact bP_congr (Iff.intro (fun h => absurd (e_k h) (by rw [es_66]; decide)) (fun h => ((b1_1 (F := fun c => ¬ r c = 0) es_66).mp h).elim)))
            | (rw [nar_b]; exact bP_congr (Iff.intro (fun h => absurd (e_k h) (by rw [es_66]; decide)) (fun h => ((b1_9 (F := fun c => ¬ r c = 0) es_66).mp h).elim)))
        · skip
          refine vg_aload_n C d_R_findSingle_179 rfl ?_
          refine wr_get C d_R_findSingle_180 f_R_64 rfl rfl rfl rfl ?_
          refine vg_iload C d_R_findSingle_183 rfl ?_
          refine wr_zald C d_R_findSingle_185 rfl rfl (by exact vp_in_nI (by omega) (by decide)) ?_
          rw [nI_clamp (by omega), sI_at]
          refine vg_if_eq (tgt := 193) C d_R_findSingle_186 (by decide) (fun c_186 => ?_) (fun c_186 => ?_)
          · skip
            refine vg_iconst (v := 0) C d_R_findSingle_193 (by decide) ?_
            refine wr_zast C d_R_findSingle_194 rfl rfl (by exact vp_in_nI (by omega) (by decide)) ?_
            rw [nI_clamp (by omega)]
            refine vg_goto (tgt := 270) C d_R_findSingle_195 (by decide) ?_
            refine vg_lv [2, 3, 4, 5, 6] rfl ?_
            (try rw [nI_clamp (show i < 2 ^ 31 by omega)])
            rw [sI_sI, sI_at]
            refine S (by omega) _ ?_
            first
              | exact (bP_t ((b1_4 es_66).mpr (Or.inl (And.intro c_121 c_131)))).symm
              | exact (bP_t ((b1_4 es_66).mpr (Or.inr (And.intro c_141 c_151)))).symm
              | exact (bP_f (fun h => ((b1_4 es_66).mp h).elim (fun z => absurd c_121 z.1) (fun z => absurd z.1 c_141))).symm
              | exact (bP_f (fun h => ((b1_4 es_66).mp h).elim (fun z => absurd c_121 z.1) (fun z => absurd c_151 z.2))).symm
              | exact (bP_f (fun h => ((b1_4 es_66).mp h).elim (fun z => absurd z.2 c_131) (fun z => absurd z.1 c_141))).symm
              | exact (bP_f (fun h => ((b1_4 es_66).mp h).elim (fun z => absurd z.2 c_131) (fun z => absurd c_151 z.2))).symm
              | exact (bP_t ((b1_5 es_66).mpr (Or.inl (And.intro c_121 c_131)))).symm
              | exact (bP_t ((b1_5 es_66).mpr (Or.inr (And.intro c_141 c_151)))).symm
              | exact (bP_f (fun h => ((b1_5 es_66).mp h).elim (fun z => absurd c_121 z.1) (fun z => absurd z.1 c_141))).symm
              | exact (bP_f (fun h => ((b1_5 es_66).mp h).elim (fun z => absurd c_121 z.1) (fun z => absurd c_151 z.2))).symm
              | exact (bP_f (fun h => ((b1_5 es_66).mp h).elim (fun z => absurd z.2 c_131) (fun z => absurd z.1 c_141))).symm
              | exact (bP_f (fun h => ((b1_5 es_66).mp h).elim (fun z => absurd z.2 c_131) (fun z => absurd c_151 z.2))).symm
              | exact (bP_t ((b1_6 es_66).mpr (Or.inl c_176))).symm
              | exact (bP_t ((b1_6 es_66).mpr (Or.inr c_186))).symm
              | exact (bP_f (fun h => ((b1_6 es_66).mp h).elim (fun z => absurd c_176 z) (fun z => absurd c_186 z))).symm
              | (rw [hI.1 _ ca, nar_b]; exact bP_congr (b1_7 (F := fun c => ¬ r c = 0) es_66).symm)
              | exact (bP_t ((b1_10 es_66).mpr (Exists.intro c (And.intro (by omega) (And.intro (by rw [ot_e (by omega) hfd]; exact hgc) c_243))))).symm
              | exact (bP_f (fun h => absurd c_243 (DN (show c < 40 by omega) (by rw [ot_e (by omega) hfd]; exact hgc) ((b1_10 es_66).mp h)))).symm
              | exact (bP_f (fun h => DM (by rw [ot_e (by omega) hfd]; exact c_228) ((b1_10 es_66).mp h))).symm
              | (rw [nar_b]; exact bP_congr (b1_2 (F := fun c => ¬ r c = 0) es_66).symm)
              | (rw [nar_b]; exact bP_congr (b1_3 (F := fun c => ¬ r c = 0) es_66).symm)
              | (rw [nar_b]; exact bP_congr (b1_8 (F := fun c => ¬ r c = 0) es_66).symm)
              | (rw [nar_b]; exact bP_congr (Iff.intro (fun h => absurd (e_k h) (by rw [es_66]; decide)) (fun h => ((b1_0 (F := fun c => ¬ r c = 0) es_66).mp h).elim)))
              | (rw [nar_b]; exact bP_congr (Iff.intro (fun h => absurd (e_k h) (by rw [es_66]; decide)) (fun h => ((b1_1 (F := fun c => ¬ r c = 0) es_66).mp h).elim)))
              | (rw [nar_b]; exact bP_congr (Iff.intro (fun h => absurd (e_k h) (by rw [es_66]; decide)) (fun h => ((b1_9 (F := fun c => ¬ r c = 0) es_66).mp h).elim)))
          · skip
            refine vg_iconst (v := 1) C d_R_findSingle_189 (by decide) ?_
            refine vg_goto (tgt := 194) C d_R_findSingle_190 (by decide) ?_
            refine wr_zast C d_R_findSingle_194 rfl rfl (by exact vp_in_nI (by omega) (by decide)) ?_
            rw [nI_clamp (by omega)]
            refine vg_goto (tgt := 270) C d_R_findSingle_195 (by decide) ?_
            refine vg_lv [2, 3, 4, 5, 6] rfl ?_
            (try rw [nI_clamp (show i < 2 ^ 31 by omega)])
            rw [sI_sI, sI_at]
            refine S (by omega) _ ?_
            first
              | exact (bP_t ((b1_4 es_66).mpr (Or.inl (And.intro c_121 c_131)))).symm
              | exact (bP_t ((b1_4 es_66).mpr (Or.inr (And.intro c_141 c_151)))).symm
              | exact (bP_f (fun h => ((b1_4 es_66).mp h).elim (fun z => absurd c_121 z.1) (fun z => absurd z.1 c_141))).symm
              | exact (bP_f (fun h => ((b1_4 es_66).mp h).elim (fun z => absurd c_121 z.1) (fun z => absurd c_151 z.2))).symm
              | exact (bP_f (fun h => ((b1_4 es_66).mp h).elim (fun z => absurd z.2 c_131) (fun z => absurd z.1 c_141))).symm
              | exact (bP_f (fun h => ((b1_4 es_66).mp h).elim (fun z => absurd z.2 c_131) (fun z => absurd c_151 z.2))).symm
              | exact (bP_t ((b1_5 es_66).mpr (Or.inl (And.intro c_121 c_131)))).symm
              | exact (bP_t ((b1_5 es_66).mpr (Or.inr (And.intro c_141 c_151)))).symm
              | exact (bP_f (fun h => ((b1_5 es_66).mp h).elim (fun z => absurd c_121 z.1) (fun z => absurd z.1 c_141))).symm
              | exact (bP_f (fun h => ((b1_5 es_66).mp h).elim (fun z => absurd c_121 z.1) (fun z => absurd c_151 z.2))).symm
              | exact (bP_f (fun h => ((b1_5 es_66).mp h).elim (fun z => absurd z.2 c_131) (fun z => absurd z.1 c_141))).symm
              | exact (bP_f (fun h => ((b1_5 es_66).mp h).elim (fun z => absurd z.2 c_131) (fun z => absurd c_151 z.2))).symm
              | exact (bP_t ((b1_6 es_66).mpr (Or.inl c_176))).symm
              | exact (bP_t ((b1_6 es_66).mpr (Or.inr c_186))).symm
              | exact (bP_f (fun h => ((b1_6 es_66).mp h).elim (fun z => absurd c_176 z) (fun z => absurd c_186 z))).symm
              | (rw [hI.1 _ ca, nar_b]; exact bP_congr (b1_7 (F := fun c => ¬ r c = 0) es_66).symm)
              | exact (bP_t ((b1_10 es_66).mpr (Exists.intro c (And.intro (by omega) (And.intro (by rw [ot_e (by omega) hfd]; exact hgc) c_243))))).symm
              | exact (bP_f (fun h => absurd c_243 (DN (show c < 40 by omega) (by rw [ot_e (by omega) hfd]; exact hgc) ((b1_10 es_66).mp h)))).symm
              | exact (bP_f (fun h => DM (by rw [ot_e (by omega) hfd]; exact c_228) ((b1_10 es_66).mp h))).symm
              | (rw [nar_b]; exact bP_congr (b1_2 (F := fun c => ¬ r c = 0) es_66).symm)
              | (rw [nar_b]; exact bP_congr (b1_3 (F := fun c => ¬ r c = 0) es_66).symm)
              | (rw [nar_b]; exact bP_congr (b1_8 (F := fun c => ¬ r c = 0) es_66).symm)
              | (rw [nar_b]; exact bP_congr (Iff.intro (fun h => absurd (e_k h) (by rw [es_66]; decide)) (fun h => ((b1_0 (F := fun c => ¬ r c = 0) es_66).mp h).elim)))
              | (rw [nar_b]; exact bP_congr (Iff.intro (fun h => absurd (e_k h) (by rw [es_66]; decide)) (fun h => ((b1_1 (F := fun c => ¬ r c = 0) es_66).mp h).elim)))
              | (rw [nar_b]; exact bP_congr (Iff.intro (fun h => absurd (e_k h) (by rw [es_66]; decide)) (fun h => ((b1_9 (F := fun c => ¬ r c = 0) es_66).mp h).elim)))
      · skip
        rw [es_66]
        refine vg_tabIn (tgt := 198) C d_R_findSingle_66 (by decide) (by decide) rfl (by decide) ?_
        obtain ⟨ca, ea, -⟩ := Ch_f hG.1.1 (p := i) (by omega) (by rw [es_66]; decide)
        rw [ea]
        refine vg_aload_n C d_R_findSingle_198 rfl ?_
        refine wr_get C d_R_findSingle_199 f_R_64 rfl rfl rfl rfl ?_
        refine vg_iload C d_R_findSingle_202 rfl ?_
        refine vg_aload_n C d_R_findSingle_204 rfl ?_
        refine wr_get C d_R_findSingle_205 f_R_64 rfl rfl rfl rfl ?_
        refine vg_iload C d_R_findSingle_208 rfl ?_
        refine wr_zald C d_R_findSingle_210 rfl rfl (by exact vp_in_nI (by omega) (by decide)) ?_
        rw [nI_clamp (by omega), sI_at]
        refine wr_zast C d_R_findSingle_211 rfl rfl (by exact vp_in_nI (by omega) (by decide)) ?_
        rw [nI_clamp (by omega)]
        refine vg_goto (tgt := 270) C d_R_findSingle_212 (by decide) ?_
        refine vg_lv [2, 3, 4, 5, 6] rfl ?_
        (try rw [nI_clamp (show i < 2 ^ 31 by omega)])
        rw [sI_sI, sI_at]
        refine S (by omega) _ ?_
        first
          | exact (bP_t ((b1_4 es_66).mpr (Or.inl (And.intro c_121 c_131)))).symm
          | exact (bP_t ((b1_4 es_66).mpr (Or.inr (And.intro c_141 c_151)))).symm
          | exact (bP_f (fun h => ((b1_4 es_66).mp h).elim (fun z => absurd c_121 z.1) (fun z => absurd z.1 c_141))).symm
          | exact (bP_f (fun h => ((b1_4 es_66).mp h).elim (fun z => absurd c_121 z.1) (fun z => absurd c_151 z.2))).symm
          | exact (bP_f (fun h => ((b1_4 es_66).mp h).elim (fun z => absurd z.2 c_131) (fun z => absurd z.1 c_141))).symm
          | exact (bP_f (fun h => ((b1_4 es_66).mp h).elim (fun z => absurd z.2 c_131) (fun z => absurd c_151 z.2))).symm
          | exact (bP_t ((b1_5 es_66).mpr (Or.inl (And.intro c_121 c_131)))).symm
          | exact (bP_t ((b1_5 es_66).mpr (Or.inr (And.intro c_141 c_151)))).symm
          | exact (bP_f (fun h => ((b1_5 es_66).mp h).elim (fun z => absurd c_121 z.1) (fun z => absurd z.1 c_141))).symm
          | exact (bP_f (fun h => ((b1_5 es_66).mp h).elim (fun z => absurd c_121 z.1) (fun z => absurd c_151 z.2))).symm
          | exact (bP_f (fun h => ((b1_5 es_66).mp h).elim (fun z => absurd z.2 c_131) (fun z => absurd z.1 c_141))).symm
          | exact (bP_f (fun h => ((b1_5 es_66).mp h).elim (fun z => absurd z.2 c_131) (fun z => absurd c_151 z.2))).symm
          | exact (bP_t ((b1_6 es_66).mpr (Or.inl c_176))).symm
          | exact (bP_t ((b1_6 es_66).mpr (Or.inr c_186))).symm
          | exact (bP_f (fun h => ((b1_6 es_66).mp h).elim (fun z => absurd c_176 z) (fun z => absurd c_186 z))).symm
          | (rw [hI.1 _ ca, nar_b]; exact bP_congr (b1_7 (F := fun c => ¬ r c = 0) es_66).symm)
          | exact (bP_t ((b1_10 es_66).mpr (Exists.intro c (And.intro (by omega) (And.intro (by rw [ot_e (by omega) hfd]; exact hgc) c_243))))).symm
          | exact (bP_f (fun h => absurd c_243 (DN (show c < 40 by omega) (by rw [ot_e (by omega) hfd]; exact hgc) ((b1_10 es_66).mp h)))).symm
          | exact (bP_f (fun h => DM (by rw [ot_e (by omega) hfd]; exact c_228) ((b1_10 es_66).mp h))).symm
          | (rw [nar_b]; exact bP_congr (b1_2 (F := fun c => ¬ r c = 0) es_66).symm)
          | (rw [nar_b]; exact bP_congr (b1_3 (F := fun c => ¬ r c = 0) es_66).symm)
          | (rw [nar_b]; exact bP_congr (b1_8 (F := fun c => ¬ r c = 0) es_66).symm)
          | (rw [nar_b]; exact bP_congr (Iff.intro (fun h => absurd (e_k h) (by rw [es_66]; decide)) (fun h => ((b1_0 (F := fun c => ¬ r c = 0) es_66).mp h).elim)))
          | (rw [nar_b]; exact bP_congr (Iff.intro (fun h => absurd (e_k h) (by rw [es_66]; decide)) (fun h => ((b1_1 (F := fun c => ¬ r c = 0) es_66).mp h).elim)))
          | (rw [nar_b]; exact bP_congr (Iff.intro (fun h => absurd (e_k h) (by rw [es_66]; decide)) (fun h => ((b1_9 (F := fun c => ¬ r c = 0) es_66).mp h).elim)))
      · skip
        rw [es_66]
        refine vg_tabIn (tgt := 255) C d_R_findSingle_66 (by decide) (by decide) rfl (by decide) ?_
        refine vg_aload_n C d_R_findSingle_255 rfl ?_
        refine wr_get C d_R_findSingle_256 f_R_64 rfl rfl rfl rfl ?_
        refine vg_iload C d_R_findSingle_259 rfl ?_
        refine vg_aload_n C d_R_findSingle_261 rfl ?_
        refine vg_iload C d_R_findSingle_262 rfl ?_
        refine vg_iload_n C d_R_findSingle_264 rfl ?_
        refine vg_iload_n C d_R_findSingle_265 rfl ?_
        refine wr_callV (As := [_, _, _]) C (c_R_oneT Z hst ad (sI σ 134 r) i (by omega) x) l_R_findSingle_R_one k_R_98 rfl rfl rfl rfl rfl (Nat.le_of_ble_eq_true rfl) d_R_findSingle_266 ⟨Nat.le_of_ble_eq_true rfl, Nat.le_of_ble_eq_true rfl⟩ (fun v_266 w_266 h_266 => ?_)
        obtain ⟨rfl, rfl⟩ := h_266
        refine wr_zast C d_R_findSingle_269 rfl rfl (by exact vp_in_nI (by omega) (by decide)) ?_
        refine vg_lv [2, 3, 4, 5, 6] rfl ?_
        (try rw [nI_clamp (show i < 2 ^ 31 by omega)])
        rw [sI_sI, sI_at]
        refine S (by omega) _ ?_
        first
          | exact (bP_t ((b1_4 es_66).mpr (Or.inl (And.intro c_121 c_131)))).symm
          | exact (bP_t ((b1_4 es_66).mpr (Or.inr (And.intro c_141 c_151)))).symm
          | exact (bP_f (fun h => ((b1_4 es_66).mp h).elim (fun z => absurd c_121 z.1) (fun z => absurd z.1 c_141))).symm
          | exact (bP_f (fun h => ((b1_4 es_66).mp h).elim (fun z => absurd c_121 z.1) (fun z => absurd c_151 z.2))).symm
          | exact (bP_f (fun h => ((b1_4 es_66).mp h).elim (fun z => absurd z.2 c_131) (fun z => absurd z.1 c_141))).symm
          | exact (bP_f (fun h => ((b1_4 es_66).mp h).elim (fun z => absurd z.2 c_131) (fun z => absurd c_151 z.2))).symm
          | exact (bP_t ((b1_5 es_66).mpr (Or.inl (And.intro c_121 c_131)))).symm
          | exact (bP_t ((b1_5 es_66).mpr (Or.inr (And.intro c_141 c_151)))).symm
          | exact (bP_f (fun h => ((b1_5 es_66).mp h).elim (fun z => absurd c_121 z.1) (fun z => absurd z.1 c_141))).symm
          | exact (bP_f (fun h => ((b1_5 es_66).mp h).elim (fun z => absurd c_121 z.1) (fun z => absurd c_151 z.2))).symm
          | exact (bP_f (fun h => ((b1_5 es_66).mp h).elim (fun z => absurd z.2 c_131) (fun z => absurd z.1 c_141))).symm
          | exact (bP_f (fun h => ((b1_5 es_66).mp h).elim (fun z => absurd z.2 c_131) (fun z => absurd c_151 z.2))).symm
          | exact (bP_t ((b1_6 es_66).mpr (Or.inl c_176))).symm
          | exact (bP_t ((b1_6 es_66).mpr (Or.inr c_186))).symm
          | exact (bP_f (fun h => ((b1_6 es_66).mp h).elim (fun z => absurd c_176 z) (fun z => absurd c_186 z))).symm
          | (rw [hI.1 _ ca, nar_b]; exact bP_congr (b1_7 (F := fun c => ¬ r c = 0) es_66).symm)
          | exact (bP_t ((b1_10 es_66).mpr (Exists.intro c (And.intro (by omega) (And.intro (by rw [ot_e (by omega) hfd]; exact hgc) c_243))))).symm
          | exact (bP_f (fun h => absurd c_243 (DN (show c < 40 by omega) (by rw [ot_e (by omega) hfd]; exact hgc) ((b1_10 es_66).mp h)))).symm
          | exact (bP_f (fun h => DM (by rw [ot_e (by omega) hfd]; exact c_228) ((b1_10 es_66).mp h))).symm
          | (rw [nar_b]; exact bP_congr (b1_2 (F := fun c => ¬ r c = 0) es_66).symm)
          | (rw [nar_b]; exact bP_congr (b1_3 (F := fun c => ¬ r c = 0) es_66).symm)
          | (rw [nar_b]; exact bP_congr (b1_8 (F := fun c => ¬ r c = 0) es_66).symm)
          | (rw [nar_b]; exact bP_congr (Iff.intro (fun h => absurd (e_k h) (by rw [es_66]; decide)) (fun h => ((b1_0 (F := fun c => ¬ r c = 0) es_66).mp h).elim)))
          | (rw [nar_b]; exact bP_congr (Iff.intro (fun h => absurd (e_k h) (by rw [es_66]; decide)) (fun h => ((b1_1 (F := fun c => ¬ r c = 0) es_66).mp h).elim)))
          | (rw [nar_b]; exact bP_congr (Iff.intro (fun h => absurd (e_k h) (by rw [es_66]; decide)) (fun h => ((b1_9 (F := fun c => ¬ r c = 0) es_66).mp h).elim)))
      · skip
        rw [es_66]
        refine vg_tabIn (tgt := 255) C d_R_findSingle_66 (by decide) (by decide) rfl (by decide) ?_
        refine vg_aload_n C d_R_findSingle_255 rfl ?_
        refine wr_get C d_R_findSingle_256 f_R_64 rfl rfl rfl rfl ?_
        refine vg_iload C d_R_findSingle_259 rfl ?_
        refine vg_aload_n C d_R_findSingle_261 rfl ?_
        refine vg_iload C d_R_findSingle_262 rfl ?_
        refine vg_iload_n C d_R_findSingle_264 rfl ?_
        refine vg_iload_n C d_R_findSingle_265 rfl ?_
        refine wr_callV (As := [_, _, _]) C (c_R_oneT Z hst ad (sI σ 134 r) i (by omega) x) l_R_findSingle_R_one k_R_98 rfl rfl rfl rfl rfl (Nat.le_of_ble_eq_true rfl) d_R_findSingle_266 ⟨Nat.le_of_ble_eq_true rfl, Nat.le_of_ble_eq_true rfl⟩ (fun v_266 w_266 h_266 => ?_)
        obtain ⟨rfl, rfl⟩ := h_266
        refine wr_zast C d_R_findSingle_269 rfl rfl (by exact vp_in_nI (by omega) (by decide)) ?_
        refine vg_lv [2, 3, 4, 5, 6] rfl ?_
        (try rw [nI_clamp (show i < 2 ^ 31 by omega)])
        rw [sI_sI, sI_at]
        refine S (by omega) _ ?_
        first
          | exact (bP_t ((b1_4 es_66).mpr (Or.inl (And.intro c_121 c_131)))).symm
          | exact (bP_t ((b1_4 es_66).mpr (Or.inr (And.intro c_141 c_151)))).symm
          | exact (bP_f (fun h => ((b1_4 es_66).mp h).elim (fun z => absurd c_121 z.1) (fun z => absurd z.1 c_141))).symm
          | exact (bP_f (fun h => ((b1_4 es_66).mp h).elim (fun z => absurd c_121 z.1) (fun z => absurd c_151 z.2))).symm
          | exact (bP_f (fun h => ((b1_4 es_66).mp h).elim (fun z => absurd z.2 c_131) (fun z => absurd z.1 c_141))).symm
          | exact (bP_f (fun h => ((b1_4 es_66).mp h).elim (fun z => absurd z.2 c_131) (fun z => absurd c_151 z.2))).symm
          | exact (bP_t ((b1_5 es_66).mpr (Or.inl (And.intro c_121 c_131)))).symm
          | exact (bP_t ((b1_5 es_66).mpr (Or.inr (And.intro c_141 c_151)))).symm
          | exact (bP_f (fun h => ((b1_5 es_66).mp h).elim (fun z => absurd c_121 z.1) (fun z => absurd z.1 c_141))).symm
          | exact (bP_f (fun h => ((b1_5 es_66).mp h).elim (fun z => absurd c_121 z.1) (fun z => absurd c_151 z.2))).symm
          | exact (bP_f (fun h => ((b1_5 es_66).mp h).elim (fun z => absurd z.2 c_131) (fun z => absurd z.1 c_141))).symm
          | exact (bP_f (fun h => ((b1_5 es_66).mp h).elim (fun z => absurd z.2 c_131) (fun z => absurd c_151 z.2))).symm
          | exact (bP_t ((b1_6 es_66).mpr (Or.inl c_176))).symm
          | exact (bP_t ((b1_6 es_66).mpr (Or.inr c_186))).symm
          | exact (bP_f (fun h => ((b1_6 es_66).mp h).elim (fun z => absurd c_176 z) (fun z => absurd c_186 z))).symm
          | (rw [hI.1 _ ca, nar_b]; exact bP_congr (b1_7 (F := fun c => ¬ r c = 0) es_66).symm)
          | exact (bP_t ((b1_10 es_66).mpr (Exists.intro c (And.intro (by omega) (And.intro (by rw [ot_e (by omega) hfd]; exact hgc) c_243))))).symm
          | exact (bP_f (fun h => absurd c_243 (DN (show c < 40 by omega) (by rw [ot_e (by omega) hfd]; exact hgc) ((b1_10 es_66).mp h)))).symm
          | exact (bP_f (fun h => DM (by rw [ot_e (by omega) hfd]; exact c_228) ((b1_10 es_66).mp h))).symm
          | (rw [nar_b]; exact bP_congr (b1_2 (F := fun c => ¬ r c = 0) es_66).symm)
          | (rw [nar_b]; exact bP_congr (b1_3 (F := fun c => ¬ r c = 0) es_66).symm)
          | (rw [nar_b]; exact bP_congr (b1_8 (F := fun c => ¬ r c = 0) es_66).symm)
          | (rw [nar_b]; exact bP_congr (Iff.intro (fun h => absurd (e_k h) (by rw [es_66]; decide)) (fun h => ((b1_0 (F := fun c => ¬ r c = 0) es_66).mp h).elim)))
          | (rw [nar_b]; exact bP_congr (Iff.intro (fun h => absurd (e_k h) (by rw [es_66]; decide)) (fun h => ((b1_1 (F := fun c => ¬ r c = 0) es_66).mp h).elim)))
          | (rw [nar_b]; exact bP_congr (Iff.intro (fun h => absurd (e_k h) (by rw [es_66]; decide)) (fun h => ((b1_9 (F := fun c => ¬ r c = 0) es_66).mp h).elim)))
      · skip
        rw [es_66]
        refine vg_tabIn (tgt := 215) C d_R_findSingle_66 (by decide) (by decide) rfl (by decide) ?_
        obtain ⟨dd, hd4, hfd, hgd⟩ := (hG.1.1.2 i (by omega)).2.2 (by rw [es_66]; rfl)
        rw [hfd]
        refine vg_aload_n C d_R_findSingle_215 rfl ?_
        refine wr_get C d_R_findSingle_216 f_R_64 rfl rfl rfl rfl ?_
        refine vg_iload C d_R_findSingle_219 rfl ?_
        refine vg_aload_n C d_R_findSingle_221 rfl ?_
        refine wr_get C d_R_findSingle_222 f_R_22 rfl rfl rfl rfl ?_
        refine vg_iload C d_R_findSingle_225 rfl ?_
        refine wr_iald C d_R_findSingle_227 rfl rfl (by exact vp_in_nI (by omega) (by decide)) ?_
        rw [nI_clamp (by omega), sI_ne _ (by decide)]
        refine vg_if_lt (tgt := 250) C d_R_findSingle_228 (by decide) (fun c_228 => ?_) (fun c_228 => ?_)
        · skip
          refine vg_iconst (v := 0) C d_R_findSingle_250 (by decide) ?_
          refine wr_zast C d_R_findSingle_251 rfl rfl (by exact vp_in_nI (by omega) (by decide)) ?_
          rw [nI_clamp (by omega)]
          refine vg_goto (tgt := 270) C d_R_findSingle_252 (by decide) ?_
          refine vg_lv [2, 3, 4, 5, 6] rfl ?_
          (try rw [nI_clamp (show i < 2 ^ 31 by omega)])
          rw [sI_sI, sI_at]
          refine S (by omega) _ ?_
          first
            | exact (bP_t ((b1_4 es_66).mpr (Or.inl (And.intro c_121 c_131)))).symm
            | exact (bP_t ((b1_4 es_66).mpr (Or.inr (And.intro c_141 c_151)))).symm
            | exact (bP_f (fun h => ((b1_4 es_66).mp h).elim (fun z => absurd c_121 z.1) (fun z => absurd z.1 c_141))).symm
            | exact (bP_f (fun h => ((b1_4 es_66).mp h).elim (fun z => absurd c_121 z.1) (fun z => absurd c_151 z.2))).symm
            | exact (bP_f (fun h => ((b1_4 es_66).mp h).elim (fun z => absurd z.2 c_131) (fun z => absurd z.1 c_141))).symm
            | exact (bP_f (fun h => ((b1_4 es_66).mp h).elim (fun z => absurd z.2 c_131) (fun z => absurd c_151 z.2))).symm
            | exact (bP_t ((b1_5 es_66).mpr (Or.inl (And.intro c_121 c_131)))).symm
            | exact (bP_t ((b1_5 es_66).mpr (Or.inr (And.intro c_141 c_151)))).symm
            | exact (bP_f (fun h => ((b1_5 es_66).mp h).elim (fun z => absurd c_121 z.1) (fun z => absurd z.1 c_141))).symm
            | exact (bP_f (fun h => ((b1_5 es_66).mp h).elim (fun z => absurd c_121 z.1) (fun z => absurd c_151 z.2))).symm
            | exact (bP_f (fun h => ((b1_5 es_66).mp h).elim (fun z => absurd z.2 c_131) (fun z => absurd z.1 c_141))).symm
            | exact (bP_f (fun h => ((b1_5 es_66).mp h).elim (fun z => absurd z.2 c_131) (fun z => absurd c_151 z.2))).symm
            | exact (bP_t ((b1_6 es_66).mpr (Or.inl c_176))).symm
            | exact (bP_t ((b1_6 es_66).mpr (Or.inr c_186))).symm
            | exact (bP_f (fun h => ((b1_6 es_66).mp h).elim (fun z => absurd c_176 z) (fun z => absurd c_186 z))).symm
            | (rw [hI.1 _ ca, nar_b]; exact bP_congr (b1_7 (F := fun c => ¬ r c = 0) es_66).symm)
            | exact (bP_t ((b1_10 es_66).mpr (Exists.intro c (And.intro (by omega) (And.intro (by rw [ot_e (by omega) hfd]; exact hgc) c_243))))).symm
            | exact (bP_f (fun h => absurd c_243 (DN (show c < 40 by omega) (by rw [ot_e (by omega) hfd]; exact hgc) ((b1_10 es_66).mp h)))).symm
            | exact (bP_f (fun h => DM (by rw [ot_e (by omega) hfd]; exact c_228) ((b1_10 es_66).mp h))).symm
            | (rw [nar_b]; exact bP_congr (b1_2 (F := fun c => ¬ r c = 0) es_66).symm)
            | (rw [nar_b]; exact bP_congr (b1_3 (F := fun c => ¬ r c = 0) es_66).symm)
            | (rw [nar_b]; exact bP_congr (b1_8 (F := fun c => ¬ r c = 0) es_66).symm)
            | (rw [nar_b]; exact bP_congr (Iff.intro (fun h => absurd (e_k h) (by rw [es_66]; decide)) (fun h => ((b1_0 (F := fun c => ¬ r c = 0) es_66).mp h).elim)))
            | (rw [nar_b]; exact bP_congr (Iff.intro (fun h => absurd (e_k h) (by rw [es_66]; decide)) (fun h => ((b1_1 (F := fun c => ¬ r c = 0) es_66).mp h).elim)))
            | (rw [nar_b]; exact bP_congr (Iff.intro (fun h => absurd (e_k h) (by rw [es_66]; decide)) (fun h => ((b1_9 (F := fun c => ¬ r c = 0) es_66).mp h).elim)))
        · skip
          obtain ⟨c, hcn, hgc, -⟩ := hgd.resolve_left (fun e => c_228 (by rw [e]; decide))
          refine vg_aload_n C d_R_findSingle_231 rfl ?_
          refine wr_get C d_R_findSingle_232 f_R_64 rfl rfl rfl rfl ?_
          refine vg_aload_n C d_R_findSingle_235 rfl ?_
          refine wr_get C d_R_findSingle_236 f_R_22 rfl rfl rfl rfl ?_
          refine vg_iload C d_R_findSingle_239 rfl ?_
          refine wr_iald C d_R_findSingle_241 rfl rfl (by exact vp_in_nI (by omega) (by decide)) ?_
          rw [nI_clamp (by omega), sI_ne _ (by decide)]
          rw [hgc]
          refine wr_zald C d_R_findSingle_242 rfl rfl (by exact vp_in_nI (by omega) (by decide)) ?_
          rw [nI_clamp (by omega), sI_at]
          refine vg_if_eq (tgt := 250) C d_R_findSingle_243 (by decide) (fun c_243 => ?_) (fun c_243 => ?_)
          · skip
            refine vg_iconst (v := 0) C d_R_findSingle_250 (by decide) ?_
            refine wr_zast C d_R_findSingle_251 rfl rfl (by exact vp_in_nI (by omega) (by decide)) ?_
            rw [nI_clamp (by omega)]
            refine vg_goto (tgt := 270) C d_R_findSingle_252 (by decide) ?_
            refine vg_lv [2, 3, 4, 5, 6] rfl ?_
            (try rw [nI_clamp (show i < 2 ^ 31 by omega)])
            rw [sI_sI, sI_at]
            refine S (by omega) _ ?_
            first
              | exact (bP_t ((b1_4 es_66).mpr (Or.inl (And.intro c_121 c_131)))).symm
              | exact (bP_t ((b1_4 es_66).mpr (Or.inr (And.intro c_141 c_151)))).symm
              | exact (bP_f (fun h => ((b1_4 es_66).mp h).elim (fun z => absurd c_121 z.1) (fun z => absurd z.1 c_141))).symm
              | exact (bP_f (fun h => ((b1_4 es_66).mp h).elim (fun z => absurd c_121 z.1) (fun z => absurd c_151 z.2))).symm
              | exact (bP_f (fun h => ((b1_4 es_66).mp h).elim (fun z => absurd z.2 c_131) (fun z => absurd z.1 c_141))).symm
              | exact (bP_f (fun h => ((b1_4 es_66).mp h).elim (fun z => absurd z.2 c_131) (fun z => absurd c_151 z.2))).symm
              | exact (bP_t ((b1_5 es_66).mpr (Or.inl (And.intro c_121 c_131)))).symm
              | exact (bP_t ((b1_5 es_66).mpr (Or.inr (And.intro c_141 c_151)))).symm
              | exact (bP_f (fun h => ((b1_5 es_66).mp h).elim (fun z => absurd c_121 z.1) (fun z => absurd z.1 c_141))).symm
              | exact (bP_f (fun h => ((b1_5 es_66).mp h).elim (fun z => absurd c_121 z.1) (fun z => absurd c_151 z.2))).symm
              | exact (bP_f (fun h => ((b1_5 es_66).mp h).elim (fun z => absurd z.2 c_131) (fun z => absurd z.1 c_141))).symm
              | exact (bP_f (fun h => ((b1_5 es_66).mp h).elim (fun z => absurd z.2 c_131) (fun z => absurd c_151 z.2))).symm
              | exact (bP_t ((b1_6 es_66).mpr (Or.inl c_176))).symm
              | exact (bP_t ((b1_6 es_66).mpr (Or.inr c_186))).symm
              | exact (bP_f (fun h => ((b1_6 es_66).mp h).elim (fun z => absurd c_176 z) (fun z => absurd c_186 z))).symm
              | (rw [hI.1 _ ca, nar_b]; exact bP_congr (b1_7 (F := fun c => ¬ r c = 0) es_66).symm)
              | exact (bP_t ((b1_10 es_66).mpr (Exists.intro c (And.intro (by omega) (And.intro (by rw [ot_e (by omega) hfd]; exact hgc) c_243))))).symm
              | exact (bP_f (fun h => absurd c_243 (DN (show c < 40 by omega) (by rw [ot_e (by omega) hfd]; exact hgc) ((b1_10 es_66).mp h)))).symm
              | exact (bP_f (fun h => DM (by rw [ot_e (by omega) hfd]; exact c_228) ((b1_10 es_66).mp h))).symm
              | (rw [nar_b]; exact bP_congr (b1_2 (F := fun c => ¬ r c = 0) es_66).symm)
              | (rw [nar_b]; exact bP_congr (b1_3 (F := fun c => ¬ r c = 0) es_66).symm)
              | (rw [nar_b]; exact bP_congr (b1_8 (F := fun c => ¬ r c = 0) es_66).symm)
              | (rw [nar_b]; exact bP_congr (Iff.intro (fun h => absurd (e_k h) (by rw [es_66]; decide)) (fun h => ((b1_0 (F := fun c => ¬ r c = 0) es_66).mp h).elim)))
              | (rw [nar_b]; exact bP_congr (Iff.intro (fun h => absurd (e_k h) (by rw [es_66]; decide)) (fun h => ((b1_1 (F := fun c => ¬ r c = 0) es_66).mp h).elim)))
              | (rw [nar_b]; exact bP_congr (Iff.intro (fun h => absurd (e_k h) (by rw [es_66]; decide)) (fun h => ((b1_9 (F := fun c => ¬ r c = 0) es_66).mp h).elim)))
          · skip
            refine vg_iconst (v := 1) C d_R_findSingle_246 (by decide) ?_
            refine vg_goto (tgt := 251) C d_R_findSingle_247 (by decide) ?_
            refine wr_zast C d_R_findSingle_251 rfl rfl (by exact vp_in_nI (by omega) (by decide)) ?_
            rw [nI_clamp (by omega)]
            refine vg_goto (tgt := 270) C d_R_findSingle_252 (by decide) ?_
            refine vg_lv [2, 3, 4, 5, 6] rfl ?_
            (try rw [nI_clamp (show i < 2 ^ 31 by omega)])
            rw [sI_sI, sI_at]
            refine S (by omega) _ ?_
            first
              | exact (bP_t ((b1_4 es_66).mpr (Or.inl (And.intro c_121 c_131)))).symm
              | exact (bP_t ((b1_4 es_66).mpr (Or.inr (And.intro c_141 c_151)))).symm
              | exact (bP_f (fun h => ((b1_4 es_66).mp h).elim (fun z => absurd c_121 z.1) (fun z => absurd z.1 c_141))).symm
              | exact (bP_f (fun h => ((b1_4 es_66).mp h).elim (fun z => absurd c_121 z.1) (fun z => absurd c_151 z.2))).symm
              | exact (bP_f (fun h => ((b1_4 es_66).mp h).elim (fun z => absurd z.2 c_131) (fun z => absurd z.1 c_141))).symm
              | exact (bP_f (fun h => ((b1_4 es_66).mp h).elim (fun z => absurd z.2 c_131) (fun z => absurd c_151 z.2))).symm
              | exact (bP_t ((b1_5 es_66).mpr (Or.inl (And.intro c_121 c_131)))).symm
              | exact (bP_t ((b1_5 es_66).mpr (Or.inr (And.intro c_141 c_151)))).symm
              | exact (bP_f (fun h => ((b1_5 es_66).mp h).elim (fun z => absurd c_121 z.1) (fun z => absurd z.1 c_141))).symm
              | exact (bP_f (fun h => ((b1_5 es_66).mp h).elim (fun z => absurd c_121 z.1) (fun z => absurd c_151 z.2))).symm
              | exact (bP_f (fun h => ((b1_5 es_66).mp h).elim (fun z => absurd z.2 c_131) (fun z => absurd z.1 c_141))).symm
              | exact (bP_f (fun h => ((b1_5 es_66).mp h).elim (fun z => absurd z.2 c_131) (fun z => absurd c_151 z.2))).symm
              | exact (bP_t ((b1_6 es_66).mpr (Or.inl c_176))).symm
              | exact (bP_t ((b1_6 es_66).mpr (Or.inr c_186))).symm
              | exact (bP_f (fun h => ((b1_6 es_66).mp h).elim (fun z => absurd c_176 z) (fun z => absurd c_186 z))).symm
              | (rw [hI.1 _ ca, nar_b]; exact bP_congr (b1_7 (F := fun c => ¬ r c = 0) es_66).symm)
              | exact (bP_t ((b1_10 es_66).mpr (Exists.intro c (And.intro (by omega) (And.intro (by rw [ot_e (by omega) hfd]; exact hgc) c_243))))).symm
              | exact (bP_f (fun h => absurd c_243 (DN (show c < 40 by omega) (by rw [ot_e (by omega) hfd]; exact hgc) ((b1_10 es_66).mp h)))).symm
              | exact (bP_f (fun h => DM (by rw [ot_e (by omega) hfd]; exact c_228) ((b1_10 es_66).mp h))).symm
              | (rw [nar_b]; exact bP_congr (b1_2 (F := fun c => ¬ r c = 0) es_66).symm)
              | (rw [nar_b]; exact bP_congr (b1_3 (F := fun c => ¬ r c = 0) es_66).symm)
              | (rw [nar_b]; exact bP_congr (b1_8 (F := fun c => ¬ r c = 0) es_66).symm)
              | (rw [nar_b]; exact bP_congr (Iff.intro (fun h => absurd (e_k h) (by rw [es_66]; decide)) (fun h => ((b1_0 (F := fun c => ¬ r c = 0) es_66).mp h).elim)))
              | (rw [nar_b]; exact bP_congr (Iff.intro (fun h => absurd (e_k h) (by rw [es_66]; decide)) (fun h => ((b1_1 (F := fun c => ¬ r c = 0) es_66).mp h).elim)))
              | (rw [nar_b]; exact bP_congr (Iff.intro (fun h => absurd (e_k h) (by rw [es_66]; decide)) (fun h => ((b1_9 (F := fun c => ¬ r c = 0) es_66).mp h).elim)))
set_option maxHeartbeats 4000000 in
set_option maxRecDepth 100000 in
theorem lp_R_findSingleT_out {Z : vg_Z} (hst : vg_St Z) {G : vg_G} {post : Option Value → va_W → Prop} (C : vg_C Z M_R_findSingle G) (hQ : vg_Rt Z G 0 0 post) (ad : Nat → Nat) (σ : sg) (n : Nat) (H : Nat → Nat) (hG : GrR σ n H) (hH : ∀ q, q < n → H q ≤ 32) (x : Int32) (hN : ∀ p, p < n → σ.1 133 p = bP (SN (σ.1 118) (σ.1 119) (σ.1 120) (σ.1 122) p))  (hpost : ∀ r : Nat → Int32, (∀ p, p < n → r p = bP ((S1 (σ.1 118) (σ.1 119) (σ.1 120) (σ.1 122) (eV (σ.1 118) (σ.1 119) (σ.1 120) x)) p)) → post none (wd Z ad (sI σ 134 r))) : ∀ (n2 d : Nat) (r : Nat → Int32) (hlt : 42 < d + n2) (hd : d ≤ 42), RI n H (S1 (σ.1 118) (σ.1 119) (σ.1 120) (σ.1 122) (eV (σ.1 118) (σ.1 119) (σ.1 120) x)) 0 d r → vg_K Z M_R_findSingle G 0 0 23 [(3, .int (nI d)), (0, .ref (ad 117)), (1, .int (-1)), (2, .int x)] [] (wd Z ad (sI σ 134 r)) := by
  have hn := hG.1.1.1
  intro n2
  induction n2 with
  | zero =>
    intro d r hlt hd
    exact absurd hlt (by omega)
  | succ n2 ih =>
    intro d r hlt hd hI
    refine vg_iload_n C d_R_findSingle_23 rfl ?_
    refine vg_bipush (v := 42) C d_R_findSingle_24 (by decide) ?_
    refine vg_icmp_ge (tgt := 282) C d_R_findSingle_26 (by decide) (fun c_26 => ?_) (fun c_26 => ?_)
    · rw [show (42 : Int32) = nI 42 from rfl, nI_leI (by omega) (by omega)] at c_26
      exact vg_return C hQ d_R_findSingle_282 rfl (hpost r (RI_end hH (by rw [show 42 = d by omega]; exact hI)))
    · rw [show (42 : Int32) = nI 42 from rfl, nI_leI (by omega) (by omega)] at c_26
      refine vg_iconst (v := 0) C d_R_findSingle_29 (by decide) ?_
      refine vg_istore C d_R_findSingle_30 (Nat.le_of_ble_eq_true rfl) rfl ?_
      refine lp_R_findSingleT_in hst C hQ ad σ n H hG hH x hN  d (fun r2 h2 => ?_) (n + 1) 0 r (by omega) (by omega) hI
      refine vg_iinc (v := nI (d + 1)) C d_R_findSingle_276 rfl (nI_1 d) (Nat.le_of_ble_eq_true rfl) rfl ?_
      refine vg_goto (tgt := 23) C d_R_findSingle_279 (by decide) ?_
      exact ih (d + 1) r2 (by omega) (by omega) (RI_next h2)
set_option maxHeartbeats 4000000 in
set_option maxRecDepth 100000 in
theorem lp_R_findSingleT_z {Z : vg_Z} (hst : vg_St Z) {G : vg_G} {post : Option Value → va_W → Prop} (C : vg_C Z M_R_findSingle G) (hQ : vg_Rt Z G 0 0 post) (ad : Nat → Nat) (σ : sg) (n : Nat) (H : Nat → Nat) (hG : GrR σ n H) (hH : ∀ q, q < n → H q ≤ 32) (x : Int32) (hN : ∀ p, p < n → σ.1 133 p = bP (SN (σ.1 118) (σ.1 119) (σ.1 120) (σ.1 122) p))  (hpost : ∀ r : Nat → Int32, (∀ p, p < n → r p = bP ((S1 (σ.1 118) (σ.1 119) (σ.1 120) (σ.1 122) (eV (σ.1 118) (σ.1 119) (σ.1 120) x)) p)) → post none (wd Z ad (sI σ 134 r))) : ∀ (n2 i : Nat) (r : Nat → Int32) (hlt : 40 < i + n2) (hi : i ≤ 40), (∀ q, q < i → r q = 0) → vg_K Z M_R_findSingle G 0 0 2 [(3, .int (nI i)), (0, .ref (ad 117)), (1, .int (-1)), (2, .int x)] [] (wd Z ad (sI σ 134 r)) := by
  have hn := hG.1.1.1
  intro n2
  induction n2 with
  | zero =>
    intro i r hlt hi
    exact absurd hlt (by omega)
  | succ n2 ih =>
    intro i r hlt hi hz
    refine vg_iload_n C d_R_findSingle_2 rfl ?_
    refine vg_bipush (v := 40) C d_R_findSingle_3 (by decide) ?_
    refine vg_icmp_ge (tgt := 21) C d_R_findSingle_5 (by decide) (fun c_5 => ?_) (fun c_5 => ?_)
    · rw [show (40 : Int32) = nI 40 from rfl, nI_leI (by omega) (by omega)] at c_5
      refine vg_iconst (v := 0) C d_R_findSingle_21 (by decide) ?_
      refine vg_istore_n C d_R_findSingle_22 (Nat.le_of_ble_eq_true rfl) rfl ?_
      exact lp_R_findSingleT_out hst C hQ ad σ n H hG hH x hN  hpost 43 0 r (by omega) (by omega) (RI_0 hG.1.1 (fun q hq => hz q (by omega)))
    · rw [show (40 : Int32) = nI 40 from rfl, nI_leI (by omega) (by omega)] at c_5
      refine vg_aload_n C d_R_findSingle_8 rfl ?_
      refine wr_get C d_R_findSingle_9 f_R_64 rfl rfl rfl rfl ?_
      refine vg_iload_n C d_R_findSingle_12 rfl ?_
      refine vg_iconst (v := 0) C d_R_findSingle_13 (by decide) ?_
      refine wr_zast C d_R_findSingle_14 rfl rfl (by exact vp_in_nI (by omega) (by decide)) ?_
      rw [nI_clamp (by omega), sI_sI, sI_at]
      refine vg_iinc (v := nI (i + 1)) C d_R_findSingle_15 rfl (nI_1 i) (Nat.le_of_ble_eq_true rfl) rfl ?_
      refine vg_goto (tgt := 2) C d_R_findSingle_18 (by decide) ?_
      exact ih (i + 1) _ (by omega) (by omega) (lt_s (fun q hq => (pk_un (by omega)).trans (hz q hq)) (pk_us.trans rfl))
set_option maxHeartbeats 4000000 in
set_option maxRecDepth 100000 in
theorem c_R_findSingleT (Z : vg_Z) (hst : vg_St Z) (ad : Nat → Nat) (σ : sg) (n : Nat) (H : Nat → Nat) (hG : GrR σ n H) (hH : ∀ q, q < n → H q ≤ 32) (x : Int32) (hN : ∀ p, p < n → σ.1 133 p = bP (SN (σ.1 118) (σ.1 119) (σ.1 120) (σ.1 122) p))   : vg_T Z M_R_findSingle 0 0 [.ref (ad 117), .int (-1), .int x] (wd Z ad σ) (fun v w => v = none ∧ ∃ r : Nat → Int32, (∀ p, p < n → r p = bP (S1 (σ.1 118) (σ.1 119) (σ.1 120) (σ.1 122) (eV (σ.1 118) (σ.1 119) (σ.1 120) x) p)) ∧ w = wd Z ad (sI σ 134 r)) := by
  refine vg_enter hst (by decide) rfl (Nat.le_of_ble_eq_true rfl) ?_
  intro G C hQ
  show vg_K Z M_R_findSingle G 0 0 0 [(0, .ref (ad 117)), (1, .int (-1)), (2, .int x)] [] (wd Z ad σ)
  refine vg_iconst (v := 0) C d_R_findSingle_0 (by decide) ?_
  refine vg_istore_n C d_R_findSingle_1 (Nat.le_of_ble_eq_true rfl) rfl ?_
  refine vg_w (ws' := wd Z ad (sI σ 134 (σ.1 134))) (by rw [sI_id]) ?_
  exact lp_R_findSingleT_z hst C hQ ad σ n H hG hH x hN  (fun r h => ⟨rfl, r, h, rfl⟩) 41 0 _ (by omega) (by omega) (fun q hq => absurd hq (by omega))
/-! findSingle: N -/
set_option maxHeartbeats 4000000 in
set_option maxRecDepth 100000 in
theorem lp_R_findSingleN_in {Z : vg_Z} (hst : vg_St Z) {G : vg_G} {post : Option Value → va_W → Prop} (C : vg_C Z M_R_findSingle G) (hQ : vg_Rt Z G 0 0 post) (ad : Nat → Nat) (σ : sg) (n : Nat) (H : Nat → Nat) (hG : GrR σ n H) (hH : ∀ q, q < n → H q ≤ 32) (x : Int32) (hN : ∀ p, p < n → σ.1 133 p = bP (SN (σ.1 118) (σ.1 119) (σ.1 120) (σ.1 122) p)) (t : Nat) (ht : t < 16) (d : Nat) (hk : ∀ r, RI n H (S1 (σ.1 118) (σ.1 119) (σ.1 120) (σ.1 122) (eNr σ t)) n d r → vg_K Z M_R_findSingle G 0 0 276 [(3, .int (nI d)), (0, .ref (ad 117)), (1, .int (nI t)), (2, .int x)] [] (wd Z ad (sI σ 134 r))) : ∀ (n2 i : Nat) (r : Nat → Int32) (hlt : n < i + n2) (hi : i ≤ n), RI n H (S1 (σ.1 118) (σ.1 119) (σ.1 120) (σ.1 122) (eNr σ t)) i d r → vg_K Z M_R_findSingle G 0 0 32 [(4, .int (nI i)), (3, .int (nI d)), (0, .ref (ad 117)), (1, .int (nI t)), (2, .int x)] [] (wd Z ad (sI σ 134 r)) := by
  have hn := hG.1.1.1
  have e_k : ∀ {i : Nat}, eNr σ t i → σ.1 118 i = 2 ∨ σ.1 118 i = 3 ∨ σ.1 118 i = 8 := fun h => Or.inr (Or.inr h.1)
  intro n2
  induction n2 with
  | zero =>
    intro i r hlt hi
    exact absurd hlt (by omega)
  | succ n2 ih =>
    intro i r hlt hi hI
    have S : i < n → ∀ X : Int32, X = bP ((b1 (σ.1 118) (σ.1 119) (σ.1 120) (σ.1 122) (SN (σ.1 118) (σ.1 119) (σ.1 120) (σ.1 122)) (eNr σ t)) (fun c => ¬ r c = 0) i) → vg_K Z M_R_findSingle G 0 0 270 [(4, .int (nI i)), (3, .int (nI d)), (0, .ref (ad 117)), (1, .int (nI t)), (2, .int x)] [] (wd Z ad (sI σ 134 (upd r i X))) := by
      intro hin X hX
      refine vg_iinc (v := nI (i + 1)) C d_R_findSingle_270 rfl (nI_1 i) (Nat.le_of_ble_eq_true rfl) rfl ?_
      refine vg_goto (tgt := 32) C d_R_findSingle_273 (by decide) ?_
      exact ih (i + 1) _ (by omega) (by omega) (by rw [hX]; exact RI_step hG.1.1 (b1_cg _ _ hG.1.1) (fun p hp => S1_un hG.1.1 hH _ hp) hin hI)
    refine vg_iload C d_R_findSingle_32 rfl ?_
    refine vg_aload_n C d_R_findSingle_34 rfl ?_
    refine wr_get C d_R_findSingle_35 f_R_73 rfl rfl rfl rfl ?_
    rw [sI_ne _ (by decide), hG.2]
    refine vg_icmp_ge (tgt := 276) C d_R_findSingle_38 (by decide) (fun c_38 => ?_) (fun c_38 => ?_)
    · rw [nI_leI (by omega) (by omega)] at c_38
      refine vg_lv [1, 2, 3, 4] rfl ?_
      exact hk r (by rw [show n = i by omega] at hI ⊢; exact hI)
    · rw [nI_leI (by omega) (by omega)] at c_38
      refine vg_aload_n C d_R_findSingle_41 rfl ?_
      refine wr_get C d_R_findSingle_42 f_R_13 rfl rfl rfl rfl ?_
      refine vg_iload C d_R_findSingle_45 rfl ?_
      refine wr_iald C d_R_findSingle_47 rfl rfl (by exact vp_in_nI (by omega) (by decide)) ?_
      rw [nI_clamp (by omega), sI_ne _ (by decide)]
      refine vg_istore C d_R_findSingle_48 (Nat.le_of_ble_eq_true rfl) rfl ?_
      refine vg_aload_n C d_R_findSingle_50 rfl ?_
      refine wr_get C d_R_findSingle_51 f_R_16 rfl rfl rfl rfl ?_
      refine vg_iload C d_R_findSingle_54 rfl ?_
      refine wr_iald C d_R_findSingle_56 rfl rfl (by exact vp_in_nI (by omega) (by decide)) ?_
      rw [nI_clamp (by omega), sI_ne _ (by decide)]
      refine vg_istore C d_R_findSingle_57 (Nat.le_of_ble_eq_true rfl) rfl ?_
      refine vg_aload_n C d_R_findSingle_59 rfl ?_
      refine wr_get C d_R_findSingle_60 f_R_7 rfl rfl rfl rfl ?_
      refine vg_iload C d_R_findSingle_63 rfl ?_
      refine wr_iald C d_R_findSingle_65 rfl rfl (by exact vp_in_nI (by omega) (by decide)) ?_
      rw [nI_clamp (by omega), sI_ne _ (by decide)]
      obtain ⟨j_66, hj_66, es_66⟩ := hG.1.2 i (by omega)
      rcases (show j_66 = 0 ∨ j_66 = 1 ∨ j_66 = 2 ∨ j_66 = 3 ∨ j_66 = 4 ∨ j_66 = 5 ∨ j_66 = 6 ∨ j_66 = 7 ∨ j_66 = 8 ∨ j_66 = 9 ∨ j_66 = 10 by omega) with rfl | rfl | rfl | rfl | rfl | rfl | rfl | rfl | rfl | rfl | rfl
      · skip
        rw [es_66]
        refine vg_tabOut (tgt := 255) C d_R_findSingle_66 (by decide) (by decide) ?_
        refine vg_aload_n C d_R_findSingle_255 rfl ?_
        refine wr_get C d_R_findSingle_256 f_R_64 rfl rfl rfl rfl ?_
        refine vg_iload C d_R_findSingle_259 rfl ?_
        refine vg_aload_n C d_R_findSingle_261 rfl ?_
        refine vg_iload C d_R_findSingle_262 rfl ?_
        refine vg_iload_n C d_R_findSingle_264 rfl ?_
        refine vg_iload_n C d_R_findSingle_265 rfl ?_
        refine wr_callV (As := [_, _, _]) C (c_R_oneN Z hst ad (sI σ 134 r) i (by omega) t ht x (fun h8 => by obtain ⟨c, c1, c2, -⟩ := (hG.1.1.2 i (by omega)).2.1 (Or.inr (Or.inr (Or.inr (Or.inl h8)))); exact ⟨c, by omega, c2⟩)) l_R_findSingle_R_one k_R_98 rfl rfl rfl rfl rfl (Nat.le_of_ble_eq_true rfl) d_R_findSingle_266 ⟨Nat.le_of_ble_eq_true rfl, Nat.le_of_ble_eq_true rfl⟩ (fun v_266 w_266 h_266 => ?_)
        obtain ⟨rfl, rfl⟩ := h_266
        refine wr_zast C d_R_findSingle_269 rfl rfl (by exact vp_in_nI (by omega) (by decide)) ?_
        refine vg_lv [2, 3, 4, 5, 6] rfl ?_
        (try rw [nI_clamp (show i < 2 ^ 31 by omega)])
        rw [sI_sI, sI_at]
        refine S (by omega) _ ?_
        first
          | exact (bP_t ((b1_4 es_66).mpr (Or.inl (And.intro c_121 c_131)))).symm
          | exact (bP_t ((b1_4 es_66).mpr (Or.inr (And.intro c_141 c_151)))).symm
          | exact (bP_f (fun h => ((b1_4 es_66).mp h).elim (fun z => absurd c_121 z.1) (fun z => absurd z.1 c_141))).symm
          | exact (bP_f (fun h => ((b1_4 es_66).mp h).elim (fun z => absurd c_121 z.1) (fun z => absurd c_151 z.2))).symm
          | exact (bP_f (fun h => ((b1_4 es_66).mp h).elim (fun z => absurd z.2 c_131) (fun z => absurd z.1 c_141))).symm
          | exact (bP_f (fun h => ((b1_4 es_66).mp h).elim (fun z => absurd z.2 c_131) (fun z => absurd c_151 z.2))).symm
          | exact (bP_t ((b1_5 es_66).mpr (Or.inl (And.intro c_121 c_131)))).symm
          | exact (bP_t ((b1_5 es_66).mpr (Or.inr (And.intro c_141 c_151)))).symm
          | exact (bP_f (fun h => ((b1_5 es_66).mp h).elim (fun z => absurd c_121 z.1) (fun z => absurd z.1 c_141))).symm
          | exact (bP_f (fun h => ((b1_5 es_66).mp h).elim (fun z => absurd c_121 z.1) (fun z => absurd c_151 z.2))).symm
          | exact (bP_f (fun h => ((b1_5 es_66).mp h).elim (fun z => absurd z.2 c_131) (fun z => absurd z.1 c_141))).symm
          | exact (bP_f (fun h => ((b1_5 es_66).mp h).elim (fun z => absurd z.2 c_131) (fun z => absurd c_151 z.2))).symm
          | exact (bP_t ((b1_6 es_66).mpr (Or.inl c_176))).symm
          | exact (bP_t ((b1_6 es_66).mpr (Or.inr c_186))).symm
          | exact (bP_f (fun h => ((b1_6 es_66).mp h).elim (fun z => absurd c_176 z) (fun z => absurd c_186 z))).symm
          | (rw [hI.1 _ ca, nar_b]; exact bP_congr (b1_7 (F := fun c => ¬ r c = 0) es_66).symm)
          | exact (bP_t ((b1_10 es_66).mpr (Exists.intro c (And.intro (by omega) (And.intro (by rw [ot_e (by omega) hfd]; exact hgc) c_243))))).symm
          | exact (bP_f (fun h => absurd c_243 (DN (show c < 40 by omega) (by rw [ot_e (by omega) hfd]; exact hgc) ((b1_10 es_66).mp h)))).symm
          | exact (bP_f (fun h => DM (by rw [ot_e (by omega) hfd]; exact c_228) ((b1_10 es_66).mp h))).symm
          | (rw [nar_b]; exact bP_congr (b1_2 (F := fun c => ¬ r c = 0) es_66).symm)
          | (rw [nar_b]; exact bP_congr (b1_3 (F := fun c => ¬ r c = 0) es_66).symm)
          | (rw [nar_b]; exact bP_congr (b1_8 (F := fun c => ¬ r c = 0) es_66).symm)
          | (rw [nar_b]; exact bP_congr (Iff.intro (fun h => absurd (e_k h) (by rw [es_66]; decide)) (fun h => ((b1_0 (F := fun c => ¬ r c = 0) es_66).mp h).elim)))
          | (rw [nar_b]; exact bP_congr (Iff.intro (fun h => absurd (e_k h) (by rw [es_66]; decide)) (fun h => ((b1_1 (F := fun c => ¬ r c = 0) es_66).mp h).elim)))
          | (rw [nar_b]; exact bP_congr (Iff.intro (fun h => absurd (e_k h) (by rw [es_66]; decide)) (fun h => ((b1_9 (F := fun c => ¬ r c = 0) es_66).mp h).elim)))
      · skip
        rw [es_66]
        refine vg_tabOut (tgt := 255) C d_R_findSingle_66 (by decide) (by decide) ?_
        refine vg_aload_n C d_R_findSingle_255 rfl ?_
        refine wr_get C d_R_findSingle_256 f_R_64 rfl rfl rfl rfl ?_
        refine vg_iload C d_R_findSingle_259 rfl ?_
        refine vg_aload_n C d_R_findSingle_261 rfl ?_
        refine vg_iload C d_R_findSingle_262 rfl ?_
        refine vg_iload_n C d_R_findSingle_264 rfl ?_
        refine vg_iload_n C d_R_findSingle_265 rfl ?_
        refine wr_callV (As := [_, _, _]) C (c_R_oneN Z hst ad (sI σ 134 r) i (by omega) t ht x (fun h8 => by obtain ⟨c, c1, c2, -⟩ := (hG.1.1.2 i (by omega)).2.1 (Or.inr (Or.inr (Or.inr (Or.inl h8)))); exact ⟨c, by omega, c2⟩)) l_R_findSingle_R_one k_R_98 rfl rfl rfl rfl rfl (Nat.le_of_ble_eq_true rfl) d_R_findSingle_266 ⟨Nat.le_of_ble_eq_true rfl, Nat.le_of_ble_eq_true rfl⟩ (fun v_266 w_266 h_266 => ?_)
        obtain ⟨rfl, rfl⟩ := h_266
        refine wr_zast C d_R_findSingle_269 rfl rfl (by exact vp_in_nI (by omega) (by decide)) ?_
        refine vg_lv [2, 3, 4, 5, 6] rfl ?_
        (try rw [nI_clamp (show i < 2 ^ 31 by omega)])
        rw [sI_sI, sI_at]
        refine S (by omega) _ ?_
        first
          | exact (bP_t ((b1_4 es_66).mpr (Or.inl (And.intro c_121 c_131)))).symm
          | exact (bP_t ((b1_4 es_66).mpr (Or.inr (And.intro c_141 c_151)))).symm
          | exact (bP_f (fun h => ((b1_4 es_66).mp h).elim (fun z => absurd c_121 z.1) (fun z => absurd z.1 c_141))).symm
          | exact (bP_f (fun h => ((b1_4 es_66).mp h).elim (fun z => absurd c_121 z.1) (fun z => absurd c_151 z.2))).symm
          | exact (bP_f (fun h => ((b1_4 es_66).mp h).elim (fun z => absurd z.2 c_131) (fun z => absurd z.1 c_141))).symm
          | exact (bP_f (fun h => ((b1_4 es_66).mp h).elim (fun z => absurd z.2 c_131) (fun z => absurd c_151 z.2))).symm
          | exact (bP_t ((b1_5 es_66).mpr (Or.inl (And.intro c_121 c_131)))).symm
          | exact (bP_t ((b1_5 es_66).mpr (Or.inr (And.intro c_141 c_151)))).symm
          | exact (bP_f (fun h => ((b1_5 es_66).mp h).elim (fun z => absurd c_121 z.1) (fun z => absurd z.1 c_141))).symm
          | exact (bP_f (fun h => ((b1_5 es_66).mp h).elim (fun z => absurd c_121 z.1) (fun z => absurd c_151 z.2))).symm
          | exact (bP_f (fun h => ((b1_5 es_66).mp h).elim (fun z => absurd z.2 c_131) (fun z => absurd z.1 c_141))).symm
          | exact (bP_f (fun h => ((b1_5 es_66).mp h).elim (fun z => absurd z.2 c_131) (fun z => absurd c_151 z.2))).symm
          | exact (bP_t ((b1_6 es_66).mpr (Or.inl c_176))).symm
          | exact (bP_t ((b1_6 es_66).mpr (Or.inr c_186))).symm
          | exact (bP_f (fun h => ((b1_6 es_66).mp h).elim (fun z => absurd c_176 z) (fun z => absurd c_186 z))).symm
          | (rw [hI.1 _ ca, nar_b]; exact bP_congr (b1_7 (F := fun c => ¬ r c = 0) es_66).symm)
          | exact (bP_t ((b1_10 es_66).mpr (Exists.intro c (And.intro (by omega) (And.intro (by rw [ot_e (by omega) hfd]; exact hgc) c_243))))).symm
          | exact (bP_f (fun h => absurd c_243 (DN (show c < 40 by omega) (by rw [ot_e (by omega) hfd]; exact hgc) ((b1_10 es_66).mp h)))).symm
          | exact (bP_f (fun h => DM (by rw [ot_e (by omega) hfd]; exact c_228) ((b1_10 es_66).mp h))).symm
          | (rw [nar_b]; exact bP_congr (b1_2 (F := fun c => ¬ r c = 0) es_66).symm)
          | (rw [nar_b]; exact bP_congr (b1_3 (F := fun c => ¬ r c = 0) es_66).symm)
          | (rw [nar_b]; exact bP_congr (b1_8 (F := fun c => ¬ r c = 0) es_66).symm)
          | (rw [nar_b]; exact bP_congr (Iff.intro (fun h => absurd (e_k h) (by rw [es_66]; decide)) (fun h => ((b1_0 (F := fun c => ¬ r c = 0) es_66).mp h).elim)))
          | (rw [nar_b]; exact bP_congr (Iff.intro (fun h => absurd (e_k h) (by rw [es_66]; decide)) (fun h => ((b1_1 (F := fun c => ¬ r c = 0) es_66).mp h).elim)))
          | (rw [nar_b]; exact bP_congr (Iff.intro (fun h => absurd (e_k h) (by rw [es_66]; decide)) (fun h => ((b1_9 (F := fun c => ¬ r c = 0) es_66).mp h).elim)))
      · skip
        rw [es_66]
        refine vg_tabOut (tgt := 255) C d_R_findSingle_66 (by decide) (by decide) ?_
        refine vg_aload_n C d_R_findSingle_255 rfl ?_
        refine wr_get C d_R_findSingle_256 f_R_64 rfl rfl rfl rfl ?_
        refine vg_iload C d_R_findSingle_259 rfl ?_
        refine vg_aload_n C d_R_findSingle_261 rfl ?_
        refine vg_iload C d_R_findSingle_262 rfl ?_
        refine vg_iload_n C d_R_findSingle_264 rfl ?_
        refine vg_iload_n C d_R_findSingle_265 rfl ?_
        refine wr_callV (As := [_, _, _]) C (c_R_oneN Z hst ad (sI σ 134 r) i (by omega) t ht x (fun h8 => by obtain ⟨c, c1, c2, -⟩ := (hG.1.1.2 i (by omega)).2.1 (Or.inr (Or.inr (Or.inr (Or.inl h8)))); exact ⟨c, by omega, c2⟩)) l_R_findSingle_R_one k_R_98 rfl rfl rfl rfl rfl (Nat.le_of_ble_eq_true rfl) d_R_findSingle_266 ⟨Nat.le_of_ble_eq_true rfl, Nat.le_of_ble_eq_true rfl⟩ (fun v_266 w_266 h_266 => ?_)
        obtain ⟨rfl, rfl⟩ := h_266
        refine wr_zast C d_R_findSingle_269 rfl rfl (by exact vp_in_nI (by omega) (by decide)) ?_
        refine vg_lv [2, 3, 4, 5, 6] rfl ?_
        (try rw [nI_clamp (show i < 2 ^ 31 by omega)])
        rw [sI_sI, sI_at]
        refine S (by omega) _ ?_
        first
          | exact (bP_t ((b1_4 es_66).mpr (Or.inl (And.intro c_121 c_131)))).symm
          | exact (bP_t ((b1_4 es_66).mpr (Or.inr (And.intro c_141 c_151)))).symm
          | exact (bP_f (fun h => ((b1_4 es_66).mp h).elim (fun z => absurd c_121 z.1) (fun z => absurd z.1 c_141))).symm
          | exact (bP_f (fun h => ((b1_4 es_66).mp h).elim (fun z => absurd c_121 z.1) (fun z => absurd c_151 z.2))).symm
          | exact (bP_f (fun h => ((b1_4 es_66).mp h).elim (fun z => absurd z.2 c_131) (fun z => absurd z.1 c_141))).symm
          | exact (bP_f (fun h => ((b1_4 es_66).mp h).elim (fun z => absurd z.2 c_131) (fun z => absurd c_151 z.2))).symm
          | exact (bP_t ((b1_5 es_66).mpr (Or.inl (And.intro c_121 c_131)))).symm
          | exact (bP_t ((b1_5 es_66).mpr (Or.inr (And.intro c_141 c_151)))).symm
          | exact (bP_f (fun h => ((b1_5 es_66).mp h).elim (fun z => absurd c_121 z.1) (fun z => absurd z.1 c_141))).symm
          | exact (bP_f (fun h => ((b1_5 es_66).mp h).elim (fun z => absurd c_121 z.1) (fun z => absurd c_151 z.2))).symm
          | exact (bP_f (fun h => ((b1_5 es_66).mp h).elim (fun z => absurd z.2 c_131) (fun z => absurd z.1 c_141))).symm
          | exact (bP_f (fun h => ((b1_5 es_66).mp h).elim (fun z => absurd z.2 c_131) (fun z => absurd c_151 z.2))).symm
          | exact (bP_t ((b1_6 es_66).mpr (Or.inl c_176))).symm
          | exact (bP_t ((b1_6 es_66).mpr (Or.inr c_186))).symm
          | exact (bP_f (fun h => ((b1_6 es_66).mp h).elim (fun z => absurd c_176 z) (fun z => absurd c_186 z))).symm
          | (rw [hI.1 _ ca, nar_b]; exact bP_congr (b1_7 (F := fun c => ¬ r c = 0) es_66).symm)
          | exact (bP_t ((b1_10 es_66).mpr (Exists.intro c (And.intro (by omega) (And.intro (by rw [ot_e (by omega) hfd]; exact hgc) c_243))))).symm
          | exact (bP_f (fun h => absurd c_243 (DN (show c < 40 by omega) (by rw [ot_e (by omega) hfd]; exact hgc) ((b1_10 es_66).mp h)))).symm
          | exact (bP_f (fun h => DM (by rw [ot_e (by omega) hfd]; exact c_228) ((b1_10 es_66).mp h))).symm
          | (rw [nar_b]; exact bP_congr (b1_2 (F := fun c => ¬ r c = 0) es_66).symm)
          | (rw [nar_b]; exact bP_congr (b1_3 (F := fun c => ¬ r c = 0) es_66).symm)
          | (rw [nar_b]; exact bP_congr (b1_8 (F := fun c => ¬ r c = 0) es_66).symm)
          | (rw [nar_b]; exact bP_congr (Iff.intro (fun h => absurd (e_k h) (by rw [es_66]; decide)) (fun h => ((b1_0 (F := fun c => ¬ r c = 0) es_66).mp h).elim)))
          | (rw [nar_b]; exact bP_congr (Iff.intro (fun h => absurd (e_k h) (by rw [es_66]; decide)) (fun h => ((b1_1 (F := fun c => ¬ r c = 0) es_66).mp h).elim)))
          | (rw [nar_b]; exact bP_congr (Iff.intro (fun h => absurd (e_k h) (by rw [es_66]; decide)) (fun h => ((b1_9 (F := fun c => ¬ r c = 0) es_66).mp h).elim)))
      · skip
        rw [es_66]
        refine vg_tabOut (tgt := 255) C d_R_findSingle_66 (by decide) (by decide) ?_
        refine vg_aload_n C d_R_findSingle_255 rfl ?_
        refine wr_get C d_R_findSingle_256 f_R_64 rfl rfl rfl rfl ?_
        refine vg_iload C d_R_findSingle_259 rfl ?_
        refine vg_aload_n C d_R_findSingle_261 rfl ?_
        refine vg_iload C d_R_findSingle_262 rfl ?_
        refine vg_iload_n C d_R_findSingle_264 rfl ?_
        refine vg_iload_n C d_R_findSingle_265 rfl ?_
        refine wr_callV (As := [_, _, _]) C (c_R_oneN Z hst ad (sI σ 134 r) i (by omega) t ht x (fun h8 => by obtain ⟨c, c1, c2, -⟩ := (hG.1.1.2 i (by omega)).2.1 (Or.inr (Or.inr (Or.inr (Or.inl h8)))); exact ⟨c, by omega, c2⟩)) l_R_findSingle_R_one k_R_98 rfl rfl rfl rfl rfl (Nat.le_of_ble_eq_true rfl) d_R_findSingle_266 ⟨Nat.le_of_ble_eq_true rfl, Nat.le_of_ble_eq_true rfl⟩ (fun v_266 w_266 h_266 => ?_)
        obtain ⟨rfl, rfl⟩ := h_266
        refine wr_zast C d_R_findSingle_269 rfl rfl (by exact vp_in_nI (by omega) (by decide)) ?_
        refine vg_lv [2, 3, 4, 5, 6] rfl ?_
        (try rw [nI_clamp (show i < 2 ^ 31 by omega)])
        rw [sI_sI, sI_at]
        refine S (by omega) _ ?_
        first
          | exact (bP_t ((b1_4 es_66).mpr (Or.inl (And.intro c_121 c_131)))).symm
          | exact (bP_t ((b1_4 es_66).mpr (Or.inr (And.intro c_141 c_151)))).symm
          | exact (bP_f (fun h => ((b1_4 es_66).mp h).elim (fun z => absurd c_121 z.1) (fun z => absurd z.1 c_141))).symm
          | exact (bP_f (fun h => ((b1_4 es_66).mp h).elim (fun z => absurd c_121 z.1) (fun z => absurd c_151 z.2))).symm
          | exact (bP_f (fun h => ((b1_4 es_66).mp h).elim (fun z => absurd z.2 c_131) (fun z => absurd z.1 c_141))).symm
          | exact (bP_f (fun h => ((b1_4 es_66).mp h).elim (fun z => absurd z.2 c_131) (fun z => absurd c_151 z.2))).symm
          | exact (bP_t ((b1_5 es_66).mpr (Or.inl (And.intro c_121 c_131)))).symm
          | exact (bP_t ((b1_5 es_66).mpr (Or.inr (And.intro c_141 c_151)))).symm
          | exact (bP_f (fun h => ((b1_5 es_66).mp h).elim (fun z => absurd c_121 z.1) (fun z => absurd z.1 c_141))).symm
          | exact (bP_f (fun h => ((b1_5 es_66).mp h).elim (fun z => absurd c_121 z.1) (fun z => absurd c_151 z.2))).symm
          | exact (bP_f (fun h => ((b1_5 es_66).mp h).elim (fun z => absurd z.2 c_131) (fun z => absurd z.1 c_141))).symm
          | exact (bP_f (fun h => ((b1_5 es_66).mp h).elim (fun z => absurd z.2 c_131) (fun z => absurd c_151 z.2))).symm
          | exact (bP_t ((b1_6 es_66).mpr (Or.inl c_176))).symm
          | exact (bP_t ((b1_6 es_66).mpr (Or.inr c_186))).symm
          | exact (bP_f (fun h => ((b1_6 es_66).mp h).elim (fun z => absurd c_176 z) (fun z => absurd c_186 z))).symm
          | (rw [hI.1 _ ca, nar_b]; exact bP_congr (b1_7 (F := fun c => ¬ r c = 0) es_66).symm)
          | exact (bP_t ((b1_10 es_66).mpr (Exists.intro c (And.intro (by omega) (And.intro (by rw [ot_e (by omega) hfd]; exact hgc) c_243))))).symm
          | exact (bP_f (fun h => absurd c_243 (DN (show c < 40 by omega) (by rw [ot_e (by omega) hfd]; exact hgc) ((b1_10 es_66).mp h)))).symm
          | exact (bP_f (fun h => DM (by rw [ot_e (by omega) hfd]; exact c_228) ((b1_10 es_66).mp h))).symm
          | (rw [nar_b]; exact bP_congr (b1_2 (F := fun c => ¬ r c = 0) es_66).symm)
          | (rw [nar_b]; exact bP_congr (b1_3 (F := fun c => ¬ r c = 0) es_66).symm)
          | (rw [nar_b]; exact bP_congr (b1_8 (F := fun c => ¬ r c = 0) es_66).symm)
          | (rw [nar_b]; exact bP_congr (Iff.intro (fun h => absurd (e_k h) (by rw [es_66]; decide)) (fun h => ((b1_0 (F := fun c => ¬ r c = 0) es_66).mp h).elim)))
          | (rw [nar_b]; exact bP_congr (Iff.intro (fun h => absurd (e_k h) (by rw [es_66]; decide)) (fun h => ((b1_1 (F := fun c => ¬ r c = 0) es_66).mp h).elim)))
          | (rw [nar_b]; exact bP_congr (Iff.intro (fun h => absurd (e_k h) (by rw [es_66]; decide)) (fun h => ((b1_9 (F := fun c => ¬ r c = 0) es_66).mp h).elim)))
      · skip
        rw [es_66]
        refine vg_tabIn (tgt := 108) C d_R_findSingle_66 (by decide) (by decide) rfl (by decide) ?_
        obtain ⟨ca, ea, -⟩ := Ch_f hG.1.1 (p := i) (by omega) (by rw [es_66]; decide)
        rw [ea]
        obtain ⟨cb, eb, -⟩ := Ch_s hG.1.1 (p := i) (by omega) (by rw [es_66]; decide)
        rw [eb]
        have cn1 := (c_fn hG.1.1 hH (p := i) (by rw [es_66]; decide) (by omega)).1
        have cn2 := (c_sn hG.1.1 hH (p := i) (by rw [es_66]; decide) (by omega)).1
        refine vg_aload_n C d_R_findSingle_108 rfl ?_
        refine wr_get C d_R_findSingle_109 f_R_64 rfl rfl rfl rfl ?_
        refine vg_iload C d_R_findSingle_112 rfl ?_
        refine vg_aload_n C d_R_findSingle_114 rfl ?_
        refine wr_get C d_R_findSingle_115 f_R_64 rfl rfl rfl rfl ?_
        refine vg_iload C d_R_findSingle_118 rfl ?_
        refine wr_zald C d_R_findSingle_120 rfl rfl (by exact vp_in_nI (by omega) (by decide)) ?_
        rw [nI_clamp (by omega), sI_at]
        refine vg_if_eq (tgt := 134) C d_R_findSingle_121 (by decide) (fun c_121 => ?_) (fun c_121 => ?_)
        · skip
          refine vg_aload_n C d_R_findSingle_134 rfl ?_
          refine wr_get C d_R_findSingle_135 f_R_61 rfl rfl rfl rfl ?_
          refine vg_iload C d_R_findSingle_138 rfl ?_
          refine wr_zald C d_R_findSingle_140 rfl rfl (by exact vp_in_nI (by omega) (by decide)) ?_
          rw [nI_clamp (by omega), sI_ne _ (by decide), hN _ cn1]
          refine vg_if_eq (tgt := 158) C d_R_findSingle_141 (by decide) (fun c_141 => ?_) (fun c_141 => ?_)
          · rw [bP_eq] at c_141; (try simp only [Classical.not_not] at c_141)
            refine vg_iconst (v := 0) C d_R_findSingle_158 (by decide) ?_
            refine wr_zast C d_R_findSingle_159 rfl rfl (by exact vp_in_nI (by omega) (by decide)) ?_
            rw [nI_clamp (by omega)]
            refine vg_goto (tgt := 270) C d_R_findSingle_160 (by decide) ?_
            refine vg_lv [2, 3, 4, 5, 6] rfl ?_
            (try rw [nI_clamp (show i < 2 ^ 31 by omega)])
            rw [sI_sI, sI_at]
            refine S (by omega) _ ?_
            first
              | exact (bP_t ((b1_4 es_66).mpr (Or.inl (And.intro c_121 c_131)))).symm
              | exact (bP_t ((b1_4 es_66).mpr (Or.inr (And.intro c_141 c_151)))).symm
              | exact (bP_f (fun h => ((b1_4 es_66).mp h).elim (fun z => absurd c_121 z.1) (fun z => absurd z.1 c_141))).symm
              | exact (bP_f (fun h => ((b1_4 es_66).mp h).elim (fun z => absurd c_121 z.1) (fun z => absurd c_151 z.2))).symm
              | exact (bP_f (fun h => ((b1_4 es_66).mp h).elim (fun z => absurd z.2 c_131) (fun z => absurd z.1 c_141))).symm
              | exact (bP_f (fun h => ((b1_4 es_66).mp h).elim (fun z => absurd z.2 c_131) (fun z => absurd c_151 z.2))).symm
              | exact (bP_t ((b1_5 es_66).mpr (Or.inl (And.intro c_121 c_131)))).symm
              | exact (bP_t ((b1_5 es_66).mpr (Or.inr (And.intro c_141 c_151)))).symm
              | exact (bP_f (fun h => ((b1_5 es_66).mp h).elim (fun z => absurd c_121 z.1) (fun z => absurd z.1 c_141))).symm
              | exact (bP_f (fun h => ((b1_5 es_66).mp h).elim (fun z => absurd c_121 z.1) (fun z => absurd c_151 z.2))).symm
              | exact (bP_f (fun h => ((b1_5 es_66).mp h).elim (fun z => absurd z.2 c_131) (fun z => absurd z.1 c_141))).symm
              | exact (bP_f (fun h => ((b1_5 es_66).mp h).elim (fun z => absurd z.2 c_131) (fun z => absurd c_151 z.2))).symm
              | exact (bP_t ((b1_6 es_66).mpr (Or.inl c_176))).symm
              | exact (bP_t ((b1_6 es_66).mpr (Or.inr c_186))).symm
              | exact (bP_f (fun h => ((b1_6 es_66).mp h).elim (fun z => absurd c_176 z) (fun z => absurd c_186 z))).symm
              | (rw [hI.1 _ ca, nar_b]; exact bP_congr (b1_7 (F := fun c => ¬ r c = 0) es_66).symm)
              | exact (bP_t ((b1_10 es_66).mpr (Exists.intro c (And.intro (by omega) (And.intro (by rw [ot_e (by omega) hfd]; exact hgc) c_243))))).symm
              | exact (bP_f (fun h => absurd c_243 (DN (show c < 40 by omega) (by rw [ot_e (by omega) hfd]; exact hgc) ((b1_10 es_66).mp h)))).symm
              | exact (bP_f (fun h => DM (by rw [ot_e (by omega) hfd]; exact c_228) ((b1_10 es_66).mp h))).symm
              | (rw [nar_b]; exact bP_congr (b1_2 (F := fun c => ¬ r c = 0) es_66).symm)
              | (rw [nar_b]; exact bP_congr (b1_3 (F := fun c => ¬ r c = 0) es_66).symm)
              | (rw [nar_b]; exact bP_congr (b1_8 (F := fun c => ¬ r c = 0) es_66).symm)
              | (rw [nar_b]; exact bP_congr (Iff.intro (fun h => absurd (e_k h) (by rw [es_66]; decide)) (fun h => ((b1_0 (F := fun c => ¬ r c = 0) es_66).mp h).elim)))
              | (rw [nar_b]; exact bP_congr (Iff.intro (fun h => absurd (e_k h) (by rw [es_66]; decide)) (fun h => ((b1_1 (F := fun c => ¬ r c = 0) es_66).mp h).elim)))
              | (rw [nar_b]; exact bP_congr (Iff.intro (fun h => absurd (e_k h) (by rw [es_66]; decide)) (fun h => ((b1_9 (F := fun c => ¬ r c = 0) es_66).mp h).elim)))
          · rw [bP_eq] at c_141; (try simp only [Classical.not_not] at c_141)
            refine vg_aload_n C d_R_findSingle_144 rfl ?_
            refine wr_get C d_R_findSingle_145 f_R_64 rfl rfl rfl rfl ?_
            refine vg_iload C d_R_findSingle_148 rfl ?_
            refine wr_zald C d_R_findSingle_150 rfl rfl (by exact vp_in_nI (by omega) (by decide)) ?_
            rw [nI_clamp (by omega), sI_at]
            refine vg_if_eq (tgt := 158) C d_R_findSingle_151 (by decide) (fun c_151 => ?_) (fun c_151 => ?_)
            · skip
              refine vg_iconst (v := 0) C d_R_findSingle_158 (by decide) ?_
              refine wr_zast C d_R_findSingle_159 rfl rfl (by exact vp_in_nI (by omega) (by decide)) ?_
              rw [nI_clamp (by omega)]
              refine vg_goto (tgt := 270) C d_R_findSingle_160 (by decide) ?_
              refine vg_lv [2, 3, 4, 5, 6] rfl ?_
              (try rw [nI_clamp (show i < 2 ^ 31 by omega)])
              rw [sI_sI, sI_at]
              refine S (by omega) _ ?_
              first
                | exact (bP_t ((b1_4 es_66).mpr (Or.inl (And.intro c_121 c_131)))).symm
                | exact (bP_t ((b1_4 es_66).mpr (Or.inr (And.intro c_141 c_151)))).symm
                | exact (bP_f (fun h => ((b1_4 es_66).mp h).elim (fun z => absurd c_121 z.1) (fun z => absurd z.1 c_141))).symm
                | exact (bP_f (fun h => ((b1_4 es_66).mp h).elim (fun z => absurd c_121 z.1) (fun z => absurd c_151 z.2))).symm
                | exact (bP_f (fun h => ((b1_4 es_66).mp h).elim (fun z => absurd z.2 c_131) (fun z => absurd z.1 c_141))).symm
                | exact (bP_f (fun h => ((b1_4 es_66).mp h).elim (fun z => absurd z.2 c_131) (fun z => absurd c_151 z.2))).symm
                | exact (bP_t ((b1_5 es_66).mpr (Or.inl (And.intro c_121 c_131)))).symm
                | exact (bP_t ((b1_5 es_66).mpr (Or.inr (And.intro c_141 c_151)))).symm
                | exact (bP_f (fun h => ((b1_5 es_66).mp h).elim (fun z => absurd c_121 z.1) (fun z => absurd z.1 c_141))).symm
                | exact (bP_f (fun h => ((b1_5 es_66).mp h).elim (fun z => absurd c_121 z.1) (fun z => absurd c_151 z.2))).symm
                | exact (bP_f (fun h => ((b1_5 es_66).mp h).elim (fun z => absurd z.2 c_131) (fun z => absurd z.1 c_141))).symm
                | exact (bP_f (fun h => ((b1_5 es_66).mp h).elim (fun z => absurd z.2 c_131) (fun z => absurd c_151 z.2))).symm
                | exact (bP_t ((b1_6 es_66).mpr (Or.inl c_176))).symm
                | exact (bP_t ((b1_6 es_66).mpr (Or.inr c_186))).symm
                | exact (bP_f (fun h => ((b1_6 es_66).mp h).elim (fun z => absurd c_176 z) (fun z => absurd c_186 z))).symm
                | (rw [hI.1 _ ca, nar_b]; exact bP_congr (b1_7 (F := fun c => ¬ r c = 0) es_66).symm)
                | exact (bP_t ((b1_10 es_66).mpr (Exists.intro c (And.intro (by omega) (And.intro (by rw [ot_e (by omega) hfd]; exact hgc) c_243))))).symm
                | exact (bP_f (fun h => absurd c_243 (DN (show c < 40 by omega) (by rw [ot_e (by omega) hfd]; exact hgc) ((b1_10 es_66).mp h)))).symm
                | exact (bP_f (fun h => DM (by rw [ot_e (by omega) hfd]; exact c_228) ((b1_10 es_66).mp h))).symm
                | (rw [nar_b]; exact bP_congr (b1_2 (F := fun c => ¬ r c = 0) es_66).symm)
                | (rw [nar_b]; exact bP_congr (b1_3 (F := fun c => ¬ r c = 0) es_66).symm)
                | (rw [nar_b]; exact bP_congr (b1_8 (F := fun c => ¬ r c = 0) es_66).symm)
                | (rw [nar_b]; exact bP_congr (Iff.intro (fun h => absurd (e_k h) (by rw [es_66]; decide)) (fun h => ((b1_0 (F := fun c => ¬ r c = 0) es_66).mp h).elim)))
                | (rw [nar_b]; exact bP_congr (Iff.intro (fun h => absurd (e_k h) (by rw [es_66]; decide)) (fun h => ((b1_1 (F := fun c => ¬ r c = 0) es_66).mp h).elim)))
                | (rw [nar_b]; exact bP_congr (Iff.intro (fun h => absurd (e_k h) (by rw [es_66]; decide)) (fun h => ((b1_9 (F := fun c => ¬ r c = 0) es_66).mp h).elim)))
            · skip
              refine vg_iconst (v := 1) C d_R_findSingle_154 (by decide) ?_
              refine vg_goto (tgt := 159) C d_R_findSingle_155 (by decide) ?_
              refine wr_zast C d_R_findSingle_159 rfl rfl (by exact vp_in_nI (by omega) (by decide)) ?_
              rw [nI_clamp (by omega)]
              refine vg_goto (tgt := 270) C d_R_findSingle_160 (by decide) ?_
              refine vg_lv [2, 3, 4, 5, 6] rfl ?_
              (try rw [nI_clamp (show i < 2 ^ 31 by omega)])
              rw [sI_sI, sI_at]
              refine S (by omega) _ ?_
              first
                | exact (bP_t ((b1_4 es_66).mpr (Or.inl (And.intro c_121 c_131)))).symm
                | exact (bP_t ((b1_4 es_66).mpr (Or.inr (And.intro c_141 c_151)))).symm
                | exact (bP_f (fun h => ((b1_4 es_66).mp h).elim (fun z => absurd c_121 z.1) (fun z => absurd z.1 c_141))).symm
                | exact (bP_f (fun h => ((b1_4 es_66).mp h).elim (fun z => absurd c_121 z.1) (fun z => absurd c_151 z.2))).symm
                | exact (bP_f (fun h => ((b1_4 es_66).mp h).elim (fun z => absurd z.2 c_131) (fun z => absurd z.1 c_141))).symm
                | exact (bP_f (fun h => ((b1_4 es_66).mp h).elim (fun z => absurd z.2 c_131) (fun z => absurd c_151 z.2))).symm
                | exact (bP_t ((b1_5 es_66).mpr (Or.inl (And.intro c_121 c_131)))).symm
                | exact (bP_t ((b1_5 es_66).mpr (Or.inr (And.intro c_141 c_151)))).symm
                | exact (bP_f (fun h => ((b1_5 es_66).mp h).elim (fun z => absurd c_121 z.1) (fun z => absurd z.1 c_141))).symm
                | exact (bP_f (fun h => ((b1_5 es_66).mp h).elim (fun z => absurd c_121 z.1) (fun z => absurd c_151 z.2))).symm
                | exact (bP_f (fun h => ((b1_5 es_66).mp h).elim (fun z => absurd z.2 c_131) (fun z => absurd z.1 c_141))).symm
                | exact (bP_f (fun h => ((b1_5 es_66).mp h).elim (fun z => absurd z.2 c_131) (fun z => absurd c_151 z.2))).symm
                | exact (bP_t ((b1_6 es_66).mpr (Or.inl c_176))).symm
                | exact (bP_t ((b1_6 es_66).mpr (Or.inr c_186))).symm
                | exact (bP_f (fun h => ((b1_6 es_66).mp h).elim (fun z => absurd c_176 z) (fun z => absurd c_186 z))).symm
                | (rw [hI.1 _ ca, nar_b]; exact bP_congr (b1_7 (F := fun c => ¬ r c = 0) es_66).symm)
                | exact (bP_t ((b1_10 es_66).mpr (Exists.intro c (And.intro (by omega) (And.intro (by rw [ot_e (by omega) hfd]; exact hgc) c_243))))).symm
                | exact (bP_f (fun h => absurd c_243 (DN (show c < 40 by omega) (by rw [ot_e (by omega) hfd]; exact hgc) ((b1_10 es_66).mp h)))).symm
                | exact (bP_f (fun h => DM (by rw [ot_e (by omega) hfd]; exact c_228) ((b1_10 es_66).mp h))).symm
                | (rw [nar_b]; exact bP_congr (b1_2 (F := fun c => ¬ r c = 0) es_66).symm)
                | (rw [nar_b]; exact bP_congr (b1_3 (F := fun c => ¬ r c = 0) es_66).symm)
                | (rw [nar_b]; exact bP_congr (b1_8 (F := fun c => ¬ r c = 0) es_66).symm)
                | (rw [nar_b]; exact bP_congr (Iff.intro (fun h => absurd (e_k h) (by rw [es_66]; decide)) (fun h => ((b1_0 (F := fun c => ¬ r c = 0) es_66).mp h).elim)))
                | (rw [nar_b]; exact bP_congr (Iff.intro (fun h => absurd (e_k h) (by rw [es_66]; decide)) (fun h => ((b1_1 (F := fun c => ¬ r c = 0) es_66).mp h).elim)))
                | (rw [nar_b]; exact bP_congr (Iff.intro (fun h => absurd (e_k h) (by rw [es_66]; decide)) (fun h => ((b1_9 (F := fun c => ¬ r c = 0) es_66).mp h).elim)))
        · skip
          refine vg_aload_n C d_R_findSingle_124 rfl ?_
          refine wr_get C d_R_findSingle_125 f_R_61 rfl rfl rfl rfl ?_
          refine vg_iload C d_R_findSingle_128 rfl ?_
          refine wr_zald C d_R_findSingle_130 rfl rfl (by exact vp_in_nI (by omega) (by decide)) ?_
          rw [nI_clamp (by omega), sI_ne _ (by decide), hN _ cn2]
          refine vg_if_ne (tgt := 154) C d_R_findSingle_131 (by decide) (fun c_131 => ?_) (fun c_131 => ?_)
          · rw [bP_eq] at c_131; (try simp only [Classical.not_not] at c_131)
            refine vg_iconst (v := 1) C d_R_findSingle_154 (by decide) ?_
            refine vg_goto (tgt := 159) C d_R_findSingle_155 (by decide) ?_
            refine wr_zast C d_R_findSingle_159 rfl rfl (by exact vp_in_nI (by omega) (by decide)) ?_
            rw [nI_clamp (by omega)]
            refine vg_goto (tgt := 270) C d_R_findSingle_160 (by decide) ?_
            refine vg_lv [2, 3, 4, 5, 6] rfl ?_
            (try rw [nI_clamp (show i < 2 ^ 31 by omega)])
            rw [sI_sI, sI_at]
            refine S (by omega) _ ?_
            first
              | exact (bP_t ((b1_4 es_66).mpr (Or.inl (And.intro c_121 c_131)))).symm
              | exact (bP_t ((b1_4 es_66).mpr (Or.inr (And.intro c_141 c_151)))).symm
              | exact (bP_f (fun h => ((b1_4 es_66).mp h).elim (fun z => absurd c_121 z.1) (fun z => absurd z.1 c_141))).symm
              | exact (bP_f (fun h => ((b1_4 es_66).mp h).elim (fun z => absurd c_121 z.1) (fun z => absurd c_151 z.2))).symm
              | exact (bP_f (fun h => ((b1_4 es_66).mp h).elim (fun z => absurd z.2 c_131) (fun z => absurd z.1 c_141))).symm
              | exact (bP_f (fun h => ((b1_4 es_66).mp h).elim (fun z => absurd z.2 c_131) (fun z => absurd c_151 z.2))).symm
              | exact (bP_t ((b1_5 es_66).mpr (Or.inl (And.intro c_121 c_131)))).symm
              | exact (bP_t ((b1_5 es_66).mpr (Or.inr (And.intro c_141 c_151)))).symm
              | exact (bP_f (fun h => ((b1_5 es_66).mp h).elim (fun z => absurd c_121 z.1) (fun z => absurd z.1 c_141))).symm
              | exact (bP_f (fun h => ((b1_5 es_66).mp h).elim (fun z => absurd c_121 z.1) (fun z => absurd c_151 z.2))).symm
              | exact (bP_f (fun h => ((b1_5 es_66).mp h).elim (fun z => absurd z.2 c_131) (fun z => absurd z.1 c_141))).symm
              | exact (bP_f (fun h => ((b1_5 es_66).mp h).elim (fun z => absurd z.2 c_131) (fun z => absurd c_151 z.2))).symm
              | exact (bP_t ((b1_6 es_66).mpr (Or.inl c_176))).symm
              | exact (bP_t ((b1_6 es_66).mpr (Or.inr c_186))).symm
              | exact (bP_f (fun h => ((b1_6 es_66).mp h).elim (fun z => absurd c_176 z) (fun z => absurd c_186 z))).symm
              | (rw [hI.1 _ ca, nar_b]; exact bP_congr (b1_7 (F := fun c => ¬ r c = 0) es_66).symm)
              | exact (bP_t ((b1_10 es_66).mpr (Exists.intro c (And.intro (by omega) (And.intro (by rw [ot_e (by omega) hfd]; exact hgc) c_243))))).symm
              | exact (bP_f (fun h => absurd c_243 (DN (show c < 40 by omega) (by rw [ot_e (by omega) hfd]; exact hgc) ((b1_10 es_66).mp h)))).symm
              | exact (bP_f (fun h => DM (by rw [ot_e (by omega) hfd]; exact c_228) ((b1_10 es_66).mp h))).symm
              | (rw [nar_b]; exact bP_congr (b1_2 (F := fun c => ¬ r c = 0) es_66).symm)
              | (rw [nar_b]; exact bP_congr (b1_3 (F := fun c => ¬ r c = 0) es_66).symm)
              | (rw [nar_b]; exact bP_congr (b1_8 (F := fun c => ¬ r c = 0) es_66).symm)
              | (rw [nar_b]; exact bP_congr (Iff.intro (fun h => absurd (e_k h) (by rw [es_66]; decide)) (fun h => ((b1_0 (F := fun c => ¬ r c = 0) es_66).mp h).elim)))
              | (rw [nar_b]; exact bP_congr (Iff.intro (fun h => absurd (e_k h) (by rw [es_66]; decide)) (fun h => ((b1_1 (F := fun c => ¬ r c = 0) es_66).mp h).elim)))
              | (rw [nar_b]; exact bP_congr (Iff.intro (fun h => absurd (e_k h) (by rw [es_66]; decide)) (fun h => ((b1_9 (F := fun c => ¬ r c = 0) es_66).mp h).elim)))
          · rw [bP_eq] at c_131; (try simp only [Classical.not_not] at c_131)
            refine vg_aload_n C d_R_findSingle_134 rfl ?_
            refine wr_get C d_R_findSingle_135 f_R_61 rfl rfl rfl rfl ?_
            refine vg_iload C d_R_findSingle_138 rfl ?_
            refine wr_zald C d_R_findSingle_140 rfl rfl (by exact vp_in_nI (by omega) (by decide)) ?_
            rw [nI_clamp (by omega), sI_ne _ (by decide), hN _ cn1]
            refine vg_if_eq (tgt := 158) C d_R_findSingle_141 (by decide) (fun c_141 => ?_) (fun c_141 => ?_)
            · rw [bP_eq] at c_141; (try simp only [Classical.not_not] at c_141)
              refine vg_iconst (v := 0) C d_R_findSingle_158 (by decide) ?_
              refine wr_zast C d_R_findSingle_159 rfl rfl (by exact vp_in_nI (by omega) (by decide)) ?_
              rw [nI_clamp (by omega)]
              refine vg_goto (tgt := 270) C d_R_findSingle_160 (by decide) ?_
              refine vg_lv [2, 3, 4, 5, 6] rfl ?_
              (try rw [nI_clamp (show i < 2 ^ 31 by omega)])
              rw [sI_sI, sI_at]
              refine S (by omega) _ ?_
              first
                | exact (bP_t ((b1_4 es_66).mpr (Or.inl (And.intro c_121 c_131)))).symm
                | exact (bP_t ((b1_4 es_66).mpr (Or.inr (And.intro c_141 c_151)))).symm
                | exact (bP_f (fun h => ((b1_4 es_66).mp h).elim (fun z => absurd c_121 z.1) (fun z => absurd z.1 c_141))).symm
                | exact (bP_f (fun h => ((b1_4 es_66).mp h).elim (fun z => absurd c_121 z.1) (fun z => absurd c_151 z.2))).symm
                | exact (bP_f (fun h => ((b1_4 es_66).mp h).elim (fun z => absurd z.2 c_131) (fun z => absurd z.1 c_141))).symm
                | exact (bP_f (fun h => ((b1_4 es_66).mp h).elim (fun z => absurd z.2 c_131) (fun z => absurd c_151 z.2))).symm
                | exact (bP_t ((b1_5 es_66).mpr (Or.inl (And.intro c_121 c_131)))).symm
                | exact (bP_t ((b1_5 es_66).mpr (Or.inr (And.intro c_141 c_151)))).symm
                | exact (bP_f (fun h => ((b1_5 es_66).mp h).elim (fun z => absurd c_121 z.1) (fun z => absurd z.1 c_141))).symm
                | exact (bP_f (fun h => ((b1_5 es_66).mp h).elim (fun z => absurd c_121 z.1) (fun z => absurd c_151 z.2))).symm
                | exact (bP_f (fun h => ((b1_5 es_66).mp h).elim (fun z => absurd z.2 c_131) (fun z => absurd z.1 c_141))).symm
                | exact (bP_f (fun h => ((b1_5 es_66).mp h).elim (fun z => absurd z.2 c_131) (fun z => absurd c_151 z.2))).symm
                | exact (bP_t ((b1_6 es_66).mpr (Or.inl c_176))).symm
                | exact (bP_t ((b1_6 es_66).mpr (Or.inr c_186))).symm
                | exact (bP_f (fun h => ((b1_6 es_66).mp h).elim (fun z => absurd c_176 z) (fun z => absurd c_186 z))).symm
                | (rw [hI.1 _ ca, nar_b]; exact bP_congr (b1_7 (F := fun c => ¬ r c = 0) es_66).symm)
                | exact (bP_t ((b1_10 es_66).mpr (Exists.intro c (And.intro (by omega) (And.intro (by rw [ot_e (by omega) hfd]; exact hgc) c_243))))).symm
                | exact (bP_f (fun h => absurd c_243 (DN (show c < 40 by omega) (by rw [ot_e (by omega) hfd]; exact hgc) ((b1_10 es_66).mp h)))).symm
                | exact (bP_f (fun h => DM (by rw [ot_e (by omega) hfd]; exact c_228) ((b1_10 es_66).mp h))).symm
                | (rw [nar_b]; exact bP_congr (b1_2 (F := fun c => ¬ r c = 0) es_66).symm)
                | (rw [nar_b]; exact bP_congr (b1_3 (F := fun c => ¬ r c = 0) es_66).symm)
                | (rw [nar_b]; exact bP_congr (b1_8 (F := fun c => ¬ r c = 0) es_66).symm)
                | (rw [nar_b]; exact bP_congr (Iff.intro (fun h => absurd (e_k h) (by rw [es_66]; decide)) (fun h => ((b1_0 (F := fun c => ¬ r c = 0) es_66).mp h).elim)))
                | (rw [nar_b]; exact bP_congr (Iff.intro (fun h => absurd (e_k h) (by rw [es_66]; decide)) (fun h => ((b1_1 (F := fun c => ¬ r c = 0) es_66).mp h).elim)))
                | (rw [nar_b]; exact bP_congr (Iff.intro (fun h => absurd (e_k h) (by rw [es_66]; decide)) (fun h => ((b1_9 (F := fun c => ¬ r c = 0) es_66).mp h).elim)))
            · rw [bP_eq] at c_141; (try simp only [Classical.not_not] at c_141)
              refine vg_aload_n C d_R_findSingle_144 rfl ?_
              refine wr_get C d_R_findSingle_145 f_R_64 rfl rfl rfl rfl ?_
              refine vg_iload C d_R_findSingle_148 rfl ?_
              refine wr_zald C d_R_findSingle_150 rfl rfl (by exact vp_in_nI (by omega) (by decide)) ?_
              rw [nI_clamp (by omega), sI_at]
              refine vg_if_eq (tgt := 158) C d_R_findSingle_151 (by decide) (fun c_151 => ?_) (fun c_151 => ?_)
              · skip
                refine vg_iconst (v := 0) C d_R_findSingle_158 (by decide) ?_
                refine wr_zast C d_R_findSingle_159 rfl rfl (by exact vp_in_nI (by omega) (by decide)) ?_
                rw [nI_clamp (by omega)]
                refine vg_goto (tgt := 270) C d_R_findSingle_160 (by decide) ?_
                refine vg_lv [2, 3, 4, 5, 6] rfl ?_
                (try rw [nI_clamp (show i < 2 ^ 31 by omega)])
                rw [sI_sI, sI_at]
                refine S (by omega) _ ?_
                first
                  | exact (bP_t ((b1_4 es_66).mpr (Or.inl (And.intro c_121 c_131)))).symm
                  | exact (bP_t ((b1_4 es_66).mpr (Or.inr (And.intro c_141 c_151)))).symm
                  | exact (bP_f (fun h => ((b1_4 es_66).mp h).elim (fun z => absurd c_121 z.1) (fun z => absurd z.1 c_141))).symm
                  | exact (bP_f (fun h => ((b1_4 es_66).mp h).elim (fun z => absurd c_121 z.1) (fun z => absurd c_151 z.2))).symm
                  | exact (bP_f (fun h => ((b1_4 es_66).mp h).elim (fun z => absurd z.2 c_131) (fun z => absurd z.1 c_141))).symm
                  | exact (bP_f (fun h => ((b1_4 es_66).mp h).elim (fun z => absurd z.2 c_131) (fun z => absurd c_151 z.2))).symm
                  | exact (bP_t ((b1_5 es_66).mpr (Or.inl (And.intro c_121 c_131)))).symm
                  | exact (bP_t ((b1_5 es_66).mpr (Or.inr (And.intro c_141 c_151)))).symm
                  | exact (bP_f (fun h => ((b1_5 es_66).mp h).elim (fun z => absurd c_121 z.1) (fun z => absurd z.1 c_141))).symm
                  | exact (bP_f (fun h => ((b1_5 es_66).mp h).elim (fun z => absurd c_121 z.1) (fun z => absurd c_151 z.2))).symm
                  | exact (bP_f (fun h => ((b1_5 es_66).mp h).elim (fun z => absurd z.2 c_131) (fun z => absurd z.1 c_141))).symm
                  | exact (bP_f (fun h => ((b1_5 es_66).mp h).elim (fun z => absurd z.2 c_131) (fun z => absurd c_151 z.2))).symm
                  | exact (bP_t ((b1_6 es_66).mpr (Or.inl c_176))).symm
                  | exact (bP_t ((b1_6 es_66).mpr (Or.inr c_186))).symm
                  | exact (bP_f (fun h => ((b1_6 es_66).mp h).elim (fun z => absurd c_176 z) (fun z => absurd c_186 z))).symm
                  | (rw [hI.1 _ ca, nar_b]; exact bP_congr (b1_7 (F := fun c => ¬ r c = 0) es_66).symm)
                  | exact (bP_t ((b1_10 es_66).mpr (Exists.intro c (And.intro (by omega) (And.intro (by rw [ot_e (by omega) hfd]; exact hgc) c_243))))).symm
                  | exact (bP_f (fun h => absurd c_243 (DN (show c < 40 by omega) (by rw [ot_e (by omega) hfd]; exact hgc) ((b1_10 es_66).mp h)))).symm
                  | exact (bP_f (fun h => DM (by rw [ot_e (by omega) hfd]; exact c_228) ((b1_10 es_66).mp h))).symm
                  | (rw [nar_b]; exact bP_congr (b1_2 (F := fun c => ¬ r c = 0) es_66).symm)
                  | (rw [nar_b]; exact bP_congr (b1_3 (F := fun c => ¬ r c = 0) es_66).symm)
                  | (rw [nar_b]; exact bP_congr (b1_8 (F := fun c => ¬ r c = 0) es_66).symm)
                  | (rw [nar_b]; exact bP_congr (Iff.intro (fun h => absurd (e_k h) (by rw [es_66]; decide)) (fun h => ((b1_0 (F := fun c => ¬ r c = 0) es_66).mp h).elim)))
                  | (rw [nar_b]; exact bP_congr (Iff.intro (fun h => absurd (e_k h) (by rw [es_66]; decide)) (fun h => ((b1_1 (F := fun c => ¬ r c = 0) es_66).mp h).elim)))
                  | (rw [nar_b]; exact bP_congr (Iff.intro (fun h => absurd (e_k h) (by rw [es_66]; decide)) (fun h => ((b1_9 (F := fun c => ¬ r c = 0) es_66).mp h).elim)))
              · skip
                refine vg_iconst (v := 1) C d_R_findSingle_154 (by decide) ?_
                refine vg_goto (tgt := 159) C d_R_findSingle_155 (by decide) ?_
                refine wr_zast C d_R_findSingle_159 rfl rfl (by exact vp_in_nI (by omega) (by decide)) ?_
                rw [nI_clamp (by omega)]
                refine vg_goto (tgt := 270) C d_R_findSingle_160 (by decide) ?_
                refine vg_lv [2, 3, 4, 5, 6] rfl ?_
                (try rw [nI_clamp (show i < 2 ^ 31 by omega)])
                rw [sI_sI, sI_at]
                refine S (by omega) _ ?_
                first
                  | exact (bP_t ((b1_4 es_66).mpr (Or.inl (And.intro c_121 c_131)))).symm
                  | exact (bP_t ((b1_4 es_66).mpr (Or.inr (And.intro c_141 c_151)))).symm
                  | exact (bP_f (fun h => ((b1_4 es_66).mp h).elim (fun z => absurd c_121 z.1) (fun z => absurd z.1 c_141))).symm
                  | exact (bP_f (fun h => ((b1_4 es_66).mp h).elim (fun z => absurd c_121 z.1) (fun z => absurd c_151 z.2))).symm
                  | exact (bP_f (fun h => ((b1_4 es_66).mp h).elim (fun z => absurd z.2 c_131) (fun z => absurd z.1 c_141))).symm
                  | exact (bP_f (fun h => ((b1_4 es_66).mp h).elim (fun z => absurd z.2 c_131) (fun z => absurd c_151 z.2))).symm
                  | exact (bP_t ((b1_5 es_66).mpr (Or.inl (And.intro c_121 c_131)))).symm
                  | exact (bP_t ((b1_5 es_66).mpr (Or.inr (And.intro c_141 c_151)))).symm
                  | exact (bP_f (fun h => ((b1_5 es_66).mp h).elim (fun z => absurd c_121 z.1) (fun z => absurd z.1 c_141))).symm
                  | exact (bP_f (fun h => ((b1_5 es_66).mp h).elim (fun z => absurd c_121 z.1) (fun z => absurd c_151 z.2))).symm
                  | exact (bP_f (fun h => ((b1_5 es_66).mp h).elim (fun z => absurd z.2 c_131) (fun z => absurd z.1 c_141))).symm
                  | exact (bP_f (fun h => ((b1_5 es_66).mp h).elim (fun z => absurd z.2 c_131) (fun z => absurd c_151 z.2))).symm
                  | exact (bP_t ((b1_6 es_66).mpr (Or.inl c_176))).symm
                  | exact (bP_t ((b1_6 es_66).mpr (Or.inr c_186))).symm
                  | exact (bP_f (fun h => ((b1_6 es_66).mp h).elim (fun z => absurd c_176 z) (fun z => absurd c_186 z))).symm
                  | (rw [hI.1 _ ca, nar_b]; exact bP_congr (b1_7 (F := fun c => ¬ r c = 0) es_66).symm)
                  | exact (bP_t ((b1_10 es_66).mpr (Exists.intro c (And.intro (by omega) (And.intro (by rw [ot_e (by omega) hfd]; exact hgc) c_243))))).symm
                  | exact (bP_f (fun h => absurd c_243 (DN (show c < 40 by omega) (by rw [ot_e (by omega) hfd]; exact hgc) ((b1_10 es_66).mp h)))).symm
                  | exact (bP_f (fun h => DM (by rw [ot_e (by omega) hfd]; exact c_228) ((b1_10 es_66).mp h))).symm
                  | (rw [nar_b]; exact bP_congr (b1_2 (F := fun c => ¬ r c = 0) es_66).symm)
                  | (rw [nar_b]; exact bP_congr (b1_3 (F := fun c => ¬ r c = 0) es_66).symm)
                  | (rw [nar_b]; exact bP_congr (b1_8 (F := fun c => ¬ r c = 0) es_66).symm)
                  | (rw [nar_b]; exact bP_congr (Iff.intro (fun h => absurd (e_k h) (by rw [es_66]; decide)) (fun h => ((b1_0 (F := fun c => ¬ r c = 0) es_66).mp h).elim)))
                  | (rw [nar_b]; exact bP_congr (Iff.intro (fun h => absurd (e_k h) (by rw [es_66]; decide)) (fun h => ((b1_1 (F := fun c => ¬ r c = 0) es_66).mp h).elim)))
                  | (rw [nar_b]; exact bP_congr (Iff.intro (fun h => absurd (e_k h) (by rw [es_66]; decide)) (fun h => ((b1_9 (F := fun c => ¬ r c = 0) es_66).mp h).elim)))
      · skip
        rw [es_66]
        refine vg_tabIn (tgt := 108) C d_R_findSingle_66 (by decide) (by decide) rfl (by decide) ?_
        obtain ⟨ca, ea, -⟩ := Ch_f hG.1.1 (p := i) (by omega) (by rw [es_66]; decide)
        rw [ea]
        obtain ⟨cb, eb, -⟩ := Ch_s hG.1.1 (p := i) (by omega) (by rw [es_66]; decide)
        rw [eb]
        have cn1 := (c_fn hG.1.1 hH (p := i) (by rw [es_66]; decide) (by omega)).1
        have cn2 := (c_sn hG.1.1 hH (p := i) (by rw [es_66]; decide) (by omega)).1
        refine vg_aload_n C d_R_findSingle_108 rfl ?_
        refine wr_get C d_R_findSingle_109 f_R_64 rfl rfl rfl rfl ?_
        refine vg_iload C d_R_findSingle_112 rfl ?_
        refine vg_aload_n C d_R_findSingle_114 rfl ?_
        refine wr_get C d_R_findSingle_115 f_R_64 rfl rfl rfl rfl ?_
        refine vg_iload C d_R_findSingle_118 rfl ?_
        refine wr_zald C d_R_findSingle_120 rfl rfl (by exact vp_in_nI (by omega) (by decide)) ?_
        rw [nI_clamp (by omega), sI_at]
        refine vg_if_eq (tgt := 134) C d_R_findSingle_121 (by decide) (fun c_121 => ?_) (fun c_121 => ?_)
        · skip
          refine vg_aload_n C d_R_findSingle_134 rfl ?_
          refine wr_get C d_R_findSingle_135 f_R_61 rfl rfl rfl rfl ?_
          refine vg_iload C d_R_findSingle_138 rfl ?_
          refine wr_zald C d_R_findSingle_140 rfl rfl (by exact vp_in_nI (by omega) (by decide)) ?_
          rw [nI_clamp (by omega), sI_ne _ (by decide), hN _ cn1]
          refine vg_if_eq (tgt := 158) C d_R_findSingle_141 (by decide) (fun c_141 => ?_) (fun c_141 => ?_)
          · rw [bP_eq] at c_141; (try simp only [Classical.not_not] at c_141)
            refine vg_iconst (v := 0) C d_R_findSingle_158 (by decide) ?_
            refine wr_zast C d_R_findSingle_159 rfl rfl (by exact vp_in_nI (by omega) (by decide)) ?_
            rw [nI_clamp (by omega)]
            refine vg_goto (tgt := 270) C d_R_findSingle_160 (by decide) ?_
            refine vg_lv [2, 3, 4, 5, 6] rfl ?_
            (try rw [nI_clamp (show i < 2 ^ 31 by omega)])
            rw [sI_sI, sI_at]
            refine S (by omega) _ ?_
            first
              | exact (bP_t ((b1_4 es_66).mpr (Or.inl (And.intro c_121 c_131)))).symm
              | exact (bP_t ((b1_4 es_66).mpr (Or.inr (And.intro c_141 c_151)))).symm
              | exact (bP_f (fun h => ((b1_4 es_66).mp h).elim (fun z => absurd c_121 z.1) (fun z => absurd z.1 c_141))).symm
              | exact (bP_f (fun h => ((b1_4 es_66).mp h).elim (fun z => absurd c_121 z.1) (fun z => absurd c_151 z.2))).symm
              | exact (bP_f (fun h => ((b1_4 es_66).mp h).elim (fun z => absurd z.2 c_131) (fun z => absurd z.1 c_141))).symm
              | exact (bP_f (fun h => ((b1_4 es_66).mp h).elim (fun z => absurd z.2 c_131) (fun z => absurd c_151 z.2))).symm
              | exact (bP_t ((b1_5 es_66).mpr (Or.inl (And.intro c_121 c_131)))).symm
              | exact (bP_t ((b1_5 es_66).mpr (Or.inr (And.intro c_141 c_151)))).symm
              | exact (bP_f (fun h => ((b1_5 es_66).mp h).elim (fun z => absurd c_121 z.1) (fun z => absurd z.1 c_141))).symm
              | exact (bP_f (fun h => ((b1_5 es_66).mp h).elim (fun z => absurd c_121 z.1) (fun z => absurd c_151 z.2))).symm
              | exact (bP_f (fun h => ((b1_5 es_66).mp h).elim (fun z => absurd z.2 c_131) (fun z => absurd z.1 c_141))).symm
              | exact (bP_f (fun h => ((b1_5 es_66).mp h).elim (fun z => absurd z.2 c_131) (fun z => absurd c_151 z.2))).symm
              | exact (bP_t ((b1_6 es_66).mpr (Or.inl c_176))).symm
              | exact (bP_t ((b1_6 es_66).mpr (Or.inr c_186))).symm
              | exact (bP_f (fun h => ((b1_6 es_66).mp h).elim (fun z => absurd c_176 z) (fun z => absurd c_186 z))).symm
              | (rw [hI.1 _ ca, nar_b]; exact bP_congr (b1_7 (F := fun c => ¬ r c = 0) es_66).symm)
              | exact (bP_t ((b1_10 es_66).mpr (Exists.intro c (And.intro (by omega) (And.intro (by rw [ot_e (by omega) hfd]; exact hgc) c_243))))).symm
              | exact (bP_f (fun h => absurd c_243 (DN (show c < 40 by omega) (by rw [ot_e (by omega) hfd]; exact hgc) ((b1_10 es_66).mp h)))).symm
              | exact (bP_f (fun h => DM (by rw [ot_e (by omega) hfd]; exact c_228) ((b1_10 es_66).mp h))).symm
              | (rw [nar_b]; exact bP_congr (b1_2 (F := fun c => ¬ r c = 0) es_66).symm)
              | (rw [nar_b]; exact bP_congr (b1_3 (F := fun c => ¬ r c = 0) es_66).symm)
              | (rw [nar_b]; exact bP_congr (b1_8 (F := fun c => ¬ r c = 0) es_66).symm)
              | (rw [nar_b]; exact bP_congr (Iff.intro (fun h => absurd (e_k h) (by rw [es_66]; decide)) (fun h => ((b1_0 (F := fun c => ¬ r c = 0) es_66).mp h).elim)))
              | (rw [nar_b]; exact bP_congr (Iff.intro (fun h => absurd (e_k h) (by rw [es_66]; decide)) (fun h => ((b1_1 (F := fun c => ¬ r c = 0) es_66).mp h).elim)))
              | (rw [nar_b]; exact bP_congr (Iff.intro (fun h => absurd (e_k h) (by rw [es_66]; decide)) (fun h => ((b1_9 (F := fun c => ¬ r c = 0) es_66).mp h).elim)))
          · rw [bP_eq] at c_141; (try simp only [Classical.not_not] at c_141)
            refine vg_aload_n C d_R_findSingle_144 rfl ?_
            refine wr_get C d_R_findSingle_145 f_R_64 rfl rfl rfl rfl ?_
            refine vg_iload C d_R_findSingle_148 rfl ?_
            refine wr_zald C d_R_findSingle_150 rfl rfl (by exact vp_in_nI (by omega) (by decide)) ?_
            rw [nI_clamp (by omega), sI_at]
            refine vg_if_eq (tgt := 158) C d_R_findSingle_151 (by decide) (fun c_151 => ?_) (fun c_151 => ?_)
            · skip
              refine vg_iconst (v := 0) C d_R_findSingle_158 (by decide) ?_
              refine wr_zast C d_R_findSingle_159 rfl rfl (by exact vp_in_nI (by omega) (by decide)) ?_
              rw [nI_clamp (by omega)]
              refine vg_goto (tgt := 270) C d_R_findSingle_160 (by decide) ?_
              refine vg_lv [2, 3, 4, 5, 6] rfl ?_
              (try rw [nI_clamp (show i < 2 ^ 31 by omega)])
              rw [sI_sI, sI_at]
              refine S (by omega) _ ?_
              first
                | exact (bP_t ((b1_4 es_66).mpr (Or.inl (And.intro c_121 c_131)))).symm
                | exact (bP_t ((b1_4 es_66).mpr (Or.inr (And.intro c_141 c_151)))).symm
                | exact (bP_f (fun h => ((b1_4 es_66).mp h).elim (fun z => absurd c_121 z.1) (fun z => absurd z.1 c_141))).symm
                | exact (bP_f (fun h => ((b1_4 es_66).mp h).elim (fun z => absurd c_121 z.1) (fun z => absurd c_151 z.2))).symm
                | exact (bP_f (fun h => ((b1_4 es_66).mp h).elim (fun z => absurd z.2 c_131) (fun z => absurd z.1 c_141))).symm
                | exact (bP_f (fun h => ((b1_4 es_66).mp h).elim (fun z => absurd z.2 c_131) (fun z => absurd c_151 z.2))).symm
                | exact (bP_t ((b1_5 es_66).mpr (Or.inl (And.intro c_121 c_131)))).symm
                | exact (bP_t ((b1_5 es_66).mpr (Or.inr (And.intro c_141 c_151)))).symm
                | exact (bP_f (fun h => ((b1_5 es_66).mp h).elim (fun z => absurd c_121 z.1) (fun z => absurd z.1 c_141))).symm
                | exact (bP_f (fun h => ((b1_5 es_66).mp h).elim (fun z => absurd c_121 z.1) (fun z => absurd c_151 z.2))).symm
                | exact (bP_f (fun h => ((b1_5 es_66).mp h).elim (fun z => absurd z.2 c_131) (fun z => absurd z.1 c_141))).symm
                | exact (bP_f (fun h => ((b1_5 es_66).mp h).elim (fun z => absurd z.2 c_131) (fun z => absurd c_151 z.2))).symm
                | exact (bP_t ((b1_6 es_66).mpr (Or.inl c_176))).symm
                | exact (bP_t ((b1_6 es_66).mpr (Or.inr c_186))).symm
                | exact (bP_f (fun h => ((b1_6 es_66).mp h).elim (fun z => absurd c_176 z) (fun z => absurd c_186 z))).symm
                | (rw [hI.1 _ ca, nar_b]; exact bP_congr (b1_7 (F := fun c => ¬ r c = 0) es_66).symm)
                | exact (bP_t ((b1_10 es_66).mpr (Exists.intro c (And.intro (by omega) (And.intro (by rw [ot_e (by omega) hfd]; exact hgc) c_243))))).symm
                | exact (bP_f (fun h => absurd c_243 (DN (show c < 40 by omega) (by rw [ot_e (by omega) hfd]; exact hgc) ((b1_10 es_66).mp h)))).symm
                | exact (bP_f (fun h => DM (by rw [ot_e (by omega) hfd]; exact c_228) ((b1_10 es_66).mp h))).symm
                | (rw [nar_b]; exact bP_congr (b1_2 (F := fun c => ¬ r c = 0) es_66).symm)
                | (rw [nar_b]; exact bP_congr (b1_3 (F := fun c => ¬ r c = 0) es_66).symm)
                | (rw [nar_b]; exact bP_congr (b1_8 (F := fun c => ¬ r c = 0) es_66).symm)
                | (rw [nar_b]; exact bP_congr (Iff.intro (fun h => absurd (e_k h) (by rw [es_66]; decide)) (fun h => ((b1_0 (F := fun c => ¬ r c = 0) es_66).mp h).elim)))
                | (rw [nar_b]; exact bP_congr (Iff.intro (fun h => absurd (e_k h) (by rw [es_66]; decide)) (fun h => ((b1_1 (F := fun c => ¬ r c = 0) es_66).mp h).elim)))
                | (rw [nar_b]; exact bP_congr (Iff.intro (fun h => absurd (e_k h) (by rw [es_66]; decide)) (fun h => ((b1_9 (F := fun c => ¬ r c = 0) es_66).mp h).elim)))
            · skip
              refine vg_iconst (v := 1) C d_R_findSingle_154 (by decide) ?_
              refine vg_goto (tgt := 159) C d_R_findSingle_155 (by decide) ?_
              refine wr_zast C d_R_findSingle_159 rfl rfl (by exact vp_in_nI (by omega) (by decide)) ?_
              rw [nI_clamp (by omega)]
              refine vg_goto (tgt := 270) C d_R_findSingle_160 (by decide) ?_
              refine vg_lv [2, 3, 4, 5, 6] rfl ?_
              (try rw [nI_clamp (show i < 2 ^ 31 by omega)])
              rw [sI_sI, sI_at]
              refine S (by omega) _ ?_
              first
                | exact (bP_t ((b1_4 es_66).mpr (Or.inl (And.intro c_121 c_131)))).symm
                | exact (bP_t ((b1_4 es_66).mpr (Or.inr (And.intro c_141 c_151)))).symm
                | exact (bP_f (fun h => ((b1_4 es_66).mp h).elim (fun z => absurd c_121 z.1) (fun z => absurd z.1 c_141))).symm
                | exact (bP_f (fun h => ((b1_4 es_66).mp h).elim (fun z => absurd c_121 z.1) (fun z => absurd c_151 z.2))).symm
                | exact (bP_f (fun h => ((b1_4 es_66).mp h).elim (fun z => absurd z.2 c_131) (fun z => absurd z.1 c_141))).symm
                | exact (bP_f (fun h => ((b1_4 es_66).mp h).elim (fun z => absurd z.2 c_131) (fun z => absurd c_151 z.2))).symm
                | exact (bP_t ((b1_5 es_66).mpr (Or.inl (And.intro c_121 c_131)))).symm
                | exact (bP_t ((b1_5 es_66).mpr (Or.inr (And.intro c_141 c_151)))).symm
                | exact (bP_f (fun h => ((b1_5 es_66).mp h).elim (fun z => absurd c_121 z.1) (fun z => absurd z.1 c_141))).symm
                | exact (bP_f (fun h => ((b1_5 es_66).mp h).elim (fun z => absurd c_121 z.1) (fun z => absurd c_151 z.2))).symm
                | exact (bP_f (fun h => ((b1_5 es_66).mp h).elim (fun z => absurd z.2 c_131) (fun z => absurd z.1 c_141))).symm
                | exact (bP_f (fun h => ((b1_5 es_66).mp h).elim (fun z => absurd z.2 c_131) (fun z => absurd c_151 z.2))).symm
                | exact (bP_t ((b1_6 es_66).mpr (Or.inl c_176))).symm
                | exact (bP_t ((b1_6 es_66).mpr (Or.inr c_186))).symm
                | exact (bP_f (fun h => ((b1_6 es_66).mp h).elim (fun z => absurd c_176 z) (fun z => absurd c_186 z))).symm
                | (rw [hI.1 _ ca, nar_b]; exact bP_congr (b1_7 (F := fun c => ¬ r c = 0) es_66).symm)
                | exact (bP_t ((b1_10 es_66).mpr (Exists.intro c (And.intro (by omega) (And.intro (by rw [ot_e (by omega) hfd]; exact hgc) c_243))))).symm
                | exact (bP_f (fun h => absurd c_243 (DN (show c < 40 by omega) (by rw [ot_e (by omega) hfd]; exact hgc) ((b1_10 es_66).mp h)))).symm
                | exact (bP_f (fun h => DM (by rw [ot_e (by omega) hfd]; exact c_228) ((b1_10 es_66).mp h))).symm
                | (rw [nar_b]; exact bP_congr (b1_2 (F := fun c => ¬ r c = 0) es_66).symm)
                | (rw [nar_b]; exact bP_congr (b1_3 (F := fun c => ¬ r c = 0) es_66).symm)
                | (rw [nar_b]; exact bP_congr (b1_8 (F := fun c => ¬ r c = 0) es_66).symm)
                | (rw [nar_b]; exact bP_congr (Iff.intro (fun h => absurd (e_k h) (by rw [es_66]; decide)) (fun h => ((b1_0 (F := fun c => ¬ r c = 0) es_66).mp h).elim)))
                | (rw [nar_b]; exact bP_congr (Iff.intro (fun h => absurd (e_k h) (by rw [es_66]; decide)) (fun h => ((b1_1 (F := fun c => ¬ r c = 0) es_66).mp h).elim)))
                | (rw [nar_b]; exact bP_congr (Iff.intro (fun h => absurd (e_k h) (by rw [es_66]; decide)) (fun h => ((b1_9 (F := fun c => ¬ r c = 0) es_66).mp h).elim)))
        · skip
          refine vg_aload_n C d_R_findSingle_124 rfl ?_
          refine wr_get C d_R_findSingle_125 f_R_61 rfl rfl rfl rfl ?_
          refine vg_iload C d_R_findSingle_128 rfl ?_
          refine wr_zald C d_R_findSingle_130 rfl rfl (by exact vp_in_nI (by omega) (by decide)) ?_
          rw [nI_clamp (by omega), sI_ne _ (by decide), hN _ cn2]
          refine vg_if_ne (tgt := 154) C d_R_findSingle_131 (by decide) (fun c_131 => ?_) (fun c_131 => ?_)
          · rw [bP_eq] at c_131; (try simp only [Classical.not_not] at c_131)
            refine vg_iconst (v := 1) C d_R_findSingle_154 (by decide) ?_
            refine vg_goto (tgt := 159) C d_R_findSingle_155 (by decide) ?_
            refine wr_zast C d_R_findSingle_159 rfl rfl (by exact vp_in_nI (by omega) (by decide)) ?_
            rw [nI_clamp (by omega)]
            refine vg_goto (tgt := 270) C d_R_findSingle_160 (by decide) ?_
            refine vg_lv [2, 3, 4, 5, 6] rfl ?_
            (try rw [nI_clamp (show i < 2 ^ 31 by omega)])
            rw [sI_sI, sI_at]
            refine S (by omega) _ ?_
            first
              | exact (bP_t ((b1_4 es_66).mpr (Or.inl (And.intro c_121 c_131)))).symm
              | exact (bP_t ((b1_4 es_66).mpr (Or.inr (And.intro c_141 c_151)))).symm
              | exact (bP_f (fun h => ((b1_4 es_66).mp h).elim (fun z => absurd c_121 z.1) (fun z => absurd z.1 c_141))).symm
              | exact (bP_f (fun h => ((b1_4 es_66).mp h).elim (fun z => absurd c_121 z.1) (fun z => absurd c_151 z.2))).symm
              | exact (bP_f (fun h => ((b1_4 es_66).mp h).elim (fun z => absurd z.2 c_131) (fun z => absurd z.1 c_141))).symm
              | exact (bP_f (fun h => ((b1_4 es_66).mp h).elim (fun z => absurd z.2 c_131) (fun z => absurd c_151 z.2))).symm
              | exact (bP_t ((b1_5 es_66).mpr (Or.inl (And.intro c_121 c_131)))).symm
              | exact (bP_t ((b1_5 es_66).mpr (Or.inr (And.intro c_141 c_151)))).symm
              | exact (bP_f (fun h => ((b1_5 es_66).mp h).elim (fun z => absurd c_121 z.1) (fun z => absurd z.1 c_141))).symm
              | exact (bP_f (fun h => ((b1_5 es_66).mp h).elim (fun z => absurd c_121 z.1) (fun z => absurd c_151 z.2))).symm
              | exact (bP_f (fun h => ((b1_5 es_66).mp h).elim (fun z => absurd z.2 c_131) (fun z => absurd z.1 c_141))).symm
              | exact (bP_f (fun h => ((b1_5 es_66).mp h).elim (fun z => absurd z.2 c_131) (fun z => absurd c_151 z.2))).symm
              | exact (bP_t ((b1_6 es_66).mpr (Or.inl c_176))).symm
              | exact (bP_t ((b1_6 es_66).mpr (Or.inr c_186))).symm
              | exact (bP_f (fun h => ((b1_6 es_66).mp h).elim (fun z => absurd c_176 z) (fun z => absurd c_186 z))).symm
              | (rw [hI.1 _ ca, nar_b]; exact bP_congr (b1_7 (F := fun c => ¬ r c = 0) es_66).symm)
              | exact (bP_t ((b1_10 es_66).mpr (Exists.intro c (And.intro (by omega) (And.intro (by rw [ot_e (by omega) hfd]; exact hgc) c_243))))).symm
              | exact (bP_f (fun h => absurd c_243 (DN (show c < 40 by omega) (by rw [ot_e (by omega) hfd]; exact hgc) ((b1_10 es_66).mp h)))).symm
              | exact (bP_f (fun h => DM (by rw [ot_e (by omega) hfd]; exact c_228) ((b1_10 es_66).mp h))).symm
              | (rw [nar_b]; exact bP_congr (b1_2 (F := fun c => ¬ r c = 0) es_66).symm)
              | (rw [nar_b]; exact bP_congr (b1_3 (F := fun c => ¬ r c = 0) es_66).symm)
              | (rw [nar_b]; exact bP_congr (b1_8 (F := fun c => ¬ r c = 0) es_66).symm)
              | (rw [nar_b]; exact bP_congr (Iff.intro (fun h => absurd (e_k h) (by rw [es_66]; decide)) (fun h => ((b1_0 (F := fun c => ¬ r c = 0) es_66).mp h).elim)))
              | (rw [nar_b]; exact bP_congr (Iff.intro (fun h => absurd (e_k h) (by rw [es_66]; decide)) (fun h => ((b1_1 (F := fun c => ¬ r c = 0) es_66).mp h).elim)))
              | (rw [nar_b]; exact bP_congr (Iff.intro (fun h => absurd (e_k h) (by rw [es_66]; decide)) (fun h => ((b1_9 (F := fun c => ¬ r c = 0) es_66).mp h).elim)))
          · rw [bP_eq] at c_131; (try simp only [Classical.not_not] at c_131)
            refine vg_aload_n C d_R_findSingle_134 rfl ?_
            refine wr_get C d_R_findSingle_135 f_R_61 rfl rfl rfl rfl ?_
            refine vg_iload C d_R_findSingle_138 rfl ?_
            refine wr_zald C d_R_findSingle_140 rfl rfl (by exact vp_in_nI (by omega) (by decide)) ?_
            rw [nI_clamp (by omega), sI_ne _ (by decide), hN _ cn1]
            refine vg_if_eq (tgt := 158) C d_R_findSingle_141 (by decide) (fun c_141 => ?_) (fun c_141 => ?_)
            · rw [bP_eq] at c_141; (try simp only [Classical.not_not] at c_141)
              refine vg_iconst (v := 0) C d_R_findSingle_158 (by decide) ?_
              refine wr_zast C d_R_findSingle_159 rfl rfl (by exact vp_in_nI (by omega) (by decide)) ?_
              rw [nI_clamp (by omega)]
              refine vg_goto (tgt := 270) C d_R_findSingle_160 (by decide) ?_
              refine vg_lv [2, 3, 4, 5, 6] rfl ?_
              (try rw [nI_clamp (show i < 2 ^ 31 by omega)])
              rw [sI_sI, sI_at]
              refine S (by omega) _ ?_
              first
                | exact (bP_t ((b1_4 es_66).mpr (Or.inl (And.intro c_121 c_131)))).symm
                | exact (bP_t ((b1_4 es_66).mpr (Or.inr (And.intro c_141 c_151)))).symm
                | exact (bP_f (fun h => ((b1_4 es_66).mp h).elim (fun z => absurd c_121 z.1) (fun z => absurd z.1 c_141))).symm
                | exact (bP_f (fun h => ((b1_4 es_66).mp h).elim (fun z => absurd c_121 z.1) (fun z => absurd c_151 z.2))).symm
                | exact (bP_f (fun h => ((b1_4 es_66).mp h).elim (fun z => absurd z.2 c_131) (fun z => absurd z.1 c_141))).symm
                | exact (bP_f (fun h => ((b1_4 es_66).mp h).elim (fun z => absurd z.2 c_131) (fun z => absurd c_151 z.2))).symm
                | exact (bP_t ((b1_5 es_66).mpr (Or.inl (And.intro c_121 c_131)))).symm
                | exact (bP_t ((b1_5 es_66).mpr (Or.inr (And.intro c_141 c_151)))).symm
                | exact (bP_f (fun h => ((b1_5 es_66).mp h).elim (fun z => absurd c_121 z.1) (fun z => absurd z.1 c_141))).symm
                | exact (bP_f (fun h => ((b1_5 es_66).mp h).elim (fun z => absurd c_121 z.1) (fun z => absurd c_151 z.2))).symm
                | exact (bP_f (fun h => ((b1_5 es_66).mp h).elim (fun z => absurd z.2 c_131) (fun z => absurd z.1 c_141))).symm
                | exact (bP_f (fun h => ((b1_5 es_66).mp h).elim (fun z => absurd z.2 c_131) (fun z => absurd c_151 z.2))).symm
                | exact (bP_t ((b1_6 es_66).mpr (Or.inl c_176))).symm
                | exact (bP_t ((b1_6 es_66).mpr (Or.inr c_186))).symm
                | exact (bP_f (fun h => ((b1_6 es_66).mp h).elim (fun z => absurd c_176 z) (fun z => absurd c_186 z))).symm
                | (rw [hI.1 _ ca, nar_b]; exact bP_congr (b1_7 (F := fun c => ¬ r c = 0) es_66).symm)
                | exact (bP_t ((b1_10 es_66).mpr (Exists.intro c (And.intro (by omega) (And.intro (by rw [ot_e (by omega) hfd]; exact hgc) c_243))))).symm
                | exact (bP_f (fun h => absurd c_243 (DN (show c < 40 by omega) (by rw [ot_e (by omega) hfd]; exact hgc) ((b1_10 es_66).mp h)))).symm
                | exact (bP_f (fun h => DM (by rw [ot_e (by omega) hfd]; exact c_228) ((b1_10 es_66).mp h))).symm
                | (rw [nar_b]; exact bP_congr (b1_2 (F := fun c => ¬ r c = 0) es_66).symm)
                | (rw [nar_b]; exact bP_congr (b1_3 (F := fun c => ¬ r c = 0) es_66).symm)
                | (rw [nar_b]; exact bP_congr (b1_8 (F := fun c => ¬ r c = 0) es_66).symm)
                | (rw [nar_b]; exact bP_congr (Iff.intro (fun h => absurd (e_k h) (by rw [es_66]; decide)) (fun h => ((b1_0 (F := fun c => ¬ r c = 0) es_66).mp h).elim)))
                | (rw [nar_b]; exact bP_congr (Iff.intro (fun h => absurd (e_k h) (by rw [es_66]; decide)) (fun h => ((b1_1 (F := fun c => ¬ r c = 0) es_66).mp h).elim)))
                | (rw [nar_b]; exact bP_congr (Iff.intro (fun h => absurd (e_k h) (by rw [es_66]; decide)) (fun h => ((b1_9 (F := fun c => ¬ r c = 0) es_66).mp h).elim)))
            · rw [bP_eq] at c_141; (try simp only [Classical.not_not] at c_141)
              refine vg_aload_n C d_R_findSingle_144 rfl ?_
              refine wr_get C d_R_findSingle_145 f_R_64 rfl rfl rfl rfl ?_
              refine vg_iload C d_R_findSingle_148 rfl ?_
              refine wr_zald C d_R_findSingle_150 rfl rfl (by exact vp_in_nI (by omega) (by decide)) ?_
              rw [nI_clamp (by omega), sI_at]
              refine vg_if_eq (tgt := 158) C d_R_findSingle_151 (by decide) (fun c_151 => ?_) (fun c_151 => ?_)
              · skip
                refine vg_iconst (v := 0) C d_R_findSingle_158 (by decide) ?_
                refine wr_zast C d_R_findSingle_159 rfl rfl (by exact vp_in_nI (by omega) (by decide)) ?_
                rw [nI_clamp (by omega)]
                refine vg_goto (tgt := 270) C d_R_findSingle_160 (by decide) ?_
                refine vg_lv [2, 3, 4, 5, 6] rfl ?_
                (try rw [nI_clamp (show i < 2 ^ 31 by omega)])
                rw [sI_sI, sI_at]
                refine S (by omega) _ ?_
                first
                  | exact (bP_t ((b1_4 es_66).mpr (Or.inl (And.intro c_121 c_131)))).symm
                  | exact (bP_t ((b1_4 es_66).mpr (Or.inr (And.intro c_141 c_151)))).symm
                  | exact (bP_f (fun h => ((b1_4 es_66).mp h).elim (fun z => absurd c_121 z.1) (fun z => absurd z.1 c_141))).symm
                  | exact (bP_f (fun h => ((b1_4 es_66).mp h).elim (fun z => absurd c_121 z.1) (fun z => absurd c_151 z.2))).symm
                  | exact (bP_f (fun h => ((b1_4 es_66).mp h).elim (fun z => absurd z.2 c_131) (fun z => absurd z.1 c_141))).symm
                  | exact (bP_f (fun h => ((b1_4 es_66).mp h).elim (fun z => absurd z.2 c_131) (fun z => absurd c_151 z.2))).symm
                  | exact (bP_t ((b1_5 es_66).mpr (Or.inl (And.intro c_121 c_131)))).symm
                  | exact (bP_t ((b1_5 es_66).mpr (Or.inr (And.intro c_141 c_151)))).symm
                  | exact (bP_f (fun h => ((b1_5 es_66).mp h).elim (fun z => absurd c_121 z.1) (fun z => absurd z.1 c_141))).symm
                  | exact (bP_f (fun h => ((b1_5 es_66).mp h).elim (fun z => absurd c_121 z.1) (fun z => absurd c_151 z.2))).symm
                  | exact (bP_f (fun h => ((b1_5 es_66).mp h).elim (fun z => absurd z.2 c_131) (fun z => absurd z.1 c_141))).symm
                  | exact (bP_f (fun h => ((b1_5 es_66).mp h).elim (fun z => absurd z.2 c_131) (fun z => absurd c_151 z.2))).symm
                  | exact (bP_t ((b1_6 es_66).mpr (Or.inl c_176))).symm
                  | exact (bP_t ((b1_6 es_66).mpr (Or.inr c_186))).symm
                  | exact (bP_f (fun h => ((b1_6 es_66).mp h).elim (fun z => absurd c_176 z) (fun z => absurd c_186 z))).symm
                  | (rw [hI.1 _ ca, nar_b]; exact bP_congr (b1_7 (F := fun c => ¬ r c = 0) es_66).symm)
                  | exact (bP_t ((b1_10 es_66).mpr (Exists.intro c (And.intro (by omega) (And.intro (by rw [ot_e (by omega) hfd]; exact hgc) c_243))))).symm
                  | exact (bP_f (fun h => absurd c_243 (DN (show c < 40 by omega) (by rw [ot_e (by omega) hfd]; exact hgc) ((b1_10 es_66).mp h)))).symm
                  | exact (bP_f (fun h => DM (by rw [ot_e (by omega) hfd]; exact c_228) ((b1_10 es_66).mp h))).symm
                  | (rw [nar_b]; exact bP_congr (b1_2 (F := fun c => ¬ r c = 0) es_66).symm)
                  | (rw [nar_b]; exact bP_congr (b1_3 (F := fun c => ¬ r c = 0) es_66).symm)
                  | (rw [nar_b]; exact bP_congr (b1_8 (F := fun c => ¬ r c = 0) es_66).symm)
                  | (rw [nar_b]; exact bP_congr (Iff.intro (fun h => absurd (e_k h) (by rw [es_66]; decide)) (fun h => ((b1_0 (F := fun c => ¬ r c = 0) es_66).mp h).elim)))
                  | (rw [nar_b]; exact bP_congr (Iff.intro (fun h => absurd (e_k h) (by rw [es_66]; decide)) (fun h => ((b1_1 (F := fun c => ¬ r c = 0) es_66).mp h).elim)))
                  | (rw [nar_b]; exact bP_congr (Iff.intro (fun h => absurd (e_k h) (by rw [es_66]; decide)) (fun h => ((b1_9 (F := fun c => ¬ r c = 0) es_66).mp h).elim)))
              · skip
                refine vg_iconst (v := 1) C d_R_findSingle_154 (by decide) ?_
                refine vg_goto (tgt := 159) C d_R_findSingle_155 (by decide) ?_
                refine wr_zast C d_R_findSingle_159 rfl rfl (by exact vp_in_nI (by omega) (by decide)) ?_
                rw [nI_clamp (by omega)]
                refine vg_goto (tgt := 270) C d_R_findSingle_160 (by decide) ?_
                refine vg_lv [2, 3, 4, 5, 6] rfl ?_
                (try rw [nI_clamp (show i < 2 ^ 31 by omega)])
                rw [sI_sI, sI_at]
                refine S (by omega) _ ?_
                first
                  | exact (bP_t ((b1_4 es_66).mpr (Or.inl (And.intro c_121 c_131)))).symm
                  | exact (bP_t ((b1_4 es_66).mpr (Or.inr (And.intro c_141 c_151)))).symm
                  | exact (bP_f (fun h => ((b1_4 es_66).mp h).elim (fun z => absurd c_121 z.1) (fun z => absurd z.1 c_141))).symm
                  | exact (bP_f (fun h => ((b1_4 es_66).mp h).elim (fun z => absurd c_121 z.1) (fun z => absurd c_151 z.2))).symm
                  | exact (bP_f (fun h => ((b1_4 es_66).mp h).elim (fun z => absurd z.2 c_131) (fun z => absurd z.1 c_141))).symm
                  | exact (bP_f (fun h => ((b1_4 es_66).mp h).elim (fun z => absurd z.2 c_131) (fun z => absurd c_151 z.2))).symm
                  | exact (bP_t ((b1_5 es_66).mpr (Or.inl (And.intro c_121 c_131)))).symm
                  | exact (bP_t ((b1_5 es_66).mpr (Or.inr (And.intro c_141 c_151)))).symm
                  | exact (bP_f (fun h => ((b1_5 es_66).mp h).elim (fun z => absurd c_121 z.1) (fun z => absurd z.1 c_141))).symm
                  | exact (bP_f (fun h => ((b1_5 es_66).mp h).elim (fun z => absurd c_121 z.1) (fun z => absurd c_151 z.2))).symm
                  | exact (bP_f (fun h => ((b1_5 es_66).mp h).elim (fun z => absurd z.2 c_131) (fun z => absurd z.1 c_141))).symm
                  | exact (bP_f (fun h => ((b1_5 es_66).mp h).elim (fun z => absurd z.2 c_131) (fun z => absurd c_151 z.2))).symm
                  | exact (bP_t ((b1_6 es_66).mpr (Or.inl c_176))).symm
                  | exact (bP_t ((b1_6 es_66).mpr (Or.inr c_186))).symm
                  | exact (bP_f (fun h => ((b1_6 es_66).mp h).elim (fun z => absurd c_176 z) (fun z => absurd c_186 z))).symm
                  | (rw [hI.1 _ ca, nar_b]; exact bP_congr (b1_7 (F := fun c => ¬ r c = 0) es_66).symm)
                  | exact (bP_t ((b1_10 es_66).mpr (Exists.intro c (And.intro (by omega) (And.intro (by rw [ot_e (by omega) hfd]; exact hgc) c_243))))).symm
                  | exact (bP_f (fun h => absurd c_243 (DN (show c < 40 by omega) (by rw [ot_e (by omega) hfd]; exact hgc) ((b1_10 es_66).mp h)))).symm
                  | exact (bP_f (fun h => DM (by rw [ot_e (by omega) hfd]; exact c_228) ((b1_10 es_66).mp h))).symm
                  | (rw [nar_b]; exact bP_congr (b1_2 (F := fun c => ¬ r c = 0) es_66).symm)
                  | (rw [nar_b]; exact bP_congr (b1_3 (F := fun c => ¬ r c = 0) es_66).symm)
                  | (rw [nar_b]; exact bP_congr (b1_8 (F := fun c => ¬ r c = 0) es_66).symm)
                  | (rw [nar_b]; exact bP_congr (Iff.intro (fun h => absurd (e_k h) (by rw [es_66]; decide)) (fun h => ((b1_0 (F := fun c => ¬ r c = 0) es_66).mp h).elim)))
                  | (rw [nar_b]; exact bP_congr (Iff.intro (fun h => absurd (e_k h) (by rw [es_66]; decide)) (fun h => ((b1_1 (F := fun c => ¬ r c = 0) es_66).mp h).elim)))
                  | (rw [nar_b]; exact bP_congr (Iff.intro (fun h => absurd (e_k h) (by rw [es_66]; decide)) (fun h => ((b1_9 (F := fun c => ¬ r c = 0) es_66).mp h).elim)))
      · skip
        rw [es_66]
        refine vg_tabIn (tgt := 163) C d_R_findSingle_66 (by decide) (by decide) rfl (by decide) ?_
        obtain ⟨ca, ea, -⟩ := Ch_f hG.1.1 (p := i) (by omega) (by rw [es_66]; decide)
        rw [ea]
        obtain ⟨cb, eb, -⟩ := Ch_s hG.1.1 (p := i) (by omega) (by rw [es_66]; decide)
        rw [eb]
        refine vg_aload_n C d_R_findSingle_163 rfl ?_
        refine wr_get C d_R_findSingle_164 f_R_64 rfl rfl rfl rfl ?_
        refine vg_iload C d_R_findSingle_167 rfl ?_
        refine vg_aload_n C d_R_findSingle_169 rfl ?_
        refine wr_get C d_R_findSingle_170 f_R_64 rfl rfl rfl rfl ?_
        refine vg_iload C d_R_findSingle_173 rfl ?_
        refine wr_zald C d_R_findSingle_175 rfl rfl (by exact vp_in_nI (by omega) (by decide)) ?_
        rw [nI_clamp (by omega), sI_at]
        refine vg_if_ne (tgt := 189) C d_R_findSingle_176 (by decide) (fun c_176 => ?_) (fun c_176 => ?_)
        · skip
          refine vg_iconst (v := 1) C d_R_findSingle_189 (by decide) ?_
          refine vg_goto (tgt := 194) C d_R_findSingle_190 (by decide) ?_
          refine wr_zast C d_R_findSingle_194 rfl rfl (by exact vp_in_nI (by omega) (by decide)) ?_
          rw [nI_clamp (by omega)]
          refine vg_goto (tgt := 270) C d_R_findSingle_195 (by decide) ?_
          refine vg_lv [2, 3, 4, 5, 6] rfl ?_
          (try rw [nI_clamp (show i < 2 ^ 31 by omega)])
          rw [sI_sI, sI_at]
          refine S (by omega) _ ?_
          first
            | exact (bP_t ((b1_4 es_66).mpr (Or.inl (And.intro c_121 c_131)))).symm
            | exact (bP_t ((b1_4 es_66).mpr (Or.inr (And.intro c_141 c_151)))).symm
            | exact (bP_f (fun h => ((b1_4 es_66).mp h).elim (fun z => absurd c_121 z.1) (fun z => absurd z.1 c_141))).symm
            | exact (bP_f (fun h => ((b1_4 es_66).mp h).elim (fun z => absurd c_121 z.1) (fun z => absurd c_151 z.2))).symm
            | exact (bP_f (fun h => ((b1_4 es_66).mp h).elim (fun z => absurd z.2 c_131) (fun z => absurd z.1 c_141))).symm
            | exact (bP_f (fun h => ((b1_4 es_66).mp h).elim (fun z => absurd z.2 c_131) (fun z => absurd c_151 z.2))).symm
            | exact (bP_t ((b1_5 es_66).mpr (Or.inl (And.intro c_121 c_131)))).symm
            | exact (bP_t ((b1_5 es_66).mpr (Or.inr (And.intro c_141 c_151)))).symm
            | exact (bP_f (fun h => ((b1_5 es_66).mp h).elim (fun z => absurd c_121 z.1) (fun z => absurd z.1 c_141))).symm
            | exact (bP_f (fun h => ((b1_5 es_66).mp h).elim (fun z => absurd c_121 z.1) (fun z => absurd c_151 z.2))).symm
            | exact (bP_f (fun h => ((b1_5 es_66).mp h).elim (fun z => absurd z.2 c_131) (fun z => absurd z.1 c_141))).symm
            | exact (bP_f (fun h => ((b1_5 es_66).mp h).elim (fun z => absurd z.2 c_131) (fun z => absurd c_151 z.2))).symm
            | exact (bP_t ((b1_6 es_66).mpr (Or.inl c_176))).symm
            | exact (bP_t ((b1_6 es_66).mpr (Or.inr c_186))).symm
            | exact (bP_f (fun h => ((b1_6 es_66).mp h).elim (fun z => absurd c_176 z) (fun z => absurd c_186 z))).symm
            | (rw [hI.1 _ ca, nar_b]; exact bP_congr (b1_7 (F := fun c => ¬ r c = 0) es_66).symm)
            | exact (bP_t ((b1_10 es_66).mpr (Exists.intro c (And.intro (by omega) (And.intro (by rw [ot_e (by omega) hfd]; exact hgc) c_243))))).symm
            | exact (bP_f (fun h => absurd c_243 (DN (show c < 40 by omega) (by rw [ot_e (by omega) hfd]; exact hgc) ((b1_10 es_66).mp h)))).symm
            | exact (bP_f (fun h => DM (by rw [ot_e (by omega) hfd]; exact c_228) ((b1_10 es_66).mp h))).symm
            | (rw [nar_b]; exact bP_congr (b1_2 (F := fun c => ¬ r c = 0) es_66).symm)
            | (rw [nar_b]; exact bP_congr (b1_3 (F := fun c => ¬ r c = 0) es_66).symm)
            | (rw [nar_b]; exact bP_congr (b1_8 (F := fun c => ¬ r c = 0) es_66).symm)
            | (rw [nar_b]; exact bP_congr (Iff.intro (fun h => absurd (e_k h) (by rw [es_66]; decide)) (fun h => ((b1_0 (F := fun c => ¬ r c = 0) es_66).mp h).elim)))
            | (rw [nar_b]; exact bP_congr (Iff.intro (fun h => absurd (e_k h) (by rw [es_66]; decide)) (fun h => ((b1_1 (F := fun c => ¬ r c = 0) es_66).mp h).elim)))
            | (rw [nar_b]; exact bP_congr (Iff.intro (fun h => absurd (e_k h) (by rw [es_66]; decide)) (fun h => ((b1_9 (F := fun c => ¬ r c = 0) es_66).mp h).elim)))
        · skip
          refine vg_aload_n C d_R_findSingle_179 rfl ?_
          refine wr_get C d_R_findSingle_180 f_R_64 rfl rfl rfl rfl ?_
          refine vg_iload C d_R_findSingle_183 rfl ?_
          refine wr_zald C d_R_findSingle_185 rfl rfl (by exact vp_in_nI (by omega) (by decide)) ?_
          rw [nI_clamp (by omega), sI_at]
          refine vg_if_eq (tgt := 193) C d_R_findSingle_186 (by decide) (fun c_186 => ?_) (fun c_186 => ?_)
          · skip
            refine vg_iconst (v := 0) C d_R_findSingle_193 (by decide) ?_
            refine wr_zast C d_R_findSingle_194 rfl rfl (by exact vp_in_nI (by omega) (by decide)) ?_
            rw [nI_clamp (by omega)]
            refine vg_goto (tgt := 270) C d_R_findSingle_195 (by decide) ?_
            refine vg_lv [2, 3, 4, 5, 6] rfl ?_
            (try rw [nI_clamp (show i < 2 ^ 31 by omega)])
            rw [sI_sI, sI_at]
            refine S (by omega) _ ?_
            first
              | exact (bP_t ((b1_4 es_66).mpr (Or.inl (And.intro c_121 c_131)))).symm
              | exact (bP_t ((b1_4 es_66).mpr (Or.inr (And.intro c_141 c_151)))).symm
              | exact (bP_f (fun h => ((b1_4 es_66).mp h).elim (fun z => absurd c_121 z.1) (fun z => absurd z.1 c_141))).symm
              | exact (bP_f (fun h => ((b1_4 es_66).mp h).elim (fun z => absurd c_121 z.1) (fun z => absurd c_151 z.2))).symm
              | exact (bP_f (fun h => ((b1_4 es_66).mp h).elim (fun z => absurd z.2 c_131) (fun z => absurd z.1 c_141))).symm
              | exact (bP_f (fun h => ((b1_4 es_66).mp h).elim (fun z => absurd z.2 c_131) (fun z => absurd c_151 z.2))).symm
              | exact (bP_t ((b1_5 es_66).mpr (Or.inl (And.intro c_121 c_131)))).symm
              | exact (bP_t ((b1_5 es_66).mpr (Or.inr (And.intro c_141 c_151)))).symm
              | exact (bP_f (fun h => ((b1_5 es_66).mp h).elim (fun z => absurd c_121 z.1) (fun z => absurd z.1 c_141))).symm
              | exact (bP_f (fun h => ((b1_5 es_66).mp h).elim (fun z => absurd c_121 z.1) (fun z => absurd c_151 z.2))).symm
              | exact (bP_f (fun h => ((b1_5 es_66).mp h).elim (fun z => absurd z.2 c_131) (fun z => absurd z.1 c_141))).symm
              | exact (bP_f (fun h => ((b1_5 es_66).mp h).elim (fun z => absurd z.2 c_131) (fun z => absurd c_151 z.2))).symm
              | exact (bP_t ((b1_6 es_66).mpr (Or.inl c_176))).symm
              | exact (bP_t ((b1_6 es_66).mpr (Or.inr c_186))).symm
              | exact (bP_f (fun h => ((b1_6 es_66).mp h).elim (fun z => absurd c_176 z) (fun z => absurd c_186 z))).symm
              | (rw [hI.1 _ ca, nar_b]; exact bP_congr (b1_7 (F := fun c => ¬ r c = 0) es_66).symm)
              | exact (bP_t ((b1_10 es_66).mpr (Exists.intro c (And.intro (by omega) (And.intro (by rw [ot_e (by omega) hfd]; exact hgc) c_243))))).symm
              | exact (bP_f (fun h => absurd c_243 (DN (show c < 40 by omega) (by rw [ot_e (by omega) hfd]; exact hgc) ((b1_10 es_66).mp h)))).symm
              | exact (bP_f (fun h => DM (by rw [ot_e (by omega) hfd]; exact c_228) ((b1_10 es_66).mp h))).symm
              | (rw [nar_b]; exact bP_congr (b1_2 (F := fun c => ¬ r c = 0) es_66).symm)
              | (rw [nar_b]; exact bP_congr (b1_3 (F := fun c => ¬ r c = 0) es_66).symm)
              | (rw [nar_b]; exact bP_congr (b1_8 (F := fun c => ¬ r c = 0) es_66).symm)
              | (rw [nar_b]; exact bP_congr (Iff.intro (fun h => absurd (e_k h) (by rw [es_66]; decide)) (fun h => ((b1_0 (F := fun c => ¬ r c = 0) es_66).mp h).elim)))
              | (rw [nar_b]; exact bP_congr (Iff.intro (fun h => absurd (e_k h) (by rw [es_66]; decide)) (fun h => ((b1_1 (F := fun c => ¬ r c = 0) es_66).mp h).elim)))
              | (rw [nar_b]; exact bP_congr (Iff.intro (fun h => absurd (e_k h) (by rw [es_66]; decide)) (fun h => ((b1_9 (F := fun c => ¬ r c = 0) es_66).mp h).elim)))
          · skip
            refine vg_iconst (v := 1) C d_R_findSingle_189 (by decide) ?_
            refine vg_goto (tgt := 194) C d_R_findSingle_190 (by decide) ?_
            refine wr_zast C d_R_findSingle_194 rfl rfl (by exact vp_in_nI (by omega) (by decide)) ?_
            rw [nI_clamp (by omega)]
            refine vg_goto (tgt := 270) C d_R_findSingle_195 (by decide) ?_
            refine vg_lv [2, 3, 4, 5, 6] rfl ?_
            (try rw [nI_clamp (show i < 2 ^ 31 by omega)])
            rw [sI_sI, sI_at]
            refine S (by omega) _ ?_
            first
              | exact (bP_t ((b1_4 es_66).mpr (Or.inl (And.intro c_121 c_131)))).symm
              | exact (bP_t ((b1_4 es_66).mpr (Or.inr (And.intro c_141 c_151)))).symm
              | exact (bP_f (fun h => ((b1_4 es_66).mp h).elim (fun z => absurd c_121 z.1) (fun z => absurd z.1 c_141))).symm
              | exact (bP_f (fun h => ((b1_4 es_66).mp h).elim (fun z => absurd c_121 z.1) (fun z => absurd c_151 z.2))).symm
              | exact (bP_f (fun h => ((b1_4 es_66).mp h).elim (fun z => absurd z.2 c_131) (fun z => absurd z.1 c_141))).symm
              | exact (bP_f (fun h => ((b1_4 es_66).mp h).elim (fun z => absurd z.2 c_131) (fun z => absurd c_151 z.2))).symm
              | exact (bP_t ((b1_5 es_66).mpr (Or.inl (And.intro c_121 c_131)))).symm
              | exact (bP_t ((b1_5 es_66).mpr (Or.inr (And.intro c_141 c_151)))).symm
              | exact (bP_f (fun h => ((b1_5 es_66).mp h).elim (fun z => absurd c_121 z.1) (fun z => absurd z.1 c_141))).symm
              | exact (bP_f (fun h => ((b1_5 es_66).mp h).elim (fun z => absurd c_121 z.1) (fun z => absurd c_151 z.2))).symm
              | exact (bP_f (fun h => ((b1_5 es_66).mp h).elim (fun z => absurd z.2 c_131) (fun z => absurd z.1 c_141))).symm
              | exact (bP_f (fun h => ((b1_5 es_66).mp h).elim (fun z => absurd z.2 c_131) (fun z => absurd c_151 z.2))).symm
              | exact (bP_t ((b1_6 es_66).mpr (Or.inl c_176))).symm
              | exact (bP_t ((b1_6 es_66).mpr (Or.inr c_186))).symm
              | exact (bP_f (fun h => ((b1_6 es_66).mp h).elim (fun z => absurd c_176 z) (fun z => absurd c_186 z))).symm
              | (rw [hI.1 _ ca, nar_b]; exact bP_congr (b1_7 (F := fun c => ¬ r c = 0) es_66).symm)
              | exact (bP_t ((b1_10 es_66).mpr (Exists.intro c (And.intro (by omega) (And.intro (by rw [ot_e (by omega) hfd]; exact hgc) c_243))))).symm
              | exact (bP_f (fun h => absurd c_243 (DN (show c < 40 by omega) (by rw [ot_e (by omega) hfd]; exact hgc) ((b1_10 es_66).mp h)))).symm
              | exact (bP_f (fun h => DM (by rw [ot_e (by omega) hfd]; exact c_228) ((b1_10 es_66).mp h))).symm
              | (rw [nar_b]; exact bP_congr (b1_2 (F := fun c => ¬ r c = 0) es_66).symm)
              | (rw [nar_b]; exact bP_congr (b1_3 (F := fun c => ¬ r c = 0) es_66).symm)
              | (rw [nar_b]; exact bP_congr (b1_8 (F := fun c => ¬ r c = 0) es_66).symm)
              | (rw [nar_b]; exact bP_congr (Iff.intro (fun h => absurd (e_k h) (by rw [es_66]; decide)) (fun h => ((b1_0 (F := fun c => ¬ r c = 0) es_66).mp h).elim)))
              | (rw [nar_b]; exact bP_congr (Iff.intro (fun h => absurd (e_k h) (by rw [es_66]; decide)) (fun h => ((b1_1 (F := fun c => ¬ r c = 0) es_66).mp h).elim)))
              | (rw [nar_b]; exact bP_congr (Iff.intro (fun h => absurd (e_k h) (by rw [es_66]; decide)) (fun h => ((b1_9 (F := fun c => ¬ r c = 0) es_66).mp h).elim)))
      · skip
        rw [es_66]
        refine vg_tabIn (tgt := 198) C d_R_findSingle_66 (by decide) (by decide) rfl (by decide) ?_
        obtain ⟨ca, ea, -⟩ := Ch_f hG.1.1 (p := i) (by omega) (by rw [es_66]; decide)
        rw [ea]
        refine vg_aload_n C d_R_findSingle_198 rfl ?_
        refine wr_get C d_R_findSingle_199 f_R_64 rfl rfl rfl rfl ?_
        refine vg_iload C d_R_findSingle_202 rfl ?_
        refine vg_aload_n C d_R_findSingle_204 rfl ?_
        refine wr_get C d_R_findSingle_205 f_R_64 rfl rfl rfl rfl ?_
        refine vg_iload C d_R_findSingle_208 rfl ?_
        refine wr_zald C d_R_findSingle_210 rfl rfl (by exact vp_in_nI (by omega) (by decide)) ?_
        rw [nI_clamp (by omega), sI_at]
        refine wr_zast C d_R_findSingle_211 rfl rfl (by exact vp_in_nI (by omega) (by decide)) ?_
        rw [nI_clamp (by omega)]
        refine vg_goto (tgt := 270) C d_R_findSingle_212 (by decide) ?_
        refine vg_lv [2, 3, 4, 5, 6] rfl ?_
        (try rw [nI_clamp (show i < 2 ^ 31 by omega)])
        rw [sI_sI, sI_at]
        refine S (by omega) _ ?_
        first
          | exact (bP_t ((b1_4 es_66).mpr (Or.inl (And.intro c_121 c_131)))).symm
          | exact (bP_t ((b1_4 es_66).mpr (Or.inr (And.intro c_141 c_151)))).symm
          | exact (bP_f (fun h => ((b1_4 es_66).mp h).elim (fun z => absurd c_121 z.1) (fun z => absurd z.1 c_141))).symm
          | exact (bP_f (fun h => ((b1_4 es_66).mp h).elim (fun z => absurd c_121 z.1) (fun z => absurd c_151 z.2))).symm
          | exact (bP_f (fun h => ((b1_4 es_66).mp h).elim (fun z => absurd z.2 c_131) (fun z => absurd z.1 c_141))).symm
          | exact (bP_f (fun h => ((b1_4 es_66).mp h).elim (fun z => absurd z.2 c_131) (fun z => absurd c_151 z.2))).symm
          | exact (bP_t ((b1_5 es_66).mpr (Or.inl (And.intro c_121 c_131)))).symm
          | exact (bP_t ((b1_5 es_66).mpr (Or.inr (And.intro c_141 c_151)))).symm
          | exact (bP_f (fun h => ((b1_5 es_66).mp h).elim (fun z => absurd c_121 z.1) (fun z => absurd z.1 c_141))).symm
          | exact (bP_f (fun h => ((b1_5 es_66).mp h).elim (fun z => absurd c_121 z.1) (fun z => absurd c_151 z.2))).symm
          | exact (bP_f (fun h => ((b1_5 es_66).mp h).elim (fun z => absurd z.2 c_131) (fun z => absurd z.1 c_141))).symm
          | exact (bP_f (fun h => ((b1_5 es_66).mp h).elim (fun z => absurd z.2 c_131) (fun z => absurd c_151 z.2))).symm
          | exact (bP_t ((b1_6 es_66).mpr (Or.inl c_176))).symm
          | exact (bP_t ((b1_6 es_66).mpr (Or.inr c_186))).symm
          | exact (bP_f (fun h => ((b1_6 es_66).mp h).elim (fun z => absurd c_176 z) (fun z => absurd c_186 z))).symm
          | (rw [hI.1 _ ca, nar_b]; exact bP_congr (b1_7 (F := fun c => ¬ r c = 0) es_66).symm)
          | exact (bP_t ((b1_10 es_66).mpr (Exists.intro c (And.intro (by omega) (And.intro (by rw [ot_e (by omega) hfd]; exact hgc) c_243))))).symm
          | exact (bP_f (fun h => absurd c_243 (DN (show c < 40 by omega) (by rw [ot_e (by omega) hfd]; exact hgc) ((b1_10 es_66).mp h)))).symm
          | exact (bP_f (fun h => DM (by rw [ot_e (by omega) hfd]; exact c_228) ((b1_10 es_66).mp h))).symm
          | (rw [nar_b]; exact bP_congr (b1_2 (F := fun c => ¬ r c = 0) es_66).symm)
          | (rw [nar_b]; exact bP_congr (b1_3 (F := fun c => ¬ r c = 0) es_66).symm)
          | (rw [nar_b]; exact bP_congr (b1_8 (F := fun c => ¬ r c = 0) es_66).symm)
          | (rw [nar_b]; exact bP_congr (Iff.intro (fun h => absurd (e_k h) (by rw [es_66]; decide)) (fun h => ((b1_0 (F := fun c => ¬ r c = 0) es_66).mp h).elim)))
          | (rw [nar_b]; exact bP_congr (Iff.intro (fun h => absurd (e_k h) (by rw [es_66]; decide)) (fun h => ((b1_1 (F := fun c => ¬ r c = 0) es_66).mp h).elim)))
          | (rw [nar_b]; exact bP_congr (Iff.intro (fun h => absurd (e_k h) (by rw [es_66]; decide)) (fun h => ((b1_9 (F := fun c => ¬ r c = 0) es_66).mp h).elim)))
      · skip
        rw [es_66]
        refine vg_tabIn (tgt := 255) C d_R_findSingle_66 (by decide) (by decide) rfl (by decide) ?_
        refine vg_aload_n C d_R_findSingle_255 rfl ?_
        refine wr_get C d_R_findSingle_256 f_R_64 rfl rfl rfl rfl ?_
        refine vg_iload C d_R_findSingle_259 rfl ?_
        refine vg_aload_n C d_R_findSingle_261 rfl ?_
        refine vg_iload C d_R_findSingle_262 rfl ?_
        refine vg_iload_n C d_R_findSingle_264 rfl ?_
        refine vg_iload_n C d_R_findSingle_265 rfl ?_
        refine wr_callV (As := [_, _, _]) C (c_R_oneN Z hst ad (sI σ 134 r) i (by omega) t ht x (fun h8 => by obtain ⟨c, c1, c2, -⟩ := (hG.1.1.2 i (by omega)).2.1 (Or.inr (Or.inr (Or.inr (Or.inl h8)))); exact ⟨c, by omega, c2⟩)) l_R_findSingle_R_one k_R_98 rfl rfl rfl rfl rfl (Nat.le_of_ble_eq_true rfl) d_R_findSingle_266 ⟨Nat.le_of_ble_eq_true rfl, Nat.le_of_ble_eq_true rfl⟩ (fun v_266 w_266 h_266 => ?_)
        obtain ⟨rfl, rfl⟩ := h_266
        refine wr_zast C d_R_findSingle_269 rfl rfl (by exact vp_in_nI (by omega) (by decide)) ?_
        refine vg_lv [2, 3, 4, 5, 6] rfl ?_
        (try rw [nI_clamp (show i < 2 ^ 31 by omega)])
        rw [sI_sI, sI_at]
        refine S (by omega) _ ?_
        first
          | exact (bP_t ((b1_4 es_66).mpr (Or.inl (And.intro c_121 c_131)))).symm
          | exact (bP_t ((b1_4 es_66).mpr (Or.inr (And.intro c_141 c_151)))).symm
          | exact (bP_f (fun h => ((b1_4 es_66).mp h).elim (fun z => absurd c_121 z.1) (fun z => absurd z.1 c_141))).symm
          | exact (bP_f (fun h => ((b1_4 es_66).mp h).elim (fun z => absurd c_121 z.1) (fun z => absurd c_151 z.2))).symm
          | exact (bP_f (fun h => ((b1_4 es_66).mp h).elim (fun z => absurd z.2 c_131) (fun z => absurd z.1 c_141))).symm
          | exact (bP_f (fun h => ((b1_4 es_66).mp h).elim (fun z => absurd z.2 c_131) (fun z => absurd c_151 z.2))).symm
          | exact (bP_t ((b1_5 es_66).mpr (Or.inl (And.intro c_121 c_131)))).symm
          | exact (bP_t ((b1_5 es_66).mpr (Or.inr (And.intro c_141 c_151)))).symm
          | exact (bP_f (fun h => ((b1_5 es_66).mp h).elim (fun z => absurd c_121 z.1) (fun z => absurd z.1 c_141))).symm
          | exact (bP_f (fun h => ((b1_5 es_66).mp h).elim (fun z => absurd c_121 z.1) (fun z => absurd c_151 z.2))).symm
          | exact (bP_f (fun h => ((b1_5 es_66).mp h).elim (fun z => absurd z.2 c_131) (fun z => absurd z.1 c_141))).symm
          | exact (bP_f (fun h => ((b1_5 es_66).mp h).elim (fun z => absurd z.2 c_131) (fun z => absurd c_151 z.2))).symm
          | exact (bP_t ((b1_6 es_66).mpr (Or.inl c_176))).symm
          | exact (bP_t ((b1_6 es_66).mpr (Or.inr c_186))).symm
          | exact (bP_f (fun h => ((b1_6 es_66).mp h).elim (fun z => absurd c_176 z) (fun z => absurd c_186 z))).symm
          | (rw [hI.1 _ ca, nar_b]; exact bP_congr (b1_7 (F := fun c => ¬ r c = 0) es_66).symm)
          | exact (bP_t ((b1_10 es_66).mpr (Exists.intro c (And.intro (by omega) (And.intro (by rw [ot_e (by omega) hfd]; exact hgc) c_243))))).symm
          | exact (bP_f (fun h => absurd c_243 (DN (show c < 40 by omega) (by rw [ot_e (by omega) hfd]; exact hgc) ((b1_10 es_66).mp h)))).symm
          | exact (bP_f (fun h => DM (by rw [ot_e (by omega) hfd]; exact c_228) ((b1_10 es_66).mp h))).symm
          | (rw [nar_b]; exact bP_congr (b1_2 (F := fun c => ¬ r c = 0) es_66).symm)
          | (rw [nar_b]; exact bP_congr (b1_3 (F := fun c => ¬ r c = 0) es_66).symm)
          | (rw [nar_b]; exact bP_congr (b1_8 (F := fun c => ¬ r c = 0) es_66).symm)
          | (rw [nar_b]; exact bP_congr (Iff.intro (fun h => absurd (e_k h) (by rw [es_66]; decide)) (fun h => ((b1_0 (F := fun c => ¬ r c = 0) es_66).mp h).elim)))
          | (rw [nar_b]; exact bP_congr (Iff.intro (fun h => absurd (e_k h) (by rw [es_66]; decide)) (fun h => ((b1_1 (F := fun c => ¬ r c = 0) es_66).mp h).elim)))
          | (rw [nar_b]; exact bP_congr (Iff.intro (fun h => absurd (e_k h) (by rw [es_66]; decide)) (fun h => ((b1_9 (F := fun c => ¬ r c = 0) es_66).mp h).elim)))
      · skip
        rw [es_66]
        refine vg_tabIn (tgt := 255) C d_R_findSingle_66 (by decide) (by decide) rfl (by decide) ?_
        refine vg_aload_n C d_R_findSingle_255 rfl ?_
        refine wr_get C d_R_findSingle_256 f_R_64 rfl rfl rfl rfl ?_
        refine vg_iload C d_R_findSingle_259 rfl ?_
        refine vg_aload_n C d_R_findSingle_261 rfl ?_
        refine vg_iload C d_R_findSingle_262 rfl ?_
        refine vg_iload_n C d_R_findSingle_264 rfl ?_
        refine vg_iload_n C d_R_findSingle_265 rfl ?_
        refine wr_callV (As := [_, _, _]) C (c_R_oneN Z hst ad (sI σ 134 r) i (by omega) t ht x (fun h8 => by obtain ⟨c, c1, c2, -⟩ := (hG.1.1.2 i (by omega)).2.1 (Or.inr (Or.inr (Or.inr (Or.inl h8)))); exact ⟨c, by omega, c2⟩)) l_R_findSingle_R_one k_R_98 rfl rfl rfl rfl rfl (Nat.le_of_ble_eq_true rfl) d_R_findSingle_266 ⟨Nat.le_of_ble_eq_true rfl, Nat.le_of_ble_eq_true rfl⟩ (fun v_266 w_266 h_266 => ?_)
        obtain ⟨rfl, rfl⟩ := h_266
        refine wr_zast C d_R_findSingle_269 rfl rfl (by exact vp_in_nI (by omega) (by decide)) ?_
        refine vg_lv [2, 3, 4, 5, 6] rfl ?_
        (try rw [nI_clamp (show i < 2 ^ 31 by omega)])
        rw [sI_sI, sI_at]
        refine S (by omega) _ ?_
        first
          | exact (bP_t ((b1_4 es_66).mpr (Or.inl (And.intro c_121 c_131)))).symm
          | exact (bP_t ((b1_4 es_66).mpr (Or.inr (And.intro c_141 c_151)))).symm
          | exact (bP_f (fun h => ((b1_4 es_66).mp h).elim (fun z => absurd c_121 z.1) (fun z => absurd z.1 c_141))).symm
          | exact (bP_f (fun h => ((b1_4 es_66).mp h).elim (fun z => absurd c_121 z.1) (fun z => absurd c_151 z.2))).symm
          | exact (bP_f (fun h => ((b1_4 es_66).mp h).elim (fun z => absurd z.2 c_131) (fun z => absurd z.1 c_141))).symm
          | exact (bP_f (fun h => ((b1_4 es_66).mp h).elim (fun z => absurd z.2 c_131) (fun z => absurd c_151 z.2))).symm
          | exact (bP_t ((b1_5 es_66).mpr (Or.inl (And.intro c_121 c_131)))).symm
          | exact (bP_t ((b1_5 es_66).mpr (Or.inr (And.intro c_141 c_151)))).symm
          | exact (bP_f (fun h => ((b1_5 es_66).mp h).elim (fun z => absurd c_121 z.1) (fun z => absurd z.1 c_141))).symm
          | exact (bP_f (fun h => ((b1_5 es_66).mp h).elim (fun z => absurd c_121 z.1) (fun z => absurd c_151 z.2))).symm
          | exact (bP_f (fun h => ((b1_5 es_66).mp h).elim (fun z => absurd z.2 c_131) (fun z => absurd z.1 c_141))).symm
          | exact (bP_f (fun h => ((b1_5 es_66).mp h).elim (fun z => absurd z.2 c_131) (fun z => absurd c_151 z.2))).symm
          | exact (bP_t ((b1_6 es_66).mpr (Or.inl c_176))).symm
          | exact (bP_t ((b1_6 es_66).mpr (Or.inr c_186))).symm
          | exact (bP_f (fun h => ((b1_6 es_66).mp h).elim (fun z => absurd c_176 z) (fun z => absurd c_186 z))).symm
          | (rw [hI.1 _ ca, nar_b]; exact bP_congr (b1_7 (F := fun c => ¬ r c = 0) es_66).symm)
          | exact (bP_t ((b1_10 es_66).mpr (Exists.intro c (And.intro (by omega) (And.intro (by rw [ot_e (by omega) hfd]; exact hgc) c_243))))).symm
          | exact (bP_f (fun h => absurd c_243 (DN (show c < 40 by omega) (by rw [ot_e (by omega) hfd]; exact hgc) ((b1_10 es_66).mp h)))).symm
          | exact (bP_f (fun h => DM (by rw [ot_e (by omega) hfd]; exact c_228) ((b1_10 es_66).mp h))).symm
          | (rw [nar_b]; exact bP_congr (b1_2 (F := fun c => ¬ r c = 0) es_66).symm)
          | (rw [nar_b]; exact bP_congr (b1_3 (F := fun c => ¬ r c = 0) es_66).symm)
          | (rw [nar_b]; exact bP_congr (b1_8 (F := fun c => ¬ r c = 0) es_66).symm)
          | (rw [nar_b]; exact bP_congr (Iff.intro (fun h => absurd (e_k h) (by rw [es_66]; decide)) (fun h => ((b1_0 (F := fun c => ¬ r c = 0) es_66).mp h).elim)))
          | (rw [nar_b]; exact bP_congr (Iff.intro (fun h => absurd (e_k h) (by rw [es_66]; decide)) (fun h => ((b1_1 (F := fun c => ¬ r c = 0) es_66).mp h).elim)))
          | (rw [nar_b]; exact bP_congr (Iff.intro (fun h => absurd (e_k h) (by rw [es_66]; decide)) (fun h => ((b1_9 (F := fun c => ¬ r c = 0) es_66).mp h).elim)))
      · skip
        rw [es_66]
        refine vg_tabIn (tgt := 215) C d_R_findSingle_66 (by decide) (by decide) rfl (by decide) ?_
        obtain ⟨dd, hd4, hfd, hgd⟩ := (hG.1.1.2 i (by omega)).2.2 (by rw [es_66]; rfl)
        rw [hfd]
        refine vg_aload_n C d_R_findSingle_215 rfl ?_
        refine wr_get C d_R_findSingle_216 f_R_64 rfl rfl rfl rfl ?_
        refine vg_iload C d_R_findSingle_219 rfl ?_
        refine vg_aload_n C d_R_findSingle_221 rfl ?_
        refine wr_get C d_R_findSingle_222 f_R_22 rfl rfl rfl rfl ?_
        refine vg_iload C d_R_findSingle_225 rfl ?_
        refine wr_iald C d_R_findSingle_227 rfl rfl (by exact vp_in_nI (by omega) (by decide)) ?_
        rw [nI_clamp (by omega), sI_ne _ (by decide)]
        refine vg_if_lt (tgt := 250) C d_R_findSingle_228 (by decide) (fun c_228 => ?_) (fun c_228 => ?_)
        · skip
          refine vg_iconst (v := 0) C d_R_findSingle_250 (by decide) ?_
          refine wr_zast C d_R_findSingle_251 rfl rfl (by exact vp_in_nI (by omega) (by decide)) ?_
          rw [nI_clamp (by omega)]
          refine vg_goto (tgt := 270) C d_R_findSingle_252 (by decide) ?_
          refine vg_lv [2, 3, 4, 5, 6] rfl ?_
          (try rw [nI_clamp (show i < 2 ^ 31 by omega)])
          rw [sI_sI, sI_at]
          refine S (by omega) _ ?_
          first
            | exact (bP_t ((b1_4 es_66).mpr (Or.inl (And.intro c_121 c_131)))).symm
            | exact (bP_t ((b1_4 es_66).mpr (Or.inr (And.intro c_141 c_151)))).symm
            | exact (bP_f (fun h => ((b1_4 es_66).mp h).elim (fun z => absurd c_121 z.1) (fun z => absurd z.1 c_141))).symm
            | exact (bP_f (fun h => ((b1_4 es_66).mp h).elim (fun z => absurd c_121 z.1) (fun z => absurd c_151 z.2))).symm
            | exact (bP_f (fun h => ((b1_4 es_66).mp h).elim (fun z => absurd z.2 c_131) (fun z => absurd z.1 c_141))).symm
            | exact (bP_f (fun h => ((b1_4 es_66).mp h).elim (fun z => absurd z.2 c_131) (fun z => absurd c_151 z.2))).symm
            | exact (bP_t ((b1_5 es_66).mpr (Or.inl (And.intro c_121 c_131)))).symm
            | exact (bP_t ((b1_5 es_66).mpr (Or.inr (And.intro c_141 c_151)))).symm
            | exact (bP_f (fun h => ((b1_5 es_66).mp h).elim (fun z => absurd c_121 z.1) (fun z => absurd z.1 c_141))).symm
            | exact (bP_f (fun h => ((b1_5 es_66).mp h).elim (fun z => absurd c_121 z.1) (fun z => absurd c_151 z.2))).symm
            | exact (bP_f (fun h => ((b1_5 es_66).mp h).elim (fun z => absurd z.2 c_131) (fun z => absurd z.1 c_141))).symm
            | exact (bP_f (fun h => ((b1_5 es_66).mp h).elim (fun z => absurd z.2 c_131) (fun z => absurd c_151 z.2))).symm
            | exact (bP_t ((b1_6 es_66).mpr (Or.inl c_176))).symm
            | exact (bP_t ((b1_6 es_66).mpr (Or.inr c_186))).symm
            | exact (bP_f (fun h => ((b1_6 es_66).mp h).elim (fun z => absurd c_176 z) (fun z => absurd c_186 z))).symm
            | (rw [hI.1 _ ca, nar_b]; exact bP_congr (b1_7 (F := fun c => ¬ r c = 0) es_66).symm)
            | exact (bP_t ((b1_10 es_66).mpr (Exists.intro c (And.intro (by omega) (And.intro (by rw [ot_e (by omega) hfd]; exact hgc) c_243))))).symm
            | exact (bP_f (fun h => absurd c_243 (DN (show c < 40 by omega) (by rw [ot_e (by omega) hfd]; exact hgc) ((b1_10 es_66).mp h)))).symm
            | exact (bP_f (fun h => DM (by rw [ot_e (by omega) hfd]; exact c_228) ((b1_10 es_66).mp h))).symm
            | (rw [nar_b]; exact bP_congr (b1_2 (F := fun c => ¬ r c = 0) es_66).symm)
            | (rw [nar_b]; exact bP_congr (b1_3 (F := fun c => ¬ r c = 0) es_66).symm)
            | (rw [nar_b]; exact bP_congr (b1_8 (F := fun c => ¬ r c = 0) es_66).symm)
            | (rw [nar_b]; exact bP_congr (Iff.intro (fun h => absurd (e_k h) (by rw [es_66]; decide)) (fun h => ((b1_0 (F := fun c => ¬ r c = 0) es_66).mp h).elim)))
            | (rw [nar_b]; exact bP_congr (Iff.intro (fun h => absurd (e_k h) (by rw [es_66]; decide)) (fun h => ((b1_1 (F := fun c => ¬ r c = 0) es_66).mp h).elim)))
            | (rw [nar_b]; exact bP_congr (Iff.intro (fun h => absurd (e_k h) (by rw [es_66]; decide)) (fun h => ((b1_9 (F := fun c => ¬ r c = 0) es_66).mp h).elim)))
        · skip
          obtain ⟨c, hcn, hgc, -⟩ := hgd.resolve_left (fun e => c_228 (by rw [e]; decide))
          refine vg_aload_n C d_R_findSingle_231 rfl ?_
          refine wr_get C d_R_findSingle_232 f_R_64 rfl rfl rfl rfl ?_
          refine vg_aload_n C d_R_findSingle_235 rfl ?_
          refine wr_get C d_R_findSingle_236 f_R_22 rfl rfl rfl rfl ?_
          refine vg_iload C d_R_findSingle_239 rfl ?_
          refine wr_iald C d_R_findSingle_241 rfl rfl (by exact vp_in_nI (by omega) (by decide)) ?_
          rw [nI_clamp (by omega), sI_ne _ (by decide)]
          rw [hgc]
          refine wr_zald C d_R_findSingle_242 rfl rfl (by exact vp_in_nI (by omega) (by decide)) ?_
          rw [nI_clamp (by omega), sI_at]
          refine vg_if_eq (tgt := 250) C d_R_findSingle_243 (by decide) (fun c_243 => ?_) (fun c_243 => ?_)
          · skip
            refine vg_iconst (v := 0) C d_R_findSingle_250 (by decide) ?_
            refine wr_zast C d_R_findSingle_251 rfl rfl (by exact vp_in_nI (by omega) (by decide)) ?_
            rw [nI_clamp (by omega)]
            refine vg_goto (tgt := 270) C d_R_findSingle_252 (by decide) ?_
            refine vg_lv [2, 3, 4, 5, 6] rfl ?_
            (try rw [nI_clamp (show i < 2 ^ 31 by omega)])
            rw [sI_sI, sI_at]
            refine S (by omega) _ ?_
            first
              | exact (bP_t ((b1_4 es_66).mpr (Or.inl (And.intro c_121 c_131)))).symm
              | exact (bP_t ((b1_4 es_66).mpr (Or.inr (And.intro c_141 c_151)))).symm
              | exact (bP_f (fun h => ((b1_4 es_66).mp h).elim (fun z => absurd c_121 z.1) (fun z => absurd z.1 c_141))).symm
              | exact (bP_f (fun h => ((b1_4 es_66).mp h).elim (fun z => absurd c_121 z.1) (fun z => absurd c_151 z.2))).symm
              | exact (bP_f (fun h => ((b1_4 es_66).mp h).elim (fun z => absurd z.2 c_131) (fun z => absurd z.1 c_141))).symm
              | exact (bP_f (fun h => ((b1_4 es_66).mp h).elim (fun z => absurd z.2 c_131) (fun z => absurd c_151 z.2))).symm
              | exact (bP_t ((b1_5 es_66).mpr (Or.inl (And.intro c_121 c_131)))).symm
              | exact (bP_t ((b1_5 es_66).mpr (Or.inr (And.intro c_141 c_151)))).symm
              | exact (bP_f (fun h => ((b1_5 es_66).mp h).elim (fun z => absurd c_121 z.1) (fun z => absurd z.1 c_141))).symm
              | exact (bP_f (fun h => ((b1_5 es_66).mp h).elim (fun z => absurd c_121 z.1) (fun z => absurd c_151 z.2))).symm
              | exact (bP_f (fun h => ((b1_5 es_66).mp h).elim (fun z => absurd z.2 c_131) (fun z => absurd z.1 c_141))).symm
              | exact (bP_f (fun h => ((b1_5 es_66).mp h).elim (fun z => absurd z.2 c_131) (fun z => absurd c_151 z.2))).symm
              | exact (bP_t ((b1_6 es_66).mpr (Or.inl c_176))).symm
              | exact (bP_t ((b1_6 es_66).mpr (Or.inr c_186))).symm
              | exact (bP_f (fun h => ((b1_6 es_66).mp h).elim (fun z => absurd c_176 z) (fun z => absurd c_186 z))).symm
              | (rw [hI.1 _ ca, nar_b]; exact bP_congr (b1_7 (F := fun c => ¬ r c = 0) es_66).symm)
              | exact (bP_t ((b1_10 es_66).mpr (Exists.intro c (And.intro (by omega) (And.intro (by rw [ot_e (by omega) hfd]; exact hgc) c_243))))).symm
              | exact (bP_f (fun h => absurd c_243 (DN (show c < 40 by omega) (by rw [ot_e (by omega) hfd]; exact hgc) ((b1_10 es_66).mp h)))).symm
              | exact (bP_f (fun h => DM (by rw [ot_e (by omega) hfd]; exact c_228) ((b1_10 es_66).mp h))).symm
              | (rw [nar_b]; exact bP_congr (b1_2 (F := fun c => ¬ r c = 0) es_66).symm)
              | (rw [nar_b]; exact bP_congr (b1_3 (F := fun c => ¬ r c = 0) es_66).symm)
              | (rw [nar_b]; exact bP_congr (b1_8 (F := fun c => ¬ r c = 0) es_66).symm)
              | (rw [nar_b]; exact bP_congr (Iff.intro (fun h => absurd (e_k h) (by rw [es_66]; decide)) (fun h => ((b1_0 (F := fun c => ¬ r c = 0) es_66).mp h).elim)))
              | (rw [nar_b]; exact bP_congr (Iff.intro (fun h => absurd (e_k h) (by rw [es_66]; decide)) (fun h => ((b1_1 (F := fun c => ¬ r c = 0) es_66).mp h).elim)))
              | (rw [nar_b]; exact bP_congr (Iff.intro (fun h => absurd (e_k h) (by rw [es_66]; decide)) (fun h => ((b1_9 (F := fun c => ¬ r c = 0) es_66).mp h).elim)))
          · skip
            refine vg_iconst (v := 1) C d_R_findSingle_246 (by decide) ?_
            refine vg_goto (tgt := 251) C d_R_findSingle_247 (by decide) ?_
            refine wr_zast C d_R_findSingle_251 rfl rfl (by exact vp_in_nI (by omega) (by decide)) ?_
            rw [nI_clamp (by omega)]
            refine vg_goto (tgt := 270) C d_R_findSingle_252 (by decide) ?_
            refine vg_lv [2, 3, 4, 5, 6] rfl ?_
            (try rw [nI_clamp (show i < 2 ^ 31 by omega)])
            rw [sI_sI, sI_at]
            refine S (by omega) _ ?_
            first
              | exact (bP_t ((b1_4 es_66).mpr (Or.inl (And.intro c_121 c_131)))).symm
              | exact (bP_t ((b1_4 es_66).mpr (Or.inr (And.intro c_141 c_151)))).symm
              | exact (bP_f (fun h => ((b1_4 es_66).mp h).elim (fun z => absurd c_121 z.1) (fun z => absurd z.1 c_141))).symm
              | exact (bP_f (fun h => ((b1_4 es_66).mp h).elim (fun z => absurd c_121 z.1) (fun z => absurd c_151 z.2))).symm
              | exact (bP_f (fun h => ((b1_4 es_66).mp h).elim (fun z => absurd z.2 c_131) (fun z => absurd z.1 c_141))).symm
              | exact (bP_f (fun h => ((b1_4 es_66).mp h).elim (fun z => absurd z.2 c_131) (fun z => absurd c_151 z.2))).symm
              | exact (bP_t ((b1_5 es_66).mpr (Or.inl (And.intro c_121 c_131)))).symm
              | exact (bP_t ((b1_5 es_66).mpr (Or.inr (And.intro c_141 c_151)))).symm
              | exact (bP_f (fun h => ((b1_5 es_66).mp h).elim (fun z => absurd c_121 z.1) (fun z => absurd z.1 c_141))).symm
              | exact (bP_f (fun h => ((b1_5 es_66).mp h).elim (fun z => absurd c_121 z.1) (fun z => absurd c_151 z.2))).symm
              | exact (bP_f (fun h => ((b1_5 es_66).mp h).elim (fun z => absurd z.2 c_131) (fun z => absurd z.1 c_141))).symm
              | exact (bP_f (fun h => ((b1_5 es_66).mp h).elim (fun z => absurd z.2 c_131) (fun z => absurd c_151 z.2))).symm
              | exact (bP_t ((b1_6 es_66).mpr (Or.inl c_176))).symm
              | exact (bP_t ((b1_6 es_66).mpr (Or.inr c_186))).symm
              | exact (bP_f (fun h => ((b1_6 es_66).mp h).elim (fun z => absurd c_176 z) (fun z => absurd c_186 z))).symm
              | (rw [hI.1 _ ca, nar_b]; exact bP_congr (b1_7 (F := fun c => ¬ r c = 0) es_66).symm)
              | exact (bP_t ((b1_10 es_66).mpr (Exists.intro c (And.intro (by omega) (And.intro (by rw [ot_e (by omega) hfd]; exact hgc) c_243))))).symm
              | exact (bP_f (fun h => absurd c_243 (DN (show c < 40 by omega) (by rw [ot_e (by omega) hfd]; exact hgc) ((b1_10 es_66).mp h)))).symm
              | exact (bP_f (fun h => DM (by rw [ot_e (by omega) hfd]; exact c_228) ((b1_10 es_66).mp h))).symm
              | (rw [nar_b]; exact bP_congr (b1_2 (F := fun c => ¬ r c = 0) es_66).symm)
              | (rw [nar_b]; exact bP_congr (b1_3 (F := fun c => ¬ r c = 0) es_66).symm)
              | (rw [nar_b]; exact bP_congr (b1_8 (F := fun c => ¬ r c = 0) es_66).symm)
              | (rw [nar_b]; exact bP_congr (Iff.intro (fun h => absurd (e_k h) (by rw [es_66]; decide)) (fun h => ((b1_0 (F := fun c => ¬ r c = 0) es_66).mp h).elim)))
              | (rw [nar_b]; exact bP_congr (Iff.intro (fun h => absurd (e_k h) (by rw [es_66]; decide)) (fun h => ((b1_1 (F := fun c => ¬ r c = 0) es_66).mp h).elim)))
              | (rw [nar_b]; exact bP_congr (Iff.intro (fun h => absurd (e_k h) (by rw [es_66]; decide)) (fun h => ((b1_9 (F := fun c => ¬ r c = 0) es_66).mp h).elim)))
set_option maxHeartbeats 4000000 in
set_option maxRecDepth 100000 in
theorem lp_R_findSingleN_out {Z : vg_Z} (hst : vg_St Z) {G : vg_G} {post : Option Value → va_W → Prop} (C : vg_C Z M_R_findSingle G) (hQ : vg_Rt Z G 0 0 post) (ad : Nat → Nat) (σ : sg) (n : Nat) (H : Nat → Nat) (hG : GrR σ n H) (hH : ∀ q, q < n → H q ≤ 32) (x : Int32) (hN : ∀ p, p < n → σ.1 133 p = bP (SN (σ.1 118) (σ.1 119) (σ.1 120) (σ.1 122) p)) (t : Nat) (ht : t < 16) (hpost : ∀ r : Nat → Int32, (∀ p, p < n → r p = bP ((S1 (σ.1 118) (σ.1 119) (σ.1 120) (σ.1 122) (eNr σ t)) p)) → post none (wd Z ad (sI σ 134 r))) : ∀ (n2 d : Nat) (r : Nat → Int32) (hlt : 42 < d + n2) (hd : d ≤ 42), RI n H (S1 (σ.1 118) (σ.1 119) (σ.1 120) (σ.1 122) (eNr σ t)) 0 d r → vg_K Z M_R_findSingle G 0 0 23 [(3, .int (nI d)), (0, .ref (ad 117)), (1, .int (nI t)), (2, .int x)] [] (wd Z ad (sI σ 134 r)) := by
  have hn := hG.1.1.1
  intro n2
  induction n2 with
  | zero =>
    intro d r hlt hd
    exact absurd hlt (by omega)
  | succ n2 ih =>
    intro d r hlt hd hI
    refine vg_iload_n C d_R_findSingle_23 rfl ?_
    refine vg_bipush (v := 42) C d_R_findSingle_24 (by decide) ?_
    refine vg_icmp_ge (tgt := 282) C d_R_findSingle_26 (by decide) (fun c_26 => ?_) (fun c_26 => ?_)
    · rw [show (42 : Int32) = nI 42 from rfl, nI_leI (by omega) (by omega)] at c_26
      exact vg_return C hQ d_R_findSingle_282 rfl (hpost r (RI_end hH (by rw [show 42 = d by omega]; exact hI)))
    · rw [show (42 : Int32) = nI 42 from rfl, nI_leI (by omega) (by omega)] at c_26
      refine vg_iconst (v := 0) C d_R_findSingle_29 (by decide) ?_
      refine vg_istore C d_R_findSingle_30 (Nat.le_of_ble_eq_true rfl) rfl ?_
      refine lp_R_findSingleN_in hst C hQ ad σ n H hG hH x hN t ht d (fun r2 h2 => ?_) (n + 1) 0 r (by omega) (by omega) hI
      refine vg_iinc (v := nI (d + 1)) C d_R_findSingle_276 rfl (nI_1 d) (Nat.le_of_ble_eq_true rfl) rfl ?_
      refine vg_goto (tgt := 23) C d_R_findSingle_279 (by decide) ?_
      exact ih (d + 1) r2 (by omega) (by omega) (RI_next h2)
set_option maxHeartbeats 4000000 in
set_option maxRecDepth 100000 in
theorem lp_R_findSingleN_z {Z : vg_Z} (hst : vg_St Z) {G : vg_G} {post : Option Value → va_W → Prop} (C : vg_C Z M_R_findSingle G) (hQ : vg_Rt Z G 0 0 post) (ad : Nat → Nat) (σ : sg) (n : Nat) (H : Nat → Nat) (hG : GrR σ n H) (hH : ∀ q, q < n → H q ≤ 32) (x : Int32) (hN : ∀ p, p < n → σ.1 133 p = bP (SN (σ.1 118) (σ.1 119) (σ.1 120) (σ.1 122) p)) (t : Nat) (ht : t < 16) (hpost : ∀ r : Nat → Int32, (∀ p, p < n → r p = bP ((S1 (σ.1 118) (σ.1 119) (σ.1 120) (σ.1 122) (eNr σ t)) p)) → post none (wd Z ad (sI σ 134 r))) : ∀ (n2 i : Nat) (r : Nat → Int32) (hlt : 40 < i + n2) (hi : i ≤ 40), (∀ q, q < i → r q = 0) → vg_K Z M_R_findSingle G 0 0 2 [(3, .int (nI i)), (0, .ref (ad 117)), (1, .int (nI t)), (2, .int x)] [] (wd Z ad (sI σ 134 r)) := by
  have hn := hG.1.1.1
  intro n2
  induction n2 with
  | zero =>
    intro i r hlt hi
    exact absurd hlt (by omega)
  | succ n2 ih =>
    intro i r hlt hi hz
    refine vg_iload_n C d_R_findSingle_2 rfl ?_
    refine vg_bipush (v := 40) C d_R_findSingle_3 (by decide) ?_
    refine vg_icmp_ge (tgt := 21) C d_R_findSingle_5 (by decide) (fun c_5 => ?_) (fun c_5 => ?_)
    · rw [show (40 : Int32) = nI 40 from rfl, nI_leI (by omega) (by omega)] at c_5
      refine vg_iconst (v := 0) C d_R_findSingle_21 (by decide) ?_
      refine vg_istore_n C d_R_findSingle_22 (Nat.le_of_ble_eq_true rfl) rfl ?_
      exact lp_R_findSingleN_out hst C hQ ad σ n H hG hH x hN t ht hpost 43 0 r (by omega) (by omega) (RI_0 hG.1.1 (fun q hq => hz q (by omega)))
    · rw [show (40 : Int32) = nI 40 from rfl, nI_leI (by omega) (by omega)] at c_5
      refine vg_aload_n C d_R_findSingle_8 rfl ?_
      refine wr_get C d_R_findSingle_9 f_R_64 rfl rfl rfl rfl ?_
      refine vg_iload_n C d_R_findSingle_12 rfl ?_
      refine vg_iconst (v := 0) C d_R_findSingle_13 (by decide) ?_
      refine wr_zast C d_R_findSingle_14 rfl rfl (by exact vp_in_nI (by omega) (by decide)) ?_
      rw [nI_clamp (by omega), sI_sI, sI_at]
      refine vg_iinc (v := nI (i + 1)) C d_R_findSingle_15 rfl (nI_1 i) (Nat.le_of_ble_eq_true rfl) rfl ?_
      refine vg_goto (tgt := 2) C d_R_findSingle_18 (by decide) ?_
      exact ih (i + 1) _ (by omega) (by omega) (lt_s (fun q hq => (pk_un (by omega)).trans (hz q hq)) (pk_us.trans rfl))
set_option maxHeartbeats 4000000 in
set_option maxRecDepth 100000 in
theorem c_R_findSingleN (Z : vg_Z) (hst : vg_St Z) (ad : Nat → Nat) (σ : sg) (n : Nat) (H : Nat → Nat) (hG : GrR σ n H) (hH : ∀ q, q < n → H q ≤ 32) (x : Int32) (hN : ∀ p, p < n → σ.1 133 p = bP (SN (σ.1 118) (σ.1 119) (σ.1 120) (σ.1 122) p)) (t : Nat) (ht : t < 16)  : vg_T Z M_R_findSingle 0 0 [.ref (ad 117), .int (nI t), .int x] (wd Z ad σ) (fun v w => v = none ∧ ∃ r : Nat → Int32, (∀ p, p < n → r p = bP (S1 (σ.1 118) (σ.1 119) (σ.1 120) (σ.1 122) (eNr σ t) p)) ∧ w = wd Z ad (sI σ 134 r)) := by
  refine vg_enter hst (by decide) rfl (Nat.le_of_ble_eq_true rfl) ?_
  intro G C hQ
  show vg_K Z M_R_findSingle G 0 0 0 [(0, .ref (ad 117)), (1, .int (nI t)), (2, .int x)] [] (wd Z ad σ)
  refine vg_iconst (v := 0) C d_R_findSingle_0 (by decide) ?_
  refine vg_istore_n C d_R_findSingle_1 (Nat.le_of_ble_eq_true rfl) rfl ?_
  refine vg_w (ws' := wd Z ad (sI σ 134 (σ.1 134))) (by rw [sI_id]) ?_
  exact lp_R_findSingleN_z hst C hQ ad σ n H hG hH x hN t ht (fun r h => ⟨rfl, r, h, rfl⟩) 41 0 _ (by omega) (by omega) (fun q hq => absurd hq (by omega))
