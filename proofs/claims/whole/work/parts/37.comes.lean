/-! the reference's comes -/
def bC (k f s g : Nat → Int32) (e : Int32) (F : Nat → Prop) (p : Nat) : Prop := (k p = 10 ∧ (f p = e ∨ ∃ c, c < 40 ∧ g (ot f p) = nI c ∧ F c)) ∨ ((k p = 4 ∨ k p = 5 ∨ k p = 6) ∧ (F (ot f p) ∨ F (ot s p))) ∨ (k p = 7 ∧ F (ot f p)) ∨ (k p = 9 ∧ F (ot s p))
def nk (k : Nat → Int32) (q : Nat) : Prop := k q = 0 ∨ k q = 1 ∨ k q = 2 ∨ k q = 3 ∨ k q = 8
section BC
variable {k f s g : Nat → Int32} {n i d p : Nat} {H : Nat → Nat} {e : Int32} {r : Nat → Int32} {F : Nat → Prop}
theorem bC_cg (hW : WG k f s g n H) : ∀ p, p < n → ∀ F F' : Nat → Prop, (∀ c, c < 40 → Ch k f s g p c → F c = F' c) → bC k f s g e F p = bC k f s g e F' p := by
  intro p hp F F' h
  have hf : (k p = 4 ∨ k p = 5 ∨ k p = 6 ∨ k p = 7) → F (ot f p) = F' (ot f p) := fun q => h _ (Ch_f hW hp q).1 (Ch_f hW hp q).2.2
  have hs : (k p = 4 ∨ k p = 5 ∨ k p = 6 ∨ k p = 9) → F (ot s p) = F' (ot s p) := fun q => h _ (Ch_s hW hp q).1 (Ch_s hW hp q).2.2
  have hg : k p = 10 → (∃ c, c < 40 ∧ g (ot f p) = nI c ∧ F c) = (∃ c, c < 40 ∧ g (ot f p) = nI c ∧ F' c) := fun q => propext (exists_congr fun c => and_congr_right fun h1 => and_congr_right fun h2 => by rw [h c h1 (Ch_g hW hp h1 q h2)])
  unfold bC
  refine propext (or_congr (and_congr_right fun q => ?_) (or_congr (and_congr_right fun q => ?_) (or_congr (and_congr_right fun q => ?_) (and_congr_right fun q => ?_))))
  · rw [hg q]
  · rw [hf (q.imp id (Or.imp id Or.inl)), hs (q.imp id (Or.imp id Or.inl))]
  · rw [hf (Or.inr (Or.inr (Or.inr q)))]
  · rw [hs (Or.inr (Or.inr (Or.inr q)))]
theorem Rch_un {q : Nat} : Rch k f s g p q ↔ p = q ∨ ∃ c, c < 40 ∧ Ch k f s g p c ∧ Rch k f s g c q := by
  constructor
  · intro h
    refine h (fun x => p = x ∨ ∃ c, c < 40 ∧ Ch k f s g p c ∧ Rch k f s g c x) (Or.inl rfl) (fun a c ha hc hch => ?_)
    rcases ha with rfl | ⟨c2, h1, h2, h3⟩
    · exact Or.inr ⟨c, hc, hch, Rch_rf⟩
    · exact Or.inr ⟨c2, h1, h2, fun X x0 xs => xs a c (h3 X x0 xs) hc hch⟩
  · rintro (rfl | ⟨c, h1, h2, h3⟩)
    · exact Rch_rf
    · exact Rch_step h1 h2 h3
theorem Cm_ch : Cm k f s g p e ↔ (p < 40 ∧ k p = 10 ∧ f p = e) ∨ ∃ c, c < 40 ∧ Ch k f s g p c ∧ Cm k f s g c e := by
  constructor
  · rintro ⟨q, h1, h2, h3⟩
    rcases Rch_un.mp h2 with rfl | ⟨c, c1, c2, c3⟩
    · exact Or.inl ⟨h1, h3⟩
    · exact Or.inr ⟨c, c1, c2, q, h1, c3, h3⟩
  · rintro (h | ⟨c, c1, c2, q, h1, h2, h3⟩)
    · exact ⟨p, h.1, Rch_rf, h.2⟩
    · exact ⟨q, h1, Rch_step c1 c2 h2, h3⟩
theorem Cm_un (hW : WG k f s g n H) (hp : p < n) : Cm k f s g p e ↔ bC k f s g e (fun c => Cm k f s g c e) p := by
  have hn := hW.1
  rw [Cm_ch]
  constructor
  · rintro (⟨-, h1, h2⟩ | ⟨c, c1, c2, c3⟩)
    · exact Or.inl ⟨h1, Or.inl h2⟩
    · rcases c2 with ⟨a, b⟩ | ⟨a, a2, b⟩ | ⟨a, d, hd, b, e2⟩
      · rcases a with a | a | a | a
        · exact Or.inr (Or.inl ⟨Or.inl a, Or.inl (by rw [ot_e c1 b]; exact c3)⟩)
        · exact Or.inr (Or.inl ⟨Or.inr (Or.inl a), Or.inl (by rw [ot_e c1 b]; exact c3)⟩)
        · exact Or.inr (Or.inl ⟨Or.inr (Or.inr a), Or.inl (by rw [ot_e c1 b]; exact c3)⟩)
        · exact Or.inr (Or.inr (Or.inl ⟨a, by rw [ot_e c1 b]; exact c3⟩))
      · rcases a with a | a | a | a | a
        · exact Or.inr (Or.inl ⟨Or.inl a, Or.inr (by rw [ot_e c1 b]; exact c3)⟩)
        · exact Or.inr (Or.inl ⟨Or.inr (Or.inl a), Or.inr (by rw [ot_e c1 b]; exact c3)⟩)
        · exact Or.inr (Or.inl ⟨Or.inr (Or.inr a), Or.inr (by rw [ot_e c1 b]; exact c3)⟩)
        · exact absurd a a2
        · exact Or.inr (Or.inr (Or.inr ⟨a, by rw [ot_e c1 b]; exact c3⟩))
      · exact Or.inl ⟨a, Or.inr ⟨c, c1, by rw [ot_e (by omega) b]; exact e2, c3⟩⟩
  · rintro (⟨h1, h2 | ⟨c, c1, c2, c3⟩⟩ | ⟨h1, h2⟩ | ⟨h1, h2⟩ | ⟨h1, h2⟩)
    · exact Or.inl ⟨by omega, h1, h2⟩
    · exact Or.inr ⟨c, c1, Ch_g hW hp c1 h1 c2, c3⟩
    · rcases h2 with h2 | h2
      · have := Ch_f hW hp (h1.imp id (Or.imp id Or.inl))
        exact Or.inr ⟨_, this.1, this.2.2, h2⟩
      · have := Ch_s hW hp (h1.imp id (Or.imp id Or.inl))
        exact Or.inr ⟨_, this.1, this.2.2, h2⟩
    · have := Ch_f hW hp (Or.inr (Or.inr (Or.inr h1)))
      exact Or.inr ⟨_, this.1, this.2.2, h2⟩
    · have := Ch_s hW hp (Or.inr (Or.inr (Or.inr h1)))
      exact Or.inr ⟨_, this.1, this.2.2, h2⟩
theorem bC_0 (h : k p = 0) : bC k f s g e F p ↔ (False) := by
  unfold bC
  rw [h]
  simp (decide := true) only [true_and, false_and, or_false, false_or, true_or, or_true]
theorem bC_1 (h : k p = 1) : bC k f s g e F p ↔ (False) := by
  unfold bC
  rw [h]
  simp (decide := true) only [true_and, false_and, or_false, false_or, true_or, or_true]
theorem bC_2 (h : k p = 2) : bC k f s g e F p ↔ (False) := by
  unfold bC
  rw [h]
  simp (decide := true) only [true_and, false_and, or_false, false_or, true_or, or_true]
theorem bC_3 (h : k p = 3) : bC k f s g e F p ↔ (False) := by
  unfold bC
  rw [h]
  simp (decide := true) only [true_and, false_and, or_false, false_or, true_or, or_true]
theorem bC_4 (h : k p = 4) : bC k f s g e F p ↔ (F (ot f p) ∨ F (ot s p)) := by
  unfold bC
  rw [h]
  simp (decide := true) only [true_and, false_and, or_false, false_or, true_or, or_true]
theorem bC_5 (h : k p = 5) : bC k f s g e F p ↔ (F (ot f p) ∨ F (ot s p)) := by
  unfold bC
  rw [h]
  simp (decide := true) only [true_and, false_and, or_false, false_or, true_or, or_true]
theorem bC_6 (h : k p = 6) : bC k f s g e F p ↔ (F (ot f p) ∨ F (ot s p)) := by
  unfold bC
  rw [h]
  simp (decide := true) only [true_and, false_and, or_false, false_or, true_or, or_true]
theorem bC_7 (h : k p = 7) : bC k f s g e F p ↔ (F (ot f p)) := by
  unfold bC
  rw [h]
  simp (decide := true) only [true_and, false_and, or_false, false_or, true_or, or_true]
theorem bC_8 (h : k p = 8) : bC k f s g e F p ↔ (False) := by
  unfold bC
  rw [h]
  simp (decide := true) only [true_and, false_and, or_false, false_or, true_or, or_true]
theorem bC_9 (h : k p = 9) : bC k f s g e F p ↔ (F (ot s p)) := by
  unfold bC
  rw [h]
  simp (decide := true) only [true_and, false_and, or_false, false_or, true_or, or_true]
theorem bC_10 (h : k p = 10) : bC k f s g e F p ↔ (f p = e ∨ ∃ c, c < 40 ∧ g (ot f p) = nI c ∧ F c) := by
  unfold bC
  rw [h]
  simp (decide := true) only [true_and, false_and, or_false, false_or, true_or, or_true]
def RIc (k : Nat → Int32) (n : Nat) (H : Nat → Nat) (P : Nat → Prop) (i d : Nat) (r : Nat → Int32) : Prop := RI n H P i d r ∧ ∀ q, q < n → nk k q → r q = 0
theorem nk_F (h : nk k p) : ¬ bC k f s g e F p := by
  rcases h with h | h | h | h | h
  · exact (bC_0 h).mp
  · exact (bC_1 h).mp
  · exact (bC_2 h).mp
  · exact (bC_3 h).mp
  · exact (bC_8 h).mp
theorem RIc_step {P : Nat → Prop} (hW : WG k f s g n H) (hB : ∀ p, p < n → ∀ F F' : Nat → Prop, (∀ c, c < 40 → Ch k f s g p c → F c = F' c) → bC k f s g e F p = bC k f s g e F' p) (hP : ∀ p, p < n → (P p ↔ bC k f s g e P p)) (hi : i < n) (h : RIc k n H P i d r) : RIc k n H P (i + 1) d (upd r i (bP (bC k f s g e (fun c => ¬ r c = 0) i))) := by
  refine ⟨RI_step hW hB hP hi h.1, fun q hq hk => ?_⟩
  by_cases e2 : q = i
  · rw [e2, pk_us]
    rw [e2] at hk
    exact bP_f (nk_F hk)
  · rw [pk_un e2]
    exact h.2 q hq hk
theorem RIc_next {P : Nat → Prop} (h : RIc k n H P n d r) : RIc k n H P 0 (d + 1) r := ⟨RI_next h.1, h.2⟩
theorem RIc_0 {P : Nat → Prop} (hW : WG k f s g n H) (h : ∀ q, q < 40 → r q = 0) : RIc k n H P 0 0 r := ⟨RI_0 hW h, fun q hq _ => h q (by have := hW.1; omega)⟩
theorem RIc_end {P : Nat → Prop} (hH : ∀ q, q < n → H q ≤ 32) (h : RIc k n H P 0 42 r) : ∀ p, p < n → r p = bP (P p) := RI_end hH h.1
theorem upd_id (r : Nat → Int32) {i : Nat} {x : Int32} (h : r i = x) : upd r i x = r := by
  funext q
  by_cases e : q = i
  · rw [e, pk_us, h]
  · rw [pk_un e]
end BC
set_option maxHeartbeats 4000000 in
set_option maxRecDepth 100000 in
theorem lp_R_comes_in {Z : vg_Z} (hst : vg_St Z) {G : vg_G} {post : Option Value → va_W → Prop} (C : vg_C Z M_R_comes G) (hQ : vg_Rt Z G 0 0 post) (ad : Nat → Nat) (σ : sg) (n : Nat) (H : Nat → Nat) (hG : GrR σ n H) (hH : ∀ q, q < n → H q ≤ 32) (p0 : Nat) (hp0 : p0 < n) (e : Int32) (d : Nat) (hk : ∀ r, RIc (σ.1 118) n H ((fun c => Cm (σ.1 118) (σ.1 119) (σ.1 120) (σ.1 122) c e)) n d r → vg_K Z M_R_comes G 0 0 226 [(3, .int (nI d)), (0, .ref (ad 117)), (1, .int (nI p0)), (2, .int e)] [] (wd Z ad (sI σ 134 r))) : ∀ (n2 i : Nat) (r : Nat → Int32) (hlt : n < i + n2) (hi : i ≤ n), RIc (σ.1 118) n H ((fun c => Cm (σ.1 118) (σ.1 119) (σ.1 120) (σ.1 122) c e)) i d r → vg_K Z M_R_comes G 0 0 32 [(4, .int (nI i)), (3, .int (nI d)), (0, .ref (ad 117)), (1, .int (nI p0)), (2, .int e)] [] (wd Z ad (sI σ 134 r)) := by
  have hn := hG.1.1.1
  intro n2
  induction n2 with
  | zero =>
    intro i r hlt hi
    exact absurd hlt (by omega)
  | succ n2 ih =>
    intro i r hlt hi hI
    have S : i < n → ∀ X : Int32, X = bP ((bC (σ.1 118) (σ.1 119) (σ.1 120) (σ.1 122) e) (fun c => ¬ r c = 0) i) → vg_K Z M_R_comes G 0 0 220 [(4, .int (nI i)), (3, .int (nI d)), (0, .ref (ad 117)), (1, .int (nI p0)), (2, .int e)] [] (wd Z ad (sI σ 134 (upd r i X))) := by
      intro hin X hX
      refine vg_iinc (v := nI (i + 1)) C d_R_comes_220 rfl (nI_1 i) (Nat.le_of_ble_eq_true rfl) rfl ?_
      refine vg_goto (tgt := 32) C d_R_comes_223 (by decide) ?_
      exact ih (i + 1) _ (by omega) (by omega) (by rw [hX]; exact RIc_step hG.1.1 (bC_cg hG.1.1) (fun p hp => Cm_un hG.1.1 hp) hin hI)
    refine vg_iload C d_R_comes_32 rfl ?_
    refine vg_aload_n C d_R_comes_34 rfl ?_
    refine wr_get C d_R_comes_35 f_R_73 rfl rfl rfl rfl ?_
    rw [sI_ne _ (by decide), hG.2]
    refine vg_icmp_ge (tgt := 226) C d_R_comes_38 (by decide) (fun c_38 => ?_) (fun c_38 => ?_)
    · rw [nI_leI (by omega) (by omega)] at c_38
      refine vg_lv [1, 2, 3, 4] rfl ?_
      exact hk r (by rw [show n = i by omega] at hI ⊢; exact hI)
    · rw [nI_leI (by omega) (by omega)] at c_38
      refine vg_aload_n C d_R_comes_41 rfl ?_
      refine wr_get C d_R_comes_42 f_R_7 rfl rfl rfl rfl ?_
      refine vg_iload C d_R_comes_45 rfl ?_
      refine wr_iald C d_R_comes_47 rfl rfl (by exact vp_in_nI (by omega) (by decide)) ?_
      rw [nI_clamp (by omega), sI_ne _ (by decide)]
      refine vg_istore C d_R_comes_48 (Nat.le_of_ble_eq_true rfl) rfl ?_
      obtain ⟨j, hj, es⟩ := hG.1.2 i (by omega)
      rcases (show j = 0 ∨ j = 1 ∨ j = 2 ∨ j = 3 ∨ j = 4 ∨ j = 5 ∨ j = 6 ∨ j = 7 ∨ j = 8 ∨ j = 9 ∨ j = 10 by omega) with rfl | rfl | rfl | rfl | rfl | rfl | rfl | rfl | rfl | rfl | rfl
      · rw [es]
        refine vg_iload C d_R_comes_50 rfl ?_
        refine vg_bipush (v := 10) C d_R_comes_52 (by decide) ?_
        refine vg_icmp_ne (tgt := 115) C d_R_comes_54 (by decide) (fun _ => ?_) (fun c_54 => absurd c_54 (by decide))
        refine vg_iload C d_R_comes_115 rfl ?_
        refine vg_iconst (v := 4) C d_R_comes_117 (by decide) ?_
        refine vg_bipush (v := 6) C d_R_comes_118 (by decide) ?_
        refine vg_callS (As := [_, _, _]) C (c_R_in Z hst ad _ (nI 0) 4 6) l_R_comes_R_in k_R_76 rfl rfl (Nat.le_of_ble_eq_true rfl) d_R_comes_120 ⟨Nat.le_of_ble_eq_true rfl, Nat.le_of_ble_eq_true rfl⟩ (fun v_120 w_120 h_120 => ?_)
        obtain ⟨rfl, rfl⟩ := h_120
        refine vg_if_eq (tgt := 168) C d_R_comes_123 (by decide) (fun _ => ?_) (fun c_123 => absurd (bP_f (by decide)) c_123)
        refine vg_iload C d_R_comes_168 rfl ?_
        refine vg_bipush (v := 7) C d_R_comes_170 (by decide) ?_
        refine vg_icmp_ne (tgt := 194) C d_R_comes_172 (by decide) (fun _ => ?_) (fun c_172 => absurd c_172 (by decide))
        refine vg_iload C d_R_comes_194 rfl ?_
        refine vg_bipush (v := 9) C d_R_comes_196 (by decide) ?_
        refine vg_icmp_ne (tgt := 220) C d_R_comes_198 (by decide) (fun _ => ?_) (fun c_198 => absurd c_198 (by decide))
        refine vg_lv [1, 2, 3, 4, 5] rfl ?_
        (try rw [nI_clamp (show i < 2 ^ 31 by omega)])
        have z := S (by omega) 0 (bP_f (bC_0 es).mp).symm
        rw [upd_id r (hI.2 i (by omega) (by rw [nk, es]; decide))] at z
        exact z
      · rw [es]
        refine vg_iload C d_R_comes_50 rfl ?_
        refine vg_bipush (v := 10) C d_R_comes_52 (by decide) ?_
        refine vg_icmp_ne (tgt := 115) C d_R_comes_54 (by decide) (fun _ => ?_) (fun c_54 => absurd c_54 (by decide))
        refine vg_iload C d_R_comes_115 rfl ?_
        refine vg_iconst (v := 4) C d_R_comes_117 (by decide) ?_
        refine vg_bipush (v := 6) C d_R_comes_118 (by decide) ?_
        refine vg_callS (As := [_, _, _]) C (c_R_in Z hst ad _ (nI 1) 4 6) l_R_comes_R_in k_R_76 rfl rfl (Nat.le_of_ble_eq_true rfl) d_R_comes_120 ⟨Nat.le_of_ble_eq_true rfl, Nat.le_of_ble_eq_true rfl⟩ (fun v_120 w_120 h_120 => ?_)
        obtain ⟨rfl, rfl⟩ := h_120
        refine vg_if_eq (tgt := 168) C d_R_comes_123 (by decide) (fun _ => ?_) (fun c_123 => absurd (bP_f (by decide)) c_123)
        refine vg_iload C d_R_comes_168 rfl ?_
        refine vg_bipush (v := 7) C d_R_comes_170 (by decide) ?_
        refine vg_icmp_ne (tgt := 194) C d_R_comes_172 (by decide) (fun _ => ?_) (fun c_172 => absurd c_172 (by decide))
        refine vg_iload C d_R_comes_194 rfl ?_
        refine vg_bipush (v := 9) C d_R_comes_196 (by decide) ?_
        refine vg_icmp_ne (tgt := 220) C d_R_comes_198 (by decide) (fun _ => ?_) (fun c_198 => absurd c_198 (by decide))
        refine vg_lv [1, 2, 3, 4, 5] rfl ?_
        (try rw [nI_clamp (show i < 2 ^ 31 by omega)])
        have z := S (by omega) 0 (bP_f (bC_1 es).mp).symm
        rw [upd_id r (hI.2 i (by omega) (by rw [nk, es]; decide))] at z
        exact z
      · rw [es]
        refine vg_iload C d_R_comes_50 rfl ?_
        refine vg_bipush (v := 10) C d_R_comes_52 (by decide) ?_
        refine vg_icmp_ne (tgt := 115) C d_R_comes_54 (by decide) (fun _ => ?_) (fun c_54 => absurd c_54 (by decide))
        refine vg_iload C d_R_comes_115 rfl ?_
        refine vg_iconst (v := 4) C d_R_comes_117 (by decide) ?_
        refine vg_bipush (v := 6) C d_R_comes_118 (by decide) ?_
        refine vg_callS (As := [_, _, _]) C (c_R_in Z hst ad _ (nI 2) 4 6) l_R_comes_R_in k_R_76 rfl rfl (Nat.le_of_ble_eq_true rfl) d_R_comes_120 ⟨Nat.le_of_ble_eq_true rfl, Nat.le_of_ble_eq_true rfl⟩ (fun v_120 w_120 h_120 => ?_)
        obtain ⟨rfl, rfl⟩ := h_120
        refine vg_if_eq (tgt := 168) C d_R_comes_123 (by decide) (fun _ => ?_) (fun c_123 => absurd (bP_f (by decide)) c_123)
        refine vg_iload C d_R_comes_168 rfl ?_
        refine vg_bipush (v := 7) C d_R_comes_170 (by decide) ?_
        refine vg_icmp_ne (tgt := 194) C d_R_comes_172 (by decide) (fun _ => ?_) (fun c_172 => absurd c_172 (by decide))
        refine vg_iload C d_R_comes_194 rfl ?_
        refine vg_bipush (v := 9) C d_R_comes_196 (by decide) ?_
        refine vg_icmp_ne (tgt := 220) C d_R_comes_198 (by decide) (fun _ => ?_) (fun c_198 => absurd c_198 (by decide))
        refine vg_lv [1, 2, 3, 4, 5] rfl ?_
        (try rw [nI_clamp (show i < 2 ^ 31 by omega)])
        have z := S (by omega) 0 (bP_f (bC_2 es).mp).symm
        rw [upd_id r (hI.2 i (by omega) (by rw [nk, es]; decide))] at z
        exact z
      · rw [es]
        refine vg_iload C d_R_comes_50 rfl ?_
        refine vg_bipush (v := 10) C d_R_comes_52 (by decide) ?_
        refine vg_icmp_ne (tgt := 115) C d_R_comes_54 (by decide) (fun _ => ?_) (fun c_54 => absurd c_54 (by decide))
        refine vg_iload C d_R_comes_115 rfl ?_
        refine vg_iconst (v := 4) C d_R_comes_117 (by decide) ?_
        refine vg_bipush (v := 6) C d_R_comes_118 (by decide) ?_
        refine vg_callS (As := [_, _, _]) C (c_R_in Z hst ad _ (nI 3) 4 6) l_R_comes_R_in k_R_76 rfl rfl (Nat.le_of_ble_eq_true rfl) d_R_comes_120 ⟨Nat.le_of_ble_eq_true rfl, Nat.le_of_ble_eq_true rfl⟩ (fun v_120 w_120 h_120 => ?_)
        obtain ⟨rfl, rfl⟩ := h_120
        refine vg_if_eq (tgt := 168) C d_R_comes_123 (by decide) (fun _ => ?_) (fun c_123 => absurd (bP_f (by decide)) c_123)
        refine vg_iload C d_R_comes_168 rfl ?_
        refine vg_bipush (v := 7) C d_R_comes_170 (by decide) ?_
        refine vg_icmp_ne (tgt := 194) C d_R_comes_172 (by decide) (fun _ => ?_) (fun c_172 => absurd c_172 (by decide))
        refine vg_iload C d_R_comes_194 rfl ?_
        refine vg_bipush (v := 9) C d_R_comes_196 (by decide) ?_
        refine vg_icmp_ne (tgt := 220) C d_R_comes_198 (by decide) (fun _ => ?_) (fun c_198 => absurd c_198 (by decide))
        refine vg_lv [1, 2, 3, 4, 5] rfl ?_
        (try rw [nI_clamp (show i < 2 ^ 31 by omega)])
        have z := S (by omega) 0 (bP_f (bC_3 es).mp).symm
        rw [upd_id r (hI.2 i (by omega) (by rw [nk, es]; decide))] at z
        exact z
      · rw [es]
        refine vg_iload C d_R_comes_50 rfl ?_
        refine vg_bipush (v := 10) C d_R_comes_52 (by decide) ?_
        refine vg_icmp_ne (tgt := 115) C d_R_comes_54 (by decide) (fun _ => ?_) (fun c_54 => absurd c_54 (by decide))
        refine vg_iload C d_R_comes_115 rfl ?_
        refine vg_iconst (v := 4) C d_R_comes_117 (by decide) ?_
        refine vg_bipush (v := 6) C d_R_comes_118 (by decide) ?_
        refine vg_callS (As := [_, _, _]) C (c_R_in Z hst ad _ (nI 4) 4 6) l_R_comes_R_in k_R_76 rfl rfl (Nat.le_of_ble_eq_true rfl) d_R_comes_120 ⟨Nat.le_of_ble_eq_true rfl, Nat.le_of_ble_eq_true rfl⟩ (fun v_120 w_120 h_120 => ?_)
        obtain ⟨rfl, rfl⟩ := h_120
        refine vg_if_eq (tgt := 168) C d_R_comes_123 (by decide) (fun c_123 => absurd c_123 (fun h => absurd (by decide) (bP_eq.mp h))) (fun _ => ?_)
        obtain ⟨ca, ea, -⟩ := Ch_f hG.1.1 (p := i) (by omega) (by rw [es]; decide)
        obtain ⟨cb, eb, -⟩ := Ch_s hG.1.1 (p := i) (by omega) (by rw [es]; decide)
        refine vg_aload_n C d_R_comes_126 rfl ?_
        refine wr_get C d_R_comes_127 f_R_64 rfl rfl rfl rfl ?_
        refine vg_iload C d_R_comes_130 rfl ?_
        refine vg_aload_n C d_R_comes_132 rfl ?_
        refine wr_get C d_R_comes_133 f_R_64 rfl rfl rfl rfl ?_
        refine vg_aload_n C d_R_comes_136 rfl ?_
        refine wr_get C d_R_comes_137 f_R_13 rfl rfl rfl rfl ?_
        refine vg_iload C d_R_comes_140 rfl ?_
        refine wr_iald C d_R_comes_142 rfl rfl (by exact vp_in_nI (by omega) (by decide)) ?_
        rw [nI_clamp (by omega), sI_ne _ (by decide)]
        rw [ea]
        refine wr_zald C d_R_comes_143 rfl rfl (by exact vp_in_nI (by omega) (by decide)) ?_
        rw [nI_clamp (by omega), sI_at]
        refine vg_if_ne (tgt := 162) C d_R_comes_144 (by decide) (fun c_144 => ?_) (fun c_144 => ?_)
        · skip
          refine vg_iconst (v := 1) C d_R_comes_162 (by decide) ?_
          refine vg_goto (tgt := 167) C d_R_comes_163 (by decide) ?_
          refine wr_zast C d_R_comes_167 rfl rfl (by exact vp_in_nI (by omega) (by decide)) ?_
          refine vg_iload C d_R_comes_168 rfl ?_
          refine vg_bipush (v := 7) C d_R_comes_170 (by decide) ?_
          refine vg_icmp_ne (tgt := 194) C d_R_comes_172 (by decide) (fun _ => ?_) (fun c_172 => absurd c_172 (by decide))
          refine vg_iload C d_R_comes_194 rfl ?_
          refine vg_bipush (v := 9) C d_R_comes_196 (by decide) ?_
          refine vg_icmp_ne (tgt := 220) C d_R_comes_198 (by decide) (fun _ => ?_) (fun c_198 => absurd c_198 (by decide))
          refine vg_lv [1, 2, 3, 4, 5] rfl ?_
          (try rw [nI_clamp (show i < 2 ^ 31 by omega)])
          rw [sI_sI, sI_at]
          refine S (by omega) _ ?_
          first
            | exact (bP_t ((bC_4 es).mpr (Or.inl c_144))).symm
            | exact (bP_t ((bC_4 es).mpr (Or.inr c_159))).symm
            | exact (bP_f (fun h => ((bC_4 es).mp h).elim (fun z => absurd c_144 z) (fun z => absurd c_159 z))).symm
        · skip
          refine vg_aload_n C d_R_comes_147 rfl ?_
          refine wr_get C d_R_comes_148 f_R_64 rfl rfl rfl rfl ?_
          refine vg_aload_n C d_R_comes_151 rfl ?_
          refine wr_get C d_R_comes_152 f_R_16 rfl rfl rfl rfl ?_
          refine vg_iload C d_R_comes_155 rfl ?_
          refine wr_iald C d_R_comes_157 rfl rfl (by exact vp_in_nI (by omega) (by decide)) ?_
          rw [nI_clamp (by omega), sI_ne _ (by decide)]
          rw [eb]
          refine wr_zald C d_R_comes_158 rfl rfl (by exact vp_in_nI (by omega) (by decide)) ?_
          rw [nI_clamp (by omega), sI_at]
          refine vg_if_eq (tgt := 166) C d_R_comes_159 (by decide) (fun c_159 => ?_) (fun c_159 => ?_)
          · skip
            refine vg_iconst (v := 0) C d_R_comes_166 (by decide) ?_
            refine wr_zast C d_R_comes_167 rfl rfl (by exact vp_in_nI (by omega) (by decide)) ?_
            refine vg_iload C d_R_comes_168 rfl ?_
            refine vg_bipush (v := 7) C d_R_comes_170 (by decide) ?_
            refine vg_icmp_ne (tgt := 194) C d_R_comes_172 (by decide) (fun _ => ?_) (fun c_172 => absurd c_172 (by decide))
            refine vg_iload C d_R_comes_194 rfl ?_
            refine vg_bipush (v := 9) C d_R_comes_196 (by decide) ?_
            refine vg_icmp_ne (tgt := 220) C d_R_comes_198 (by decide) (fun _ => ?_) (fun c_198 => absurd c_198 (by decide))
            refine vg_lv [1, 2, 3, 4, 5] rfl ?_
            (try rw [nI_clamp (show i < 2 ^ 31 by omega)])
            rw [sI_sI, sI_at]
            refine S (by omega) _ ?_
            first
              | exact (bP_t ((bC_4 es).mpr (Or.inl c_144))).symm
              | exact (bP_t ((bC_4 es).mpr (Or.inr c_159))).symm
              | exact (bP_f (fun h => ((bC_4 es).mp h).elim (fun z => absurd c_144 z) (fun z => absurd c_159 z))).symm
          · skip
            refine vg_iconst (v := 1) C d_R_comes_162 (by decide) ?_
            refine vg_goto (tgt := 167) C d_R_comes_163 (by decide) ?_
            refine wr_zast C d_R_comes_167 rfl rfl (by exact vp_in_nI (by omega) (by decide)) ?_
            refine vg_iload C d_R_comes_168 rfl ?_
            refine vg_bipush (v := 7) C d_R_comes_170 (by decide) ?_
            refine vg_icmp_ne (tgt := 194) C d_R_comes_172 (by decide) (fun _ => ?_) (fun c_172 => absurd c_172 (by decide))
            refine vg_iload C d_R_comes_194 rfl ?_
            refine vg_bipush (v := 9) C d_R_comes_196 (by decide) ?_
            refine vg_icmp_ne (tgt := 220) C d_R_comes_198 (by decide) (fun _ => ?_) (fun c_198 => absurd c_198 (by decide))
            refine vg_lv [1, 2, 3, 4, 5] rfl ?_
            (try rw [nI_clamp (show i < 2 ^ 31 by omega)])
            rw [sI_sI, sI_at]
            refine S (by omega) _ ?_
            first
              | exact (bP_t ((bC_4 es).mpr (Or.inl c_144))).symm
              | exact (bP_t ((bC_4 es).mpr (Or.inr c_159))).symm
              | exact (bP_f (fun h => ((bC_4 es).mp h).elim (fun z => absurd c_144 z) (fun z => absurd c_159 z))).symm
      · rw [es]
        refine vg_iload C d_R_comes_50 rfl ?_
        refine vg_bipush (v := 10) C d_R_comes_52 (by decide) ?_
        refine vg_icmp_ne (tgt := 115) C d_R_comes_54 (by decide) (fun _ => ?_) (fun c_54 => absurd c_54 (by decide))
        refine vg_iload C d_R_comes_115 rfl ?_
        refine vg_iconst (v := 4) C d_R_comes_117 (by decide) ?_
        refine vg_bipush (v := 6) C d_R_comes_118 (by decide) ?_
        refine vg_callS (As := [_, _, _]) C (c_R_in Z hst ad _ (nI 5) 4 6) l_R_comes_R_in k_R_76 rfl rfl (Nat.le_of_ble_eq_true rfl) d_R_comes_120 ⟨Nat.le_of_ble_eq_true rfl, Nat.le_of_ble_eq_true rfl⟩ (fun v_120 w_120 h_120 => ?_)
        obtain ⟨rfl, rfl⟩ := h_120
        refine vg_if_eq (tgt := 168) C d_R_comes_123 (by decide) (fun c_123 => absurd c_123 (fun h => absurd (by decide) (bP_eq.mp h))) (fun _ => ?_)
        obtain ⟨ca, ea, -⟩ := Ch_f hG.1.1 (p := i) (by omega) (by rw [es]; decide)
        obtain ⟨cb, eb, -⟩ := Ch_s hG.1.1 (p := i) (by omega) (by rw [es]; decide)
        refine vg_aload_n C d_R_comes_126 rfl ?_
        refine wr_get C d_R_comes_127 f_R_64 rfl rfl rfl rfl ?_
        refine vg_iload C d_R_comes_130 rfl ?_
        refine vg_aload_n C d_R_comes_132 rfl ?_
        refine wr_get C d_R_comes_133 f_R_64 rfl rfl rfl rfl ?_
        refine vg_aload_n C d_R_comes_136 rfl ?_
        refine wr_get C d_R_comes_137 f_R_13 rfl rfl rfl rfl ?_
        refine vg_iload C d_R_comes_140 rfl ?_
        refine wr_iald C d_R_comes_142 rfl rfl (by exact vp_in_nI (by omega) (by decide)) ?_
        rw [nI_clamp (by omega), sI_ne _ (by decide)]
        rw [ea]
        refine wr_zald C d_R_comes_143 rfl rfl (by exact vp_in_nI (by omega) (by decide)) ?_
        rw [nI_clamp (by omega), sI_at]
        refine vg_if_ne (tgt := 162) C d_R_comes_144 (by decide) (fun c_144 => ?_) (fun c_144 => ?_)
        · skip
          refine vg_iconst (v := 1) C d_R_comes_162 (by decide) ?_
          refine vg_goto (tgt := 167) C d_R_comes_163 (by decide) ?_
          refine wr_zast C d_R_comes_167 rfl rfl (by exact vp_in_nI (by omega) (by decide)) ?_
          refine vg_iload C d_R_comes_168 rfl ?_
          refine vg_bipush (v := 7) C d_R_comes_170 (by decide) ?_
          refine vg_icmp_ne (tgt := 194) C d_R_comes_172 (by decide) (fun _ => ?_) (fun c_172 => absurd c_172 (by decide))
          refine vg_iload C d_R_comes_194 rfl ?_
          refine vg_bipush (v := 9) C d_R_comes_196 (by decide) ?_
          refine vg_icmp_ne (tgt := 220) C d_R_comes_198 (by decide) (fun _ => ?_) (fun c_198 => absurd c_198 (by decide))
          refine vg_lv [1, 2, 3, 4, 5] rfl ?_
          (try rw [nI_clamp (show i < 2 ^ 31 by omega)])
          rw [sI_sI, sI_at]
          refine S (by omega) _ ?_
          first
            | exact (bP_t ((bC_5 es).mpr (Or.inl c_144))).symm
            | exact (bP_t ((bC_5 es).mpr (Or.inr c_159))).symm
            | exact (bP_f (fun h => ((bC_5 es).mp h).elim (fun z => absurd c_144 z) (fun z => absurd c_159 z))).symm
        · skip
          refine vg_aload_n C d_R_comes_147 rfl ?_
          refine wr_get C d_R_comes_148 f_R_64 rfl rfl rfl rfl ?_
          refine vg_aload_n C d_R_comes_151 rfl ?_
          refine wr_get C d_R_comes_152 f_R_16 rfl rfl rfl rfl ?_
          refine vg_iload C d_R_comes_155 rfl ?_
          refine wr_iald C d_R_comes_157 rfl rfl (by exact vp_in_nI (by omega) (by decide)) ?_
          rw [nI_clamp (by omega), sI_ne _ (by decide)]
          rw [eb]
          refine wr_zald C d_R_comes_158 rfl rfl (by exact vp_in_nI (by omega) (by decide)) ?_
          rw [nI_clamp (by omega), sI_at]
          refine vg_if_eq (tgt := 166) C d_R_comes_159 (by decide) (fun c_159 => ?_) (fun c_159 => ?_)
          · skip
            refine vg_iconst (v := 0) C d_R_comes_166 (by decide) ?_
            refine wr_zast C d_R_comes_167 rfl rfl (by exact vp_in_nI (by omega) (by decide)) ?_
            refine vg_iload C d_R_comes_168 rfl ?_
            refine vg_bipush (v := 7) C d_R_comes_170 (by decide) ?_
            refine vg_icmp_ne (tgt := 194) C d_R_comes_172 (by decide) (fun _ => ?_) (fun c_172 => absurd c_172 (by decide))
            refine vg_iload C d_R_comes_194 rfl ?_
            refine vg_bipush (v := 9) C d_R_comes_196 (by decide) ?_
            refine vg_icmp_ne (tgt := 220) C d_R_comes_198 (by decide) (fun _ => ?_) (fun c_198 => absurd c_198 (by decide))
            refine vg_lv [1, 2, 3, 4, 5] rfl ?_
            (try rw [nI_clamp (show i < 2 ^ 31 by omega)])
            rw [sI_sI, sI_at]
            refine S (by omega) _ ?_
            first
              | exact (bP_t ((bC_5 es).mpr (Or.inl c_144))).symm
              | exact (bP_t ((bC_5 es).mpr (Or.inr c_159))).symm
              | exact (bP_f (fun h => ((bC_5 es).mp h).elim (fun z => absurd c_144 z) (fun z => absurd c_159 z))).symm
          · skip
            refine vg_iconst (v := 1) C d_R_comes_162 (by decide) ?_
            refine vg_goto (tgt := 167) C d_R_comes_163 (by decide) ?_
            refine wr_zast C d_R_comes_167 rfl rfl (by exact vp_in_nI (by omega) (by decide)) ?_
            refine vg_iload C d_R_comes_168 rfl ?_
            refine vg_bipush (v := 7) C d_R_comes_170 (by decide) ?_
            refine vg_icmp_ne (tgt := 194) C d_R_comes_172 (by decide) (fun _ => ?_) (fun c_172 => absurd c_172 (by decide))
            refine vg_iload C d_R_comes_194 rfl ?_
            refine vg_bipush (v := 9) C d_R_comes_196 (by decide) ?_
            refine vg_icmp_ne (tgt := 220) C d_R_comes_198 (by decide) (fun _ => ?_) (fun c_198 => absurd c_198 (by decide))
            refine vg_lv [1, 2, 3, 4, 5] rfl ?_
            (try rw [nI_clamp (show i < 2 ^ 31 by omega)])
            rw [sI_sI, sI_at]
            refine S (by omega) _ ?_
            first
              | exact (bP_t ((bC_5 es).mpr (Or.inl c_144))).symm
              | exact (bP_t ((bC_5 es).mpr (Or.inr c_159))).symm
              | exact (bP_f (fun h => ((bC_5 es).mp h).elim (fun z => absurd c_144 z) (fun z => absurd c_159 z))).symm
      · rw [es]
        refine vg_iload C d_R_comes_50 rfl ?_
        refine vg_bipush (v := 10) C d_R_comes_52 (by decide) ?_
        refine vg_icmp_ne (tgt := 115) C d_R_comes_54 (by decide) (fun _ => ?_) (fun c_54 => absurd c_54 (by decide))
        refine vg_iload C d_R_comes_115 rfl ?_
        refine vg_iconst (v := 4) C d_R_comes_117 (by decide) ?_
        refine vg_bipush (v := 6) C d_R_comes_118 (by decide) ?_
        refine vg_callS (As := [_, _, _]) C (c_R_in Z hst ad _ (nI 6) 4 6) l_R_comes_R_in k_R_76 rfl rfl (Nat.le_of_ble_eq_true rfl) d_R_comes_120 ⟨Nat.le_of_ble_eq_true rfl, Nat.le_of_ble_eq_true rfl⟩ (fun v_120 w_120 h_120 => ?_)
        obtain ⟨rfl, rfl⟩ := h_120
        refine vg_if_eq (tgt := 168) C d_R_comes_123 (by decide) (fun c_123 => absurd c_123 (fun h => absurd (by decide) (bP_eq.mp h))) (fun _ => ?_)
        obtain ⟨ca, ea, -⟩ := Ch_f hG.1.1 (p := i) (by omega) (by rw [es]; decide)
        obtain ⟨cb, eb, -⟩ := Ch_s hG.1.1 (p := i) (by omega) (by rw [es]; decide)
        refine vg_aload_n C d_R_comes_126 rfl ?_
        refine wr_get C d_R_comes_127 f_R_64 rfl rfl rfl rfl ?_
        refine vg_iload C d_R_comes_130 rfl ?_
        refine vg_aload_n C d_R_comes_132 rfl ?_
        refine wr_get C d_R_comes_133 f_R_64 rfl rfl rfl rfl ?_
        refine vg_aload_n C d_R_comes_136 rfl ?_
        refine wr_get C d_R_comes_137 f_R_13 rfl rfl rfl rfl ?_
        refine vg_iload C d_R_comes_140 rfl ?_
        refine wr_iald C d_R_comes_142 rfl rfl (by exact vp_in_nI (by omega) (by decide)) ?_
        rw [nI_clamp (by omega), sI_ne _ (by decide)]
        rw [ea]
        refine wr_zald C d_R_comes_143 rfl rfl (by exact vp_in_nI (by omega) (by decide)) ?_
        rw [nI_clamp (by omega), sI_at]
        refine vg_if_ne (tgt := 162) C d_R_comes_144 (by decide) (fun c_144 => ?_) (fun c_144 => ?_)
        · skip
          refine vg_iconst (v := 1) C d_R_comes_162 (by decide) ?_
          refine vg_goto (tgt := 167) C d_R_comes_163 (by decide) ?_
          refine wr_zast C d_R_comes_167 rfl rfl (by exact vp_in_nI (by omega) (by decide)) ?_
          refine vg_iload C d_R_comes_168 rfl ?_
          refine vg_bipush (v := 7) C d_R_comes_170 (by decide) ?_
          refine vg_icmp_ne (tgt := 194) C d_R_comes_172 (by decide) (fun _ => ?_) (fun c_172 => absurd c_172 (by decide))
          refine vg_iload C d_R_comes_194 rfl ?_
          refine vg_bipush (v := 9) C d_R_comes_196 (by decide) ?_
          refine vg_icmp_ne (tgt := 220) C d_R_comes_198 (by decide) (fun _ => ?_) (fun c_198 => absurd c_198 (by decide))
          refine vg_lv [1, 2, 3, 4, 5] rfl ?_
          (try rw [nI_clamp (show i < 2 ^ 31 by omega)])
          rw [sI_sI, sI_at]
          refine S (by omega) _ ?_
          first
            | exact (bP_t ((bC_6 es).mpr (Or.inl c_144))).symm
            | exact (bP_t ((bC_6 es).mpr (Or.inr c_159))).symm
            | exact (bP_f (fun h => ((bC_6 es).mp h).elim (fun z => absurd c_144 z) (fun z => absurd c_159 z))).symm
        · skip
          refine vg_aload_n C d_R_comes_147 rfl ?_
          refine wr_get C d_R_comes_148 f_R_64 rfl rfl rfl rfl ?_
          refine vg_aload_n C d_R_comes_151 rfl ?_
          refine wr_get C d_R_comes_152 f_R_16 rfl rfl rfl rfl ?_
          refine vg_iload C d_R_comes_155 rfl ?_
          refine wr_iald C d_R_comes_157 rfl rfl (by exact vp_in_nI (by omega) (by decide)) ?_
          rw [nI_clamp (by omega), sI_ne _ (by decide)]
          rw [eb]
          refine wr_zald C d_R_comes_158 rfl rfl (by exact vp_in_nI (by omega) (by decide)) ?_
          rw [nI_clamp (by omega), sI_at]
          refine vg_if_eq (tgt := 166) C d_R_comes_159 (by decide) (fun c_159 => ?_) (fun c_159 => ?_)
          · skip
            refine vg_iconst (v := 0) C d_R_comes_166 (by decide) ?_
            refine wr_zast C d_R_comes_167 rfl rfl (by exact vp_in_nI (by omega) (by decide)) ?_
            refine vg_iload C d_R_comes_168 rfl ?_
            refine vg_bipush (v := 7) C d_R_comes_170 (by decide) ?_
            refine vg_icmp_ne (tgt := 194) C d_R_comes_172 (by decide) (fun _ => ?_) (fun c_172 => absurd c_172 (by decide))
            refine vg_iload C d_R_comes_194 rfl ?_
            refine vg_bipush (v := 9) C d_R_comes_196 (by decide) ?_
            refine vg_icmp_ne (tgt := 220) C d_R_comes_198 (by decide) (fun _ => ?_) (fun c_198 => absurd c_198 (by decide))
            refine vg_lv [1, 2, 3, 4, 5] rfl ?_
            (try rw [nI_clamp (show i < 2 ^ 31 by omega)])
            rw [sI_sI, sI_at]
            refine S (by omega) _ ?_
            first
              | exact (bP_t ((bC_6 es).mpr (Or.inl c_144))).symm
              | exact (bP_t ((bC_6 es).mpr (Or.inr c_159))).symm
              | exact (bP_f (fun h => ((bC_6 es).mp h).elim (fun z => absurd c_144 z) (fun z => absurd c_159 z))).symm
          · skip
            refine vg_iconst (v := 1) C d_R_comes_162 (by decide) ?_
            refine vg_goto (tgt := 167) C d_R_comes_163 (by decide) ?_
            refine wr_zast C d_R_comes_167 rfl rfl (by exact vp_in_nI (by omega) (by decide)) ?_
            refine vg_iload C d_R_comes_168 rfl ?_
            refine vg_bipush (v := 7) C d_R_comes_170 (by decide) ?_
            refine vg_icmp_ne (tgt := 194) C d_R_comes_172 (by decide) (fun _ => ?_) (fun c_172 => absurd c_172 (by decide))
            refine vg_iload C d_R_comes_194 rfl ?_
            refine vg_bipush (v := 9) C d_R_comes_196 (by decide) ?_
            refine vg_icmp_ne (tgt := 220) C d_R_comes_198 (by decide) (fun _ => ?_) (fun c_198 => absurd c_198 (by decide))
            refine vg_lv [1, 2, 3, 4, 5] rfl ?_
            (try rw [nI_clamp (show i < 2 ^ 31 by omega)])
            rw [sI_sI, sI_at]
            refine S (by omega) _ ?_
            first
              | exact (bP_t ((bC_6 es).mpr (Or.inl c_144))).symm
              | exact (bP_t ((bC_6 es).mpr (Or.inr c_159))).symm
              | exact (bP_f (fun h => ((bC_6 es).mp h).elim (fun z => absurd c_144 z) (fun z => absurd c_159 z))).symm
      · rw [es]
        refine vg_iload C d_R_comes_50 rfl ?_
        refine vg_bipush (v := 10) C d_R_comes_52 (by decide) ?_
        refine vg_icmp_ne (tgt := 115) C d_R_comes_54 (by decide) (fun _ => ?_) (fun c_54 => absurd c_54 (by decide))
        refine vg_iload C d_R_comes_115 rfl ?_
        refine vg_iconst (v := 4) C d_R_comes_117 (by decide) ?_
        refine vg_bipush (v := 6) C d_R_comes_118 (by decide) ?_
        refine vg_callS (As := [_, _, _]) C (c_R_in Z hst ad _ (nI 7) 4 6) l_R_comes_R_in k_R_76 rfl rfl (Nat.le_of_ble_eq_true rfl) d_R_comes_120 ⟨Nat.le_of_ble_eq_true rfl, Nat.le_of_ble_eq_true rfl⟩ (fun v_120 w_120 h_120 => ?_)
        obtain ⟨rfl, rfl⟩ := h_120
        refine vg_if_eq (tgt := 168) C d_R_comes_123 (by decide) (fun _ => ?_) (fun c_123 => absurd (bP_f (by decide)) c_123)
        refine vg_iload C d_R_comes_168 rfl ?_
        refine vg_bipush (v := 7) C d_R_comes_170 (by decide) ?_
        refine vg_icmp_ne (tgt := 194) C d_R_comes_172 (by decide) (fun c_172 => absurd (by decide) c_172) (fun _ => ?_)
        obtain ⟨ca, ea, -⟩ := Ch_f hG.1.1 (p := i) (by omega) (by rw [es]; decide)
        refine vg_aload_n C d_R_comes_175 rfl ?_
        refine wr_get C d_R_comes_176 f_R_64 rfl rfl rfl rfl ?_
        refine vg_iload C d_R_comes_179 rfl ?_
        refine vg_aload_n C d_R_comes_181 rfl ?_
        refine wr_get C d_R_comes_182 f_R_64 rfl rfl rfl rfl ?_
        refine vg_aload_n C d_R_comes_185 rfl ?_
        refine wr_get C d_R_comes_186 f_R_13 rfl rfl rfl rfl ?_
        refine vg_iload C d_R_comes_189 rfl ?_
        refine wr_iald C d_R_comes_191 rfl rfl (by exact vp_in_nI (by omega) (by decide)) ?_
        rw [nI_clamp (by omega), sI_ne _ (by decide)]
        rw [ea]
        refine wr_zald C d_R_comes_192 rfl rfl (by exact vp_in_nI (by omega) (by decide)) ?_
        rw [nI_clamp (by omega), sI_at]
        refine wr_zast C d_R_comes_193 rfl rfl (by exact vp_in_nI (by omega) (by decide)) ?_
        refine vg_iload C d_R_comes_194 rfl ?_
        refine vg_bipush (v := 9) C d_R_comes_196 (by decide) ?_
        refine vg_icmp_ne (tgt := 220) C d_R_comes_198 (by decide) (fun _ => ?_) (fun c_198 => absurd c_198 (by decide))
        refine vg_lv [1, 2, 3, 4, 5] rfl ?_
        (try rw [nI_clamp (show i < 2 ^ 31 by omega)])
        rw [sI_sI, sI_at]
        refine S (by omega) _ ?_
        first
          | (rw [hI.1.1 _ ca, nar_b]; exact bP_congr (bC_7 (F := fun c => ¬ r c = 0) es).symm)
      · rw [es]
        refine vg_iload C d_R_comes_50 rfl ?_
        refine vg_bipush (v := 10) C d_R_comes_52 (by decide) ?_
        refine vg_icmp_ne (tgt := 115) C d_R_comes_54 (by decide) (fun _ => ?_) (fun c_54 => absurd c_54 (by decide))
        refine vg_iload C d_R_comes_115 rfl ?_
        refine vg_iconst (v := 4) C d_R_comes_117 (by decide) ?_
        refine vg_bipush (v := 6) C d_R_comes_118 (by decide) ?_
        refine vg_callS (As := [_, _, _]) C (c_R_in Z hst ad _ (nI 8) 4 6) l_R_comes_R_in k_R_76 rfl rfl (Nat.le_of_ble_eq_true rfl) d_R_comes_120 ⟨Nat.le_of_ble_eq_true rfl, Nat.le_of_ble_eq_true rfl⟩ (fun v_120 w_120 h_120 => ?_)
        obtain ⟨rfl, rfl⟩ := h_120
        refine vg_if_eq (tgt := 168) C d_R_comes_123 (by decide) (fun _ => ?_) (fun c_123 => absurd (bP_f (by decide)) c_123)
        refine vg_iload C d_R_comes_168 rfl ?_
        refine vg_bipush (v := 7) C d_R_comes_170 (by decide) ?_
        refine vg_icmp_ne (tgt := 194) C d_R_comes_172 (by decide) (fun _ => ?_) (fun c_172 => absurd c_172 (by decide))
        refine vg_iload C d_R_comes_194 rfl ?_
        refine vg_bipush (v := 9) C d_R_comes_196 (by decide) ?_
        refine vg_icmp_ne (tgt := 220) C d_R_comes_198 (by decide) (fun _ => ?_) (fun c_198 => absurd c_198 (by decide))
        refine vg_lv [1, 2, 3, 4, 5] rfl ?_
        (try rw [nI_clamp (show i < 2 ^ 31 by omega)])
        have z := S (by omega) 0 (bP_f (bC_8 es).mp).symm
        rw [upd_id r (hI.2 i (by omega) (by rw [nk, es]; decide))] at z
        exact z
      · rw [es]
        refine vg_iload C d_R_comes_50 rfl ?_
        refine vg_bipush (v := 10) C d_R_comes_52 (by decide) ?_
        refine vg_icmp_ne (tgt := 115) C d_R_comes_54 (by decide) (fun _ => ?_) (fun c_54 => absurd c_54 (by decide))
        refine vg_iload C d_R_comes_115 rfl ?_
        refine vg_iconst (v := 4) C d_R_comes_117 (by decide) ?_
        refine vg_bipush (v := 6) C d_R_comes_118 (by decide) ?_
        refine vg_callS (As := [_, _, _]) C (c_R_in Z hst ad _ (nI 9) 4 6) l_R_comes_R_in k_R_76 rfl rfl (Nat.le_of_ble_eq_true rfl) d_R_comes_120 ⟨Nat.le_of_ble_eq_true rfl, Nat.le_of_ble_eq_true rfl⟩ (fun v_120 w_120 h_120 => ?_)
        obtain ⟨rfl, rfl⟩ := h_120
        refine vg_if_eq (tgt := 168) C d_R_comes_123 (by decide) (fun _ => ?_) (fun c_123 => absurd (bP_f (by decide)) c_123)
        refine vg_iload C d_R_comes_168 rfl ?_
        refine vg_bipush (v := 7) C d_R_comes_170 (by decide) ?_
        refine vg_icmp_ne (tgt := 194) C d_R_comes_172 (by decide) (fun _ => ?_) (fun c_172 => absurd c_172 (by decide))
        refine vg_iload C d_R_comes_194 rfl ?_
        refine vg_bipush (v := 9) C d_R_comes_196 (by decide) ?_
        refine vg_icmp_ne (tgt := 220) C d_R_comes_198 (by decide) (fun c_198 => absurd (by decide) c_198) (fun _ => ?_)
        obtain ⟨cb, eb, -⟩ := Ch_s hG.1.1 (p := i) (by omega) (by rw [es]; decide)
        refine vg_aload_n C d_R_comes_201 rfl ?_
        refine wr_get C d_R_comes_202 f_R_64 rfl rfl rfl rfl ?_
        refine vg_iload C d_R_comes_205 rfl ?_
        refine vg_aload_n C d_R_comes_207 rfl ?_
        refine wr_get C d_R_comes_208 f_R_64 rfl rfl rfl rfl ?_
        refine vg_aload_n C d_R_comes_211 rfl ?_
        refine wr_get C d_R_comes_212 f_R_16 rfl rfl rfl rfl ?_
        refine vg_iload C d_R_comes_215 rfl ?_
        refine wr_iald C d_R_comes_217 rfl rfl (by exact vp_in_nI (by omega) (by decide)) ?_
        rw [nI_clamp (by omega), sI_ne _ (by decide)]
        rw [eb]
        refine wr_zald C d_R_comes_218 rfl rfl (by exact vp_in_nI (by omega) (by decide)) ?_
        rw [nI_clamp (by omega), sI_at]
        refine wr_zast C d_R_comes_219 rfl rfl (by exact vp_in_nI (by omega) (by decide)) ?_
        refine vg_lv [1, 2, 3, 4, 5] rfl ?_
        (try rw [nI_clamp (show i < 2 ^ 31 by omega)])
        rw [sI_sI, sI_at]
        refine S (by omega) _ ?_
        first
          | (rw [hI.1.1 _ cb, nar_b]; exact bP_congr (bC_9 (F := fun c => ¬ r c = 0) es).symm)
      · rw [es]
        refine vg_iload C d_R_comes_50 rfl ?_
        refine vg_bipush (v := 10) C d_R_comes_52 (by decide) ?_
        refine vg_icmp_ne (tgt := 115) C d_R_comes_54 (by decide) (fun c_54 => absurd (by decide) c_54) (fun _ => ?_)
        obtain ⟨dd, hd4, hfd, hgd⟩ := (hG.1.1.2 i (by omega)).2.2 (by rw [es]; rfl)
        refine vg_aload_n C d_R_comes_57 rfl ?_
        refine wr_get C d_R_comes_58 f_R_64 rfl rfl rfl rfl ?_
        refine vg_iload C d_R_comes_61 rfl ?_
        refine vg_aload_n C d_R_comes_63 rfl ?_
        refine wr_get C d_R_comes_64 f_R_13 rfl rfl rfl rfl ?_
        refine vg_iload C d_R_comes_67 rfl ?_
        refine wr_iald C d_R_comes_69 rfl rfl (by exact vp_in_nI (by omega) (by decide)) ?_
        rw [nI_clamp (by omega), sI_ne _ (by decide)]
        refine vg_iload_n C d_R_comes_70 rfl ?_
        refine vg_icmp_eq (tgt := 109) C d_R_comes_71 (by decide) (fun c_71 => ?_) (fun c_71 => ?_)
        · skip
          refine vg_iconst (v := 1) C d_R_comes_109 (by decide) ?_
          refine vg_goto (tgt := 114) C d_R_comes_110 (by decide) ?_
          refine wr_zast C d_R_comes_114 rfl rfl (by exact vp_in_nI (by omega) (by decide)) ?_
          refine vg_iload C d_R_comes_115 rfl ?_
          refine vg_iconst (v := 4) C d_R_comes_117 (by decide) ?_
          refine vg_bipush (v := 6) C d_R_comes_118 (by decide) ?_
          refine vg_callS (As := [_, _, _]) C (c_R_in Z hst ad _ (nI 10) 4 6) l_R_comes_R_in k_R_76 rfl rfl (Nat.le_of_ble_eq_true rfl) d_R_comes_120 ⟨Nat.le_of_ble_eq_true rfl, Nat.le_of_ble_eq_true rfl⟩ (fun v_120 w_120 h_120 => ?_)
          obtain ⟨rfl, rfl⟩ := h_120
          refine vg_if_eq (tgt := 168) C d_R_comes_123 (by decide) (fun _ => ?_) (fun c_123 => absurd (bP_f (by decide)) c_123)
          refine vg_iload C d_R_comes_168 rfl ?_
          refine vg_bipush (v := 7) C d_R_comes_170 (by decide) ?_
          refine vg_icmp_ne (tgt := 194) C d_R_comes_172 (by decide) (fun _ => ?_) (fun c_172 => absurd c_172 (by decide))
          refine vg_iload C d_R_comes_194 rfl ?_
          refine vg_bipush (v := 9) C d_R_comes_196 (by decide) ?_
          refine vg_icmp_ne (tgt := 220) C d_R_comes_198 (by decide) (fun _ => ?_) (fun c_198 => absurd c_198 (by decide))
          refine vg_lv [1, 2, 3, 4, 5] rfl ?_
          (try rw [nI_clamp (show i < 2 ^ 31 by omega)])
          rw [sI_sI, sI_at]
          refine S (by omega) _ ?_
          first
            | exact (bP_t ((bC_10 es).mpr (Or.inl c_71))).symm
            | exact (bP_t ((bC_10 es).mpr (Or.inr (Exists.intro c (And.intro (by omega) (And.intro (by rw [ot_e (by omega) hfd]; exact hgc) c_106)))))).symm
            | exact (bP_f (fun h => ((bC_10 es).mp h).elim c_71 (fun z => absurd c_106 (DN (show c < 40 by omega) (by rw [ot_e (by omega) hfd]; exact hgc) z)))).symm
            | exact (bP_f (fun h => ((bC_10 es).mp h).elim c_71 (fun z => DM (by rw [ot_e (by omega) hfd]; exact c_86) z))).symm
        · skip
          refine vg_aload_n C d_R_comes_74 rfl ?_
          refine wr_get C d_R_comes_75 f_R_22 rfl rfl rfl rfl ?_
          refine vg_aload_n C d_R_comes_78 rfl ?_
          refine wr_get C d_R_comes_79 f_R_13 rfl rfl rfl rfl ?_
          refine vg_iload C d_R_comes_82 rfl ?_
          refine wr_iald C d_R_comes_84 rfl rfl (by exact vp_in_nI (by omega) (by decide)) ?_
          rw [nI_clamp (by omega), sI_ne _ (by decide)]
          rw [hfd]
          refine wr_iald C d_R_comes_85 rfl rfl (by exact vp_in_nI (by omega) (by decide)) ?_
          rw [nI_clamp (by omega), sI_ne _ (by decide)]
          refine vg_if_lt (tgt := 113) C d_R_comes_86 (by decide) (fun c_86 => ?_) (fun c_86 => ?_)
          · skip
            refine vg_iconst (v := 0) C d_R_comes_113 (by decide) ?_
            refine wr_zast C d_R_comes_114 rfl rfl (by exact vp_in_nI (by omega) (by decide)) ?_
            refine vg_iload C d_R_comes_115 rfl ?_
            refine vg_iconst (v := 4) C d_R_comes_117 (by decide) ?_
            refine vg_bipush (v := 6) C d_R_comes_118 (by decide) ?_
            refine vg_callS (As := [_, _, _]) C (c_R_in Z hst ad _ (nI 10) 4 6) l_R_comes_R_in k_R_76 rfl rfl (Nat.le_of_ble_eq_true rfl) d_R_comes_120 ⟨Nat.le_of_ble_eq_true rfl, Nat.le_of_ble_eq_true rfl⟩ (fun v_120 w_120 h_120 => ?_)
            obtain ⟨rfl, rfl⟩ := h_120
            refine vg_if_eq (tgt := 168) C d_R_comes_123 (by decide) (fun _ => ?_) (fun c_123 => absurd (bP_f (by decide)) c_123)
            refine vg_iload C d_R_comes_168 rfl ?_
            refine vg_bipush (v := 7) C d_R_comes_170 (by decide) ?_
            refine vg_icmp_ne (tgt := 194) C d_R_comes_172 (by decide) (fun _ => ?_) (fun c_172 => absurd c_172 (by decide))
            refine vg_iload C d_R_comes_194 rfl ?_
            refine vg_bipush (v := 9) C d_R_comes_196 (by decide) ?_
            refine vg_icmp_ne (tgt := 220) C d_R_comes_198 (by decide) (fun _ => ?_) (fun c_198 => absurd c_198 (by decide))
            refine vg_lv [1, 2, 3, 4, 5] rfl ?_
            (try rw [nI_clamp (show i < 2 ^ 31 by omega)])
            rw [sI_sI, sI_at]
            refine S (by omega) _ ?_
            first
              | exact (bP_t ((bC_10 es).mpr (Or.inl c_71))).symm
              | exact (bP_t ((bC_10 es).mpr (Or.inr (Exists.intro c (And.intro (by omega) (And.intro (by rw [ot_e (by omega) hfd]; exact hgc) c_106)))))).symm
              | exact (bP_f (fun h => ((bC_10 es).mp h).elim c_71 (fun z => absurd c_106 (DN (show c < 40 by omega) (by rw [ot_e (by omega) hfd]; exact hgc) z)))).symm
              | exact (bP_f (fun h => ((bC_10 es).mp h).elim c_71 (fun z => DM (by rw [ot_e (by omega) hfd]; exact c_86) z))).symm
          · skip
            obtain ⟨c, hcn, hgc, -⟩ := hgd.resolve_left (fun e => c_86 (by rw [e]; decide))
            refine vg_aload_n C d_R_comes_89 rfl ?_
            refine wr_get C d_R_comes_90 f_R_64 rfl rfl rfl rfl ?_
            refine vg_aload_n C d_R_comes_93 rfl ?_
            refine wr_get C d_R_comes_94 f_R_22 rfl rfl rfl rfl ?_
            refine vg_aload_n C d_R_comes_97 rfl ?_
            refine wr_get C d_R_comes_98 f_R_13 rfl rfl rfl rfl ?_
            refine vg_iload C d_R_comes_101 rfl ?_
            refine wr_iald C d_R_comes_103 rfl rfl (by exact vp_in_nI (by omega) (by decide)) ?_
            rw [nI_clamp (by omega), sI_ne _ (by decide)]
            rw [hfd]
            refine wr_iald C d_R_comes_104 rfl rfl (by exact vp_in_nI (by omega) (by decide)) ?_
            rw [nI_clamp (by omega), sI_ne _ (by decide)]
            rw [hgc]
            refine wr_zald C d_R_comes_105 rfl rfl (by exact vp_in_nI (by omega) (by decide)) ?_
            rw [nI_clamp (by omega), sI_at]
            refine vg_if_eq (tgt := 113) C d_R_comes_106 (by decide) (fun c_106 => ?_) (fun c_106 => ?_)
            · skip
              refine vg_iconst (v := 0) C d_R_comes_113 (by decide) ?_
              refine wr_zast C d_R_comes_114 rfl rfl (by exact vp_in_nI (by omega) (by decide)) ?_
              refine vg_iload C d_R_comes_115 rfl ?_
              refine vg_iconst (v := 4) C d_R_comes_117 (by decide) ?_
              refine vg_bipush (v := 6) C d_R_comes_118 (by decide) ?_
              refine vg_callS (As := [_, _, _]) C (c_R_in Z hst ad _ (nI 10) 4 6) l_R_comes_R_in k_R_76 rfl rfl (Nat.le_of_ble_eq_true rfl) d_R_comes_120 ⟨Nat.le_of_ble_eq_true rfl, Nat.le_of_ble_eq_true rfl⟩ (fun v_120 w_120 h_120 => ?_)
              obtain ⟨rfl, rfl⟩ := h_120
              refine vg_if_eq (tgt := 168) C d_R_comes_123 (by decide) (fun _ => ?_) (fun c_123 => absurd (bP_f (by decide)) c_123)
              refine vg_iload C d_R_comes_168 rfl ?_
              refine vg_bipush (v := 7) C d_R_comes_170 (by decide) ?_
              refine vg_icmp_ne (tgt := 194) C d_R_comes_172 (by decide) (fun _ => ?_) (fun c_172 => absurd c_172 (by decide))
              refine vg_iload C d_R_comes_194 rfl ?_
              refine vg_bipush (v := 9) C d_R_comes_196 (by decide) ?_
              refine vg_icmp_ne (tgt := 220) C d_R_comes_198 (by decide) (fun _ => ?_) (fun c_198 => absurd c_198 (by decide))
              refine vg_lv [1, 2, 3, 4, 5] rfl ?_
              (try rw [nI_clamp (show i < 2 ^ 31 by omega)])
              rw [sI_sI, sI_at]
              refine S (by omega) _ ?_
              first
                | exact (bP_t ((bC_10 es).mpr (Or.inl c_71))).symm
                | exact (bP_t ((bC_10 es).mpr (Or.inr (Exists.intro c (And.intro (by omega) (And.intro (by rw [ot_e (by omega) hfd]; exact hgc) c_106)))))).symm
                | exact (bP_f (fun h => ((bC_10 es).mp h).elim c_71 (fun z => absurd c_106 (DN (show c < 40 by omega) (by rw [ot_e (by omega) hfd]; exact hgc) z)))).symm
                | exact (bP_f (fun h => ((bC_10 es).mp h).elim c_71 (fun z => DM (by rw [ot_e (by omega) hfd]; exact c_86) z))).symm
            · skip
              refine vg_iconst (v := 1) C d_R_comes_109 (by decide) ?_
              refine vg_goto (tgt := 114) C d_R_comes_110 (by decide) ?_
              refine wr_zast C d_R_comes_114 rfl rfl (by exact vp_in_nI (by omega) (by decide)) ?_
              refine vg_iload C d_R_comes_115 rfl ?_
              refine vg_iconst (v := 4) C d_R_comes_117 (by decide) ?_
              refine vg_bipush (v := 6) C d_R_comes_118 (by decide) ?_
              refine vg_callS (As := [_, _, _]) C (c_R_in Z hst ad _ (nI 10) 4 6) l_R_comes_R_in k_R_76 rfl rfl (Nat.le_of_ble_eq_true rfl) d_R_comes_120 ⟨Nat.le_of_ble_eq_true rfl, Nat.le_of_ble_eq_true rfl⟩ (fun v_120 w_120 h_120 => ?_)
              obtain ⟨rfl, rfl⟩ := h_120
              refine vg_if_eq (tgt := 168) C d_R_comes_123 (by decide) (fun _ => ?_) (fun c_123 => absurd (bP_f (by decide)) c_123)
              refine vg_iload C d_R_comes_168 rfl ?_
              refine vg_bipush (v := 7) C d_R_comes_170 (by decide) ?_
              refine vg_icmp_ne (tgt := 194) C d_R_comes_172 (by decide) (fun _ => ?_) (fun c_172 => absurd c_172 (by decide))
              refine vg_iload C d_R_comes_194 rfl ?_
              refine vg_bipush (v := 9) C d_R_comes_196 (by decide) ?_
              refine vg_icmp_ne (tgt := 220) C d_R_comes_198 (by decide) (fun _ => ?_) (fun c_198 => absurd c_198 (by decide))
              refine vg_lv [1, 2, 3, 4, 5] rfl ?_
              (try rw [nI_clamp (show i < 2 ^ 31 by omega)])
              rw [sI_sI, sI_at]
              refine S (by omega) _ ?_
              first
                | exact (bP_t ((bC_10 es).mpr (Or.inl c_71))).symm
                | exact (bP_t ((bC_10 es).mpr (Or.inr (Exists.intro c (And.intro (by omega) (And.intro (by rw [ot_e (by omega) hfd]; exact hgc) c_106)))))).symm
                | exact (bP_f (fun h => ((bC_10 es).mp h).elim c_71 (fun z => absurd c_106 (DN (show c < 40 by omega) (by rw [ot_e (by omega) hfd]; exact hgc) z)))).symm
                | exact (bP_f (fun h => ((bC_10 es).mp h).elim c_71 (fun z => DM (by rw [ot_e (by omega) hfd]; exact c_86) z))).symm
set_option maxHeartbeats 4000000 in
set_option maxRecDepth 100000 in
theorem lp_R_comes_out {Z : vg_Z} (hst : vg_St Z) {G : vg_G} {post : Option Value → va_W → Prop} (C : vg_C Z M_R_comes G) (hQ : vg_Rt Z G 0 0 post) (ad : Nat → Nat) (σ : sg) (n : Nat) (H : Nat → Nat) (hG : GrR σ n H) (hH : ∀ q, q < n → H q ≤ 32) (p0 : Nat) (hp0 : p0 < n) (e : Int32) (hpost : ∀ r : Nat → Int32, (∀ p, p < n → r p = bP (((fun c => Cm (σ.1 118) (σ.1 119) (σ.1 120) (σ.1 122) c e)) p)) → post (some (.int (r p0))) (wd Z ad (sI σ 134 r))) : ∀ (n2 d : Nat) (r : Nat → Int32) (hlt : 42 < d + n2) (hd : d ≤ 42), RIc (σ.1 118) n H ((fun c => Cm (σ.1 118) (σ.1 119) (σ.1 120) (σ.1 122) c e)) 0 d r → vg_K Z M_R_comes G 0 0 23 [(3, .int (nI d)), (0, .ref (ad 117)), (1, .int (nI p0)), (2, .int e)] [] (wd Z ad (sI σ 134 r)) := by
  have hn := hG.1.1.1
  intro n2
  induction n2 with
  | zero =>
    intro d r hlt hd
    exact absurd hlt (by omega)
  | succ n2 ih =>
    intro d r hlt hd hI
    refine vg_iload_n C d_R_comes_23 rfl ?_
    refine vg_bipush (v := 42) C d_R_comes_24 (by decide) ?_
    refine vg_icmp_ge (tgt := 232) C d_R_comes_26 (by decide) (fun c_26 => ?_) (fun c_26 => ?_)
    · rw [show (42 : Int32) = nI 42 from rfl, nI_leI (by omega) (by omega)] at c_26
      refine vg_aload_n C d_R_comes_232 rfl ?_
      refine wr_get C d_R_comes_233 f_R_64 rfl rfl rfl rfl ?_
      refine vg_iload_n C d_R_comes_236 rfl ?_
      refine wr_zald C d_R_comes_237 rfl rfl (by exact vp_in_nI (by omega) (by decide)) ?_
      rw [nI_clamp (by omega), sI_at]
      exact vg_ireturn C hQ d_R_comes_238 rfl (by rw [hI.1.1 p0 (by omega)]; exact bP_nar _) (hpost r (RIc_end hH (by rw [show 42 = d by omega]; exact hI)))
    · rw [show (42 : Int32) = nI 42 from rfl, nI_leI (by omega) (by omega)] at c_26
      refine vg_iconst (v := 0) C d_R_comes_29 (by decide) ?_
      refine vg_istore C d_R_comes_30 (Nat.le_of_ble_eq_true rfl) rfl ?_
      refine lp_R_comes_in hst C hQ ad σ n H hG hH p0 hp0 e d (fun r2 h2 => ?_) (n + 1) 0 r (by omega) (by omega) hI
      refine vg_iinc (v := nI (d + 1)) C d_R_comes_226 rfl (nI_1 d) (Nat.le_of_ble_eq_true rfl) rfl ?_
      refine vg_goto (tgt := 23) C d_R_comes_229 (by decide) ?_
      exact ih (d + 1) r2 (by omega) (by omega) (RIc_next h2)
set_option maxHeartbeats 4000000 in
set_option maxRecDepth 100000 in
theorem lp_R_comes_z {Z : vg_Z} (hst : vg_St Z) {G : vg_G} {post : Option Value → va_W → Prop} (C : vg_C Z M_R_comes G) (hQ : vg_Rt Z G 0 0 post) (ad : Nat → Nat) (σ : sg) (n : Nat) (H : Nat → Nat) (hG : GrR σ n H) (hH : ∀ q, q < n → H q ≤ 32) (p0 : Nat) (hp0 : p0 < n) (e : Int32) (hpost : ∀ r : Nat → Int32, (∀ p, p < n → r p = bP (((fun c => Cm (σ.1 118) (σ.1 119) (σ.1 120) (σ.1 122) c e)) p)) → post (some (.int (r p0))) (wd Z ad (sI σ 134 r))) : ∀ (n2 i : Nat) (r : Nat → Int32) (hlt : 40 < i + n2) (hi : i ≤ 40), (∀ q, q < i → r q = 0) → vg_K Z M_R_comes G 0 0 2 [(3, .int (nI i)), (0, .ref (ad 117)), (1, .int (nI p0)), (2, .int e)] [] (wd Z ad (sI σ 134 r)) := by
  have hn := hG.1.1.1
  intro n2
  induction n2 with
  | zero =>
    intro i r hlt hi
    exact absurd hlt (by omega)
  | succ n2 ih =>
    intro i r hlt hi hz
    refine vg_iload_n C d_R_comes_2 rfl ?_
    refine vg_bipush (v := 40) C d_R_comes_3 (by decide) ?_
    refine vg_icmp_ge (tgt := 21) C d_R_comes_5 (by decide) (fun c_5 => ?_) (fun c_5 => ?_)
    · rw [show (40 : Int32) = nI 40 from rfl, nI_leI (by omega) (by omega)] at c_5
      refine vg_iconst (v := 0) C d_R_comes_21 (by decide) ?_
      refine vg_istore_n C d_R_comes_22 (Nat.le_of_ble_eq_true rfl) rfl ?_
      exact lp_R_comes_out hst C hQ ad σ n H hG hH p0 hp0 e hpost 43 0 r (by omega) (by omega) (RIc_0 hG.1.1 (fun q hq => hz q (by omega)))
    · rw [show (40 : Int32) = nI 40 from rfl, nI_leI (by omega) (by omega)] at c_5
      refine vg_aload_n C d_R_comes_8 rfl ?_
      refine wr_get C d_R_comes_9 f_R_64 rfl rfl rfl rfl ?_
      refine vg_iload_n C d_R_comes_12 rfl ?_
      refine vg_iconst (v := 0) C d_R_comes_13 (by decide) ?_
      refine wr_zast C d_R_comes_14 rfl rfl (by exact vp_in_nI (by omega) (by decide)) ?_
      rw [nI_clamp (by omega), sI_sI, sI_at]
      refine vg_iinc (v := nI (i + 1)) C d_R_comes_15 rfl (nI_1 i) (Nat.le_of_ble_eq_true rfl) rfl ?_
      refine vg_goto (tgt := 2) C d_R_comes_18 (by decide) ?_
      exact ih (i + 1) _ (by omega) (by omega) (lt_s (fun q hq => (pk_un (by omega)).trans (hz q hq)) (pk_us.trans rfl))
set_option maxHeartbeats 4000000 in
set_option maxRecDepth 100000 in
theorem c_R_comes (Z : vg_Z) (hst : vg_St Z) (ad : Nat → Nat) (σ : sg) (n : Nat) (H : Nat → Nat) (hG : GrR σ n H) (hH : ∀ q, q < n → H q ≤ 32) (p0 : Nat) (hp0 : p0 < n) (e : Int32)  : vg_T Z M_R_comes 0 0 [.ref (ad 117), .int (nI p0), .int e] (wd Z ad σ) (fun v w => v = some (.int (bP (Cm (σ.1 118) (σ.1 119) (σ.1 120) (σ.1 122) p0 e))) ∧ ∃ r : Nat → Int32, w = wd Z ad (sI σ 134 r)) := by
  refine vg_enter hst (by decide) rfl (Nat.le_of_ble_eq_true rfl) ?_
  intro G C hQ
  show vg_K Z M_R_comes G 0 0 0 [(0, .ref (ad 117)), (1, .int (nI p0)), (2, .int e)] [] (wd Z ad σ)
  refine vg_iconst (v := 0) C d_R_comes_0 (by decide) ?_
  refine vg_istore_n C d_R_comes_1 (Nat.le_of_ble_eq_true rfl) rfl ?_
  refine vg_w (ws' := wd Z ad (sI σ 134 (σ.1 134))) (by rw [sI_id]) ?_
  exact lp_R_comes_z hst C hQ ad σ n H hG hH p0 hp0 e (fun r h => ⟨by rw [h p0 hp0], r, rfl⟩) 41 0 _ (by omega) (by omega) (fun q hq => absurd hq (by omega))
