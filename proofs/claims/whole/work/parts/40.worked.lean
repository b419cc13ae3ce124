/-! the reference's worked, say -/
def bW (k f s g : Nat → Int32) (at9 : Nat → Nat → Prop) (tx : Nat → Prop) (e : Nat → Nat → Prop) (F : Nat → Nat → Nat → Prop) (p A z : Nat) : Prop := (k p = 7 ∧ (F (ot f p) A z ∨ Gp true (F (ot f p)) (F p) A z)) ∨ (¬ k p = 7 ∧ bM k f s g at9 tx e F p A z)
section BW
variable {k f s g : Nat → Int32} {at9 : Nat → Nat → Prop} {tx : Nat → Prop} {e : Nat → Nat → Prop} {F F' : Nat → Nat → Nat → Prop} {p A z : Nat}
theorem bW_7 (h : k p = 7) : bW k f s g at9 tx e F p A z ↔ (F (ot f p) A z ∨ Gp true (F (ot f p)) (F p) A z) := ⟨fun q => q.elim (fun y => y.2) (fun y => absurd h y.1), fun q => Or.inl ⟨h, q⟩⟩
theorem bW_n (h : ¬ k p = 7) : bW k f s g at9 tx e F p A z ↔ bM k f s g at9 tx e F p A z := ⟨fun q => q.elim (fun y => absurd y.1 h) (fun y => y.2), fun q => Or.inr ⟨h, q⟩⟩
theorem bM_mono (hF : ∀ c A z, F c A z → F' c A z) (h7 : ¬ k p = 7) : bM k f s g at9 tx e F p A z → bM k f s g at9 tx e F' p A z := by
  rintro (h | h | h | ⟨h1, h⟩ | ⟨h1, h⟩ | ⟨h1, h⟩ | h | h | ⟨h1, c, c1, c2, c3⟩)
  · exact Or.inl h
  · exact Or.inr (Or.inl h)
  · exact Or.inr (Or.inr (Or.inl h))
  · exact Or.inr (Or.inr (Or.inr (Or.inl ⟨h1, Gp_mono (fun a x _ _ => hF _ a x) (fun a x _ _ => hF _ a x) h⟩)))
  · exact Or.inr (Or.inr (Or.inr (Or.inr (Or.inl ⟨h1, Gp_mono (fun a x _ _ => hF _ a x) (fun a x _ _ => hF _ a x) h⟩))))
  · exact Or.inr (Or.inr (Or.inr (Or.inr (Or.inr (Or.inl ⟨h1, h.imp (hF _ A z) (hF _ A z)⟩)))))
  · exact absurd h.1 h7
  · exact Or.inr (Or.inr (Or.inr (Or.inr (Or.inr (Or.inr (Or.inr (Or.inl h)))))))
  · exact Or.inr (Or.inr (Or.inr (Or.inr (Or.inr (Or.inr (Or.inr (Or.inr ⟨h1, c, c1, c2, hF c A z c3⟩)))))))
theorem bW_mono (hF : ∀ c A z, F c A z → F' c A z) : bW k f s g at9 tx e F p A z → bW k f s g at9 tx e F' p A z := by
  rintro (⟨h1, h⟩ | ⟨h1, h⟩)
  · exact Or.inl ⟨h1, h.imp (hF _ A z) (Gp_mono (fun a x _ _ => hF _ a x) (fun a x _ _ => hF _ a x))⟩
  · exact Or.inr ⟨h1, bM_mono hF h1 h⟩
end BW
set_option maxHeartbeats 4000000 in
set_option maxRecDepth 100000 in
theorem c_R_worked (Z : vg_Z) (hst : vg_St Z) (ad : Nat → Nat) (σ : sg) (n : Nat) (H : Nat → Nat) (hG : GrR σ n H) (D : Dc) (nd t : Nat) (hX : CX σ n D nd t) (p : Nat) (hp : p < n) (A z : Nat) (hA : A < 64) (hAm : A &&& mk D t 6 = A) (hz : z < 2 ^ D.2.2.1 t)  : vg_T Z M_R_worked 0 0 [.ref (ad 117), .int (nI p), .int (nI t), .int (nI A), .int (nI z)] (wd Z ad σ) (fun v w => v = some (.int (bP (bW (σ.1 118) (σ.1 119) (σ.1 120) (σ.1 122) (at9D (σ.1 118) (σ.1 119) (σ.1 120) (σ.1 122) D t) (txD D t) (eD (σ.1 118) (σ.1 119) (σ.1 120) D (FU (σ.1 118) (σ.1 119) (σ.1 120) (σ.1 122) D) t) (Mb (σ.2 131)) p A z))) ∧ w = wd Z ad σ) := by
  refine vg_enter hst (by decide) rfl (Nat.le_of_ble_eq_true rfl) ?_
  intro G C hQ
  show vg_K Z M_R_worked G 0 0 0 [(0, .ref (ad 117)), (1, .int (nI p)), (2, .int (nI t)), (3, .int (nI A)), (4, .int (nI z))] [] (wd Z ad σ)
  have hn := hG.1.1.1
  have hnd := hX.1.1.1
  have ht := hX.2.1
  have hc6 := (hX.1.1.2 t ht).1
  have hz64 : z < 64 := Nat.lt_of_lt_of_le hz (Nat.pow_le_pow_right (n := 2) (by decide) hc6)
  refine vg_aload_n C d_R_worked_0 rfl ?_
  refine wr_get C d_R_worked_1 f_R_13 rfl rfl rfl rfl ?_
  refine vg_iload_n C d_R_worked_4 rfl ?_
  refine wr_iald C d_R_worked_5 rfl rfl (by exact vp_in_nI (by omega) (by decide)) ?_
  rw [nI_clamp (by omega)]
  refine vg_istore C d_R_worked_6 (Nat.le_of_ble_eq_true rfl) rfl ?_
  refine vg_aload_n C d_R_worked_8 rfl ?_
  refine wr_get C d_R_worked_9 f_R_16 rfl rfl rfl rfl ?_
  refine vg_iload_n C d_R_worked_12 rfl ?_
  refine wr_iald C d_R_worked_13 rfl rfl (by exact vp_in_nI (by omega) (by decide)) ?_
  rw [nI_clamp (by omega)]
  refine vg_istore C d_R_worked_14 (Nat.le_of_ble_eq_true rfl) rfl ?_
  refine vg_aload_n C d_R_worked_16 rfl ?_
  refine wr_get C d_R_worked_17 f_R_7 rfl rfl rfl rfl ?_
  refine vg_iload_n C d_R_worked_20 rfl ?_
  refine wr_iald C d_R_worked_21 rfl rfl (by exact vp_in_nI (by omega) (by decide)) ?_
  rw [nI_clamp (by omega)]
  obtain ⟨j_22, hj_22, es_22⟩ := hG.1.2 p hp
  rcases (show j_22 = 0 ∨ j_22 = 1 ∨ j_22 = 2 ∨ j_22 = 3 ∨ j_22 = 4 ∨ j_22 = 5 ∨ j_22 = 6 ∨ j_22 = 7 ∨ j_22 = 8 ∨ j_22 = 9 ∨ j_22 = 10 by omega) with rfl | rfl | rfl | rfl | rfl | rfl | rfl | rfl | rfl | rfl | rfl
  · skip
    rw [es_22]
    refine vg_tabOut (tgt := 185) C d_R_worked_22 (by decide) (by decide) ?_
    refine vg_aload_n C d_R_worked_185 rfl ?_
    refine vg_iload_n C d_R_worked_186 rfl ?_
    refine vg_iload_n C d_R_worked_187 rfl ?_
    refine vg_iload_n C d_R_worked_188 rfl ?_
    refine vg_iload C d_R_worked_189 rfl ?_
    refine wr_callV (As := [_, _, _, _]) C (c_R_plain Z hst ad σ n H hG D nd t hX p hp A z hA hAm hz (Mb (σ.2 131)) (by rw [nk, es_22]; decide)) l_R_worked_R_plain k_R_115 rfl rfl rfl rfl rfl (Nat.le_of_ble_eq_true rfl) d_R_worked_191 ⟨Nat.le_of_ble_eq_true rfl, Nat.le_of_ble_eq_true rfl⟩ (fun v_191 w_191 h_191 => ?_)
    obtain ⟨rfl, rfl⟩ := h_191
    exact vg_ireturn C hQ d_R_worked_194 rfl (by exact bP_nar _) (⟨svP (bW_n (by rw [es_22]; decide)).symm, rfl⟩)
  · skip
    rw [es_22]
    refine vg_tabOut (tgt := 185) C d_R_worked_22 (by decide) (by decide) ?_
    refine vg_aload_n C d_R_worked_185 rfl ?_
    refine vg_iload_n C d_R_worked_186 rfl ?_
    refine vg_iload_n C d_R_worked_187 rfl ?_
    refine vg_iload_n C d_R_worked_188 rfl ?_
    refine vg_iload C d_R_worked_189 rfl ?_
    refine wr_callV (As := [_, _, _, _]) C (c_R_plain Z hst ad σ n H hG D nd t hX p hp A z hA hAm hz (Mb (σ.2 131)) (by rw [nk, es_22]; decide)) l_R_worked_R_plain k_R_115 rfl rfl rfl rfl rfl (Nat.le_of_ble_eq_true rfl) d_R_worked_191 ⟨Nat.le_of_ble_eq_true rfl, Nat.le_of_ble_eq_true rfl⟩ (fun v_191 w_191 h_191 => ?_)
    obtain ⟨rfl, rfl⟩ := h_191
    exact vg_ireturn C hQ d_R_worked_194 rfl (by exact bP_nar _) (⟨svP (bW_n (by rw [es_22]; decide)).symm, rfl⟩)
  · skip
    rw [es_22]
    refine vg_tabOut (tgt := 185) C d_R_worked_22 (by decide) (by decide) ?_
    refine vg_aload_n C d_R_worked_185 rfl ?_
    refine vg_iload_n C d_R_worked_186 rfl ?_
    refine vg_iload_n C d_R_worked_187 rfl ?_
    refine vg_iload_n C d_R_worked_188 rfl ?_
    refine vg_iload C d_R_worked_189 rfl ?_
    refine wr_callV (As := [_, _, _, _]) C (c_R_plain Z hst ad σ n H hG D nd t hX p hp A z hA hAm hz (Mb (σ.2 131)) (by rw [nk, es_22]; decide)) l_R_worked_R_plain k_R_115 rfl rfl rfl rfl rfl (Nat.le_of_ble_eq_true rfl) d_R_worked_191 ⟨Nat.le_of_ble_eq_true rfl, Nat.le_of_ble_eq_true rfl⟩ (fun v_191 w_191 h_191 => ?_)
    obtain ⟨rfl, rfl⟩ := h_191
    exact vg_ireturn C hQ d_R_worked_194 rfl (by exact bP_nar _) (⟨svP (bW_n (by rw [es_22]; decide)).symm, rfl⟩)
  · skip
    rw [es_22]
    refine vg_tabOut (tgt := 185) C d_R_worked_22 (by decide) (by decide) ?_
    refine vg_aload_n C d_R_worked_185 rfl ?_
    refine vg_iload_n C d_R_worked_186 rfl ?_
    refine vg_iload_n C d_R_worked_187 rfl ?_
    refine vg_iload_n C d_R_worked_188 rfl ?_
    refine vg_iload C d_R_worked_189 rfl ?_
    refine wr_callV (As := [_, _, _, _]) C (c_R_plain Z hst ad σ n H hG D nd t hX p hp A z hA hAm hz (Mb (σ.2 131)) (by rw [nk, es_22]; decide)) l_R_worked_R_plain k_R_115 rfl rfl rfl rfl rfl (Nat.le_of_ble_eq_true rfl) d_R_worked_191 ⟨Nat.le_of_ble_eq_true rfl, Nat.le_of_ble_eq_true rfl⟩ (fun v_191 w_191 h_191 => ?_)
    obtain ⟨rfl, rfl⟩ := h_191
    exact vg_ireturn C hQ d_R_worked_194 rfl (by exact bP_nar _) (⟨svP (bW_n (by rw [es_22]; decide)).symm, rfl⟩)
  · skip
    rw [es_22]
    refine vg_tabIn (tgt := 64) C d_R_worked_22 (by decide) (by decide) rfl (by decide) ?_
    obtain ⟨ca, ea, -⟩ := Ch_f hG.1.1 hp (by rw [es_22]; decide)
    rw [ea]
    obtain ⟨cb, eb, -⟩ := Ch_s hG.1.1 hp (by rw [es_22]; decide)
    rw [eb]
    refine vg_aload_n C d_R_worked_64 rfl ?_
    refine vg_iload C d_R_worked_65 rfl ?_
    refine vg_iload C d_R_worked_67 rfl ?_
    refine vg_iload_n C d_R_worked_69 rfl ?_
    refine vg_iload C d_R_worked_70 rfl ?_
    refine vg_iconst (v := 1) C d_R_worked_72 (by decide) ?_
    refine wr_callV (As := [_, _, _, _, _]) C (c_R_parted Z hst ad σ _ _ A z true ca cb hA hz64) l_R_worked_R_parted k_R_108 rfl rfl rfl rfl rfl (Nat.le_of_ble_eq_true rfl) d_R_worked_73 ⟨Nat.le_of_ble_eq_true rfl, Nat.le_of_ble_eq_true rfl⟩ (fun v_73 w_73 h_73 => ?_)
    obtain ⟨rfl, rfl⟩ := h_73
    exact vg_ireturn C hQ d_R_worked_76 rfl (by exact bP_nar _) (⟨svP ((bW_n (by rw [es_22]; decide)).trans (bM_4 es_22)).symm, rfl⟩)
  · skip
    rw [es_22]
    refine vg_tabIn (tgt := 77) C d_R_worked_22 (by decide) (by decide) rfl (by decide) ?_
    obtain ⟨ca, ea, -⟩ := Ch_f hG.1.1 hp (by rw [es_22]; decide)
    rw [ea]
    obtain ⟨cb, eb, -⟩ := Ch_s hG.1.1 hp (by rw [es_22]; decide)
    rw [eb]
    refine vg_aload_n C d_R_worked_77 rfl ?_
    refine vg_iload C d_R_worked_78 rfl ?_
    refine vg_iload C d_R_worked_80 rfl ?_
    refine vg_iload_n C d_R_worked_82 rfl ?_
    refine vg_iload C d_R_worked_83 rfl ?_
    refine vg_iconst (v := 0) C d_R_worked_85 (by decide) ?_
    refine wr_callV (As := [_, _, _, _, _]) C (c_R_parted Z hst ad σ _ _ A z false ca cb hA hz64) l_R_worked_R_parted k_R_108 rfl rfl rfl rfl rfl (Nat.le_of_ble_eq_true rfl) d_R_worked_86 ⟨Nat.le_of_ble_eq_true rfl, Nat.le_of_ble_eq_true rfl⟩ (fun v_86 w_86 h_86 => ?_)
    obtain ⟨rfl, rfl⟩ := h_86
    exact vg_ireturn C hQ d_R_worked_89 rfl (by exact bP_nar _) (⟨svP ((bW_n (by rw [es_22]; decide)).trans (bM_5 es_22)).symm, rfl⟩)
  · skip
    rw [es_22]
    refine vg_tabIn (tgt := 90) C d_R_worked_22 (by decide) (by decide) rfl (by decide) ?_
    obtain ⟨ca, ea, -⟩ := Ch_f hG.1.1 hp (by rw [es_22]; decide)
    rw [ea]
    obtain ⟨cb, eb, -⟩ := Ch_s hG.1.1 hp (by rw [es_22]; decide)
    rw [eb]
    refine vg_aload_n C d_R_worked_90 rfl ?_
    refine vg_iload C d_R_worked_91 rfl ?_
    refine vg_iload_n C d_R_worked_93 rfl ?_
    refine vg_iload C d_R_worked_94 rfl ?_
    refine wr_callV (As := [_, _, _]) C (c_R_matched Z hst ad σ _ A z ca hA hz64) l_R_worked_R_matched k_R_112 rfl rfl rfl rfl rfl (Nat.le_of_ble_eq_true rfl) d_R_worked_96 ⟨Nat.le_of_ble_eq_true rfl, Nat.le_of_ble_eq_true rfl⟩ (fun v_96 w_96 h_96 => ?_)
    obtain ⟨rfl, rfl⟩ := h_96
    refine vg_if_ne (tgt := 114) C d_R_worked_99 (by decide) (fun c_99 => ?_) (fun c_99 => ?_)
    · rw [bP_eq] at c_99; (try simp only [Classical.not_not] at c_99)
      refine vg_iconst (v := 1) C d_R_worked_114 (by decide) ?_
      refine vg_goto (tgt := 119) C d_R_worked_115 (by decide) ?_
      exact vg_ireturn C hQ d_R_worked_119 rfl (by first | rfl | assumption) (⟨by rw [bP_t (by first | exact (bW_n (by rw [es_22]; decide)).mpr ((bM_6 es_22).mpr (Or.inl c_99)) | exact (bW_n (by rw [es_22]; decide)).mpr ((bM_6 es_22).mpr (Or.inr c_111)))], rfl⟩)
    · rw [bP_eq] at c_99; (try simp only [Classical.not_not] at c_99)
      refine vg_aload_n C d_R_worked_102 rfl ?_
      refine vg_iload C d_R_worked_103 rfl ?_
      refine vg_iload_n C d_R_worked_105 rfl ?_
      refine vg_iload C d_R_worked_106 rfl ?_
      refine wr_callV (As := [_, _, _]) C (c_R_matched Z hst ad σ _ A z cb hA hz64) l_R_worked_R_matched k_R_112 rfl rfl rfl rfl rfl (Nat.le_of_ble_eq_true rfl) d_R_worked_108 ⟨Nat.le_of_ble_eq_true rfl, Nat.le_of_ble_eq_true rfl⟩ (fun v_108 w_108 h_108 => ?_)
      obtain ⟨rfl, rfl⟩ := h_108
      refine vg_if_eq (tgt := 118) C d_R_worked_111 (by decide) (fun c_111 => ?_) (fun c_111 => ?_)
      · rw [bP_eq] at c_111; (try simp only [Classical.not_not] at c_111)
        refine vg_iconst (v := 0) C d_R_worked_118 (by decide) ?_
        exact vg_ireturn C hQ d_R_worked_119 rfl (by first | rfl | assumption) (⟨by rw [bP_f (by exact fun g => ((bM_6 es_22).mp ((bW_n (by rw [es_22]; decide)).mp g)).elim (fun y => c_99 y) (fun y => c_111 y))], rfl⟩)
      · rw [bP_eq] at c_111; (try simp only [Classical.not_not] at c_111)
        refine vg_iconst (v := 1) C d_R_worked_114 (by decide) ?_
        refine vg_goto (tgt := 119) C d_R_worked_115 (by decide) ?_
        exact vg_ireturn C hQ d_R_worked_119 rfl (by first | rfl | assumption) (⟨by rw [bP_t (by first | exact (bW_n (by rw [es_22]; decide)).mpr ((bM_6 es_22).mpr (Or.inl c_99)) | exact (bW_n (by rw [es_22]; decide)).mpr ((bM_6 es_22).mpr (Or.inr c_111)))], rfl⟩)
  · skip
    rw [es_22]
    refine vg_tabIn (tgt := 120) C d_R_worked_22 (by decide) (by decide) rfl (by decide) ?_
    obtain ⟨ca, ea, -⟩ := Ch_f hG.1.1 hp (by rw [es_22]; decide)
    rw [ea]
    refine vg_aload_n C d_R_worked_120 rfl ?_
    refine vg_iload C d_R_worked_121 rfl ?_
    refine vg_iload_n C d_R_worked_123 rfl ?_
    refine vg_iload C d_R_worked_124 rfl ?_
    refine wr_callV (As := [_, _, _]) C (c_R_matched Z hst ad σ _ A z ca hA hz64) l_R_worked_R_matched k_R_112 rfl rfl rfl rfl rfl (Nat.le_of_ble_eq_true rfl) d_R_worked_126 ⟨Nat.le_of_ble_eq_true rfl, Nat.le_of_ble_eq_true rfl⟩ (fun v_126 w_126 h_126 => ?_)
    obtain ⟨rfl, rfl⟩ := h_126
    refine vg_if_ne (tgt := 146) C d_R_worked_129 (by decide) (fun c_129 => ?_) (fun c_129 => ?_)
    · rw [bP_eq] at c_129; (try simp only [Classical.not_not] at c_129)
      refine vg_iconst (v := 1) C d_R_worked_146 (by decide) ?_
      refine vg_goto (tgt := 151) C d_R_worked_147 (by decide) ?_
      exact vg_ireturn C hQ d_R_worked_151 rfl (by first | rfl | assumption) (⟨by rw [bP_t (by first | exact (bW_7 es_22).mpr (Or.inl c_129) | exact (bW_7 es_22).mpr (Or.inr c_143))], rfl⟩)
    · rw [bP_eq] at c_129; (try simp only [Classical.not_not] at c_129)
      refine vg_aload_n C d_R_worked_132 rfl ?_
      refine vg_iload C d_R_worked_133 rfl ?_
      refine vg_iload_n C d_R_worked_135 rfl ?_
      refine vg_iload_n C d_R_worked_136 rfl ?_
      refine vg_iload C d_R_worked_137 rfl ?_
      refine vg_iconst (v := 1) C d_R_worked_139 (by decide) ?_
      refine wr_callV (As := [_, _, _, _, _]) C (c_R_parted Z hst ad σ _ p A z true ca (by omega) hA hz64) l_R_worked_R_parted k_R_108 rfl rfl rfl rfl rfl (Nat.le_of_ble_eq_true rfl) d_R_worked_140 ⟨Nat.le_of_ble_eq_true rfl, Nat.le_of_ble_eq_true rfl⟩ (fun v_140 w_140 h_140 => ?_)
      obtain ⟨rfl, rfl⟩ := h_140
      refine vg_if_eq (tgt := 150) C d_R_worked_143 (by decide) (fun c_143 => ?_) (fun c_143 => ?_)
      · rw [bP_eq] at c_143; (try simp only [Classical.not_not] at c_143)
        refine vg_iconst (v := 0) C d_R_worked_150 (by decide) ?_
        exact vg_ireturn C hQ d_R_worked_151 rfl (by first | rfl | assumption) (⟨by rw [bP_f (by exact fun g => ((bW_7 es_22).mp g).elim (fun y => c_129 y) (fun y => c_143 y))], rfl⟩)
      · rw [bP_eq] at c_143; (try simp only [Classical.not_not] at c_143)
        refine vg_iconst (v := 1) C d_R_worked_146 (by decide) ?_
        refine vg_goto (tgt := 151) C d_R_worked_147 (by decide) ?_
        exact vg_ireturn C hQ d_R_worked_151 rfl (by first | rfl | assumption) (⟨by rw [bP_t (by first | exact (bW_7 es_22).mpr (Or.inl c_129) | exact (bW_7 es_22).mpr (Or.inr c_143))], rfl⟩)
  · skip
    rw [es_22]
    refine vg_tabIn (tgt := 185) C d_R_worked_22 (by decide) (by decide) rfl (by decide) ?_
    refine vg_aload_n C d_R_worked_185 rfl ?_
    refine vg_iload_n C d_R_worked_186 rfl ?_
    refine vg_iload_n C d_R_worked_187 rfl ?_
    refine vg_iload_n C d_R_worked_188 rfl ?_
    refine vg_iload C d_R_worked_189 rfl ?_
    refine wr_callV (As := [_, _, _, _]) C (c_R_plain Z hst ad σ n H hG D nd t hX p hp A z hA hAm hz (Mb (σ.2 131)) (by rw [nk, es_22]; decide)) l_R_worked_R_plain k_R_115 rfl rfl rfl rfl rfl (Nat.le_of_ble_eq_true rfl) d_R_worked_191 ⟨Nat.le_of_ble_eq_true rfl, Nat.le_of_ble_eq_true rfl⟩ (fun v_191 w_191 h_191 => ?_)
    obtain ⟨rfl, rfl⟩ := h_191
    exact vg_ireturn C hQ d_R_worked_194 rfl (by exact bP_nar _) (⟨svP (bW_n (by rw [es_22]; decide)).symm, rfl⟩)
  · skip
    rw [es_22]
    refine vg_tabIn (tgt := 185) C d_R_worked_22 (by decide) (by decide) rfl (by decide) ?_
    refine vg_aload_n C d_R_worked_185 rfl ?_
    refine vg_iload_n C d_R_worked_186 rfl ?_
    refine vg_iload_n C d_R_worked_187 rfl ?_
    refine vg_iload_n C d_R_worked_188 rfl ?_
    refine vg_iload C d_R_worked_189 rfl ?_
    refine wr_callV (As := [_, _, _, _]) C (c_R_plain Z hst ad σ n H hG D nd t hX p hp A z hA hAm hz (Mb (σ.2 131)) (by rw [nk, es_22]; decide)) l_R_worked_R_plain k_R_115 rfl rfl rfl rfl rfl (Nat.le_of_ble_eq_true rfl) d_R_worked_191 ⟨Nat.le_of_ble_eq_true rfl, Nat.le_of_ble_eq_true rfl⟩ (fun v_191 w_191 h_191 => ?_)
    obtain ⟨rfl, rfl⟩ := h_191
    exact vg_ireturn C hQ d_R_worked_194 rfl (by exact bP_nar _) (⟨svP (bW_n (by rw [es_22]; decide)).symm, rfl⟩)
  · skip
    rw [es_22]
    refine vg_tabIn (tgt := 152) C d_R_worked_22 (by decide) (by decide) rfl (by decide) ?_
    obtain ⟨dd, hd4, hfd, hgd⟩ := (hG.1.1.2 p hp).2.2 (by rw [es_22]; rfl)
    rw [hfd]
    refine vg_aload_n C d_R_worked_152 rfl ?_
    refine wr_get C d_R_worked_153 f_R_22 rfl rfl rfl rfl ?_
    refine vg_iload C d_R_worked_156 rfl ?_
    refine wr_iald C d_R_worked_158 rfl rfl (by exact vp_in_nI (by omega) (by decide)) ?_
    rw [nI_clamp (by omega)]
    refine vg_if_lt (tgt := 183) C d_R_worked_159 (by decide) (fun c_159 => ?_) (fun c_159 => ?_)
    · skip
      refine vg_iconst (v := 0) C d_R_worked_183 (by decide) ?_
      exact vg_ireturn C hQ d_R_worked_184 rfl (by first | rfl | assumption) (⟨by rw [bP_f (by first | exact fun g => c_176 (DN (F := fun c => Mb (σ.2 131) c A z) (show c < 40 by omega) (by rw [ot_e (by omega) hfd]; exact hgc) ((bM_10 es_22).mp ((bW_n (by rw [es_22]; decide)).mp g))) | exact fun g => DM (F := fun c => Mb (σ.2 131) c A z) (by rw [ot_e (by omega) hfd]; exact c_159) ((bM_10 es_22).mp ((bW_n (by rw [es_22]; decide)).mp g)))], rfl⟩)
    · skip
      obtain ⟨c, hcn, hgc, -⟩ := hgd.resolve_left (fun e => c_159 (by rw [e]; decide))
      refine vg_aload_n C d_R_worked_162 rfl ?_
      refine vg_aload_n C d_R_worked_163 rfl ?_
      refine wr_get C d_R_worked_164 f_R_22 rfl rfl rfl rfl ?_
      refine vg_iload C d_R_worked_167 rfl ?_
      refine wr_iald C d_R_worked_169 rfl rfl (by exact vp_in_nI (by omega) (by decide)) ?_
      rw [nI_clamp (by omega), hgc]
      refine vg_iload_n C d_R_worked_170 rfl ?_
      refine vg_iload C d_R_worked_171 rfl ?_
      refine wr_callV (As := [_, _, _]) C (c_R_matched Z hst ad σ c A z (by omega) hA hz64) l_R_worked_R_matched k_R_112 rfl rfl rfl rfl rfl (Nat.le_of_ble_eq_true rfl) d_R_worked_173 ⟨Nat.le_of_ble_eq_true rfl, Nat.le_of_ble_eq_true rfl⟩ (fun v_173 w_173 h_173 => ?_)
      obtain ⟨rfl, rfl⟩ := h_173
      refine vg_if_eq (tgt := 183) C d_R_worked_176 (by decide) (fun c_176 => ?_) (fun c_176 => ?_)
      · rw [bP_eq] at c_176; (try simp only [Classical.not_not] at c_176)
        refine vg_iconst (v := 0) C d_R_worked_183 (by decide) ?_
        exact vg_ireturn C hQ d_R_worked_184 rfl (by first | rfl | assumption) (⟨by rw [bP_f (by first | exact fun g => c_176 (DN (F := fun c => Mb (σ.2 131) c A z) (show c < 40 by omega) (by rw [ot_e (by omega) hfd]; exact hgc) ((bM_10 es_22).mp ((bW_n (by rw [es_22]; decide)).mp g))) | exact fun g => DM (F := fun c => Mb (σ.2 131) c A z) (by rw [ot_e (by omega) hfd]; exact c_159) ((bM_10 es_22).mp ((bW_n (by rw [es_22]; decide)).mp g)))], rfl⟩)
      · rw [bP_eq] at c_176; (try simp only [Classical.not_not] at c_176)
        refine vg_iconst (v := 1) C d_R_worked_179 (by decide) ?_
        refine vg_goto (tgt := 184) C d_R_worked_180 (by decide) ?_
        exact vg_ireturn C hQ d_R_worked_184 rfl (by first | rfl | assumption) (⟨by rw [bP_t (by exact (bW_n (by rw [es_22]; decide)).mpr ((bM_10 es_22).mpr ⟨c, by omega, by rw [ot_e (by omega) hfd]; exact hgc, c_176⟩))], rfl⟩)
theorem and_bit {m : Int64} {z : Nat} (hz : z < 64) (h : lb m z = false) : m &&& ((1 : Int64) <<< ((nI z).toInt64 &&& 63)) = 0 := by
  refine lb_ext fun j hj => ?_
  rw [lb_and, lb_one_shl hz hj, lb_0]
  by_cases e : j = z
  · rw [e, h, Bool.false_and]
  · rw [decide_eq_false e, Bool.and_false]
def sM_ (m : Nat → Int64) (p A z : Nat) : Nat → Int64 := vp_updL m (64 * p + A) (m (64 * p + A) ||| ((1 : Int64) <<< ((nI z).toInt64 &&& 63)))
def s_say (σ : sg) (p A z : Nat) : sg := sI (sL σ 131 (sM_ (σ.2 131) p A z)) 117 (upd (σ.1 117) 22 1)
set_option maxHeartbeats 4000000 in
set_option maxRecDepth 100000 in
theorem c_R_say (Z : vg_Z) (hst : vg_St Z) (ad : Nat → Nat) (σ : sg) (p A z : Nat) (hp : p < 40) (hA : A < 64) (hz : z < 64) (h : lb (σ.2 131 (64 * p + A)) z = false)  : vg_T Z M_R_say 0 0 [.ref (ad 117), .int (nI p), .int (nI A), .int (nI z)] (wd Z ad σ) (fun v w => v = none ∧ w = wd Z ad (s_say σ p A z)) := by
  refine vg_enter hst (by decide) rfl (Nat.le_of_ble_eq_true rfl) ?_
  intro G C hQ
  show vg_K Z M_R_say G 0 0 0 [(0, .ref (ad 117)), (1, .int (nI p)), (2, .int (nI A)), (3, .int (nI z))] [] (wd Z ad σ)
  refine vg_lconst (v := 1) C d_R_say_0 (by decide) ?_
  refine vg_iload_n C d_R_say_1 rfl ?_
  refine vg_lshl C d_R_say_2 ?_
  refine vg_lstore C d_R_say_3 (Nat.le_of_ble_eq_true rfl) rfl ?_
  refine vg_aload_n C d_R_say_5 rfl ?_
  refine wr_get C d_R_say_6 f_R_54 rfl rfl rfl rfl ?_
  refine vg_bipush (v := 64) C d_R_say_9 (by decide) ?_
  refine vg_iload_n C d_R_say_11 rfl ?_
  refine vg_imul C d_R_say_12 ?_
  rw [show (64 : Int32) = nI 64 from rfl, pk_mul]
  refine vg_iload_n C d_R_say_13 rfl ?_
  refine vg_iadd C d_R_say_14 ?_
  rw [nI_add]
  refine wr_lald C d_R_say_15 rfl rfl (by exact vp_in_nI (by omega) (by decide)) ?_
  rw [nI_clamp (by omega)]
  refine vg_lload C d_R_say_16 rfl ?_
  refine vg_land C d_R_say_18 ?_
  refine vg_lconst (v := 0) C d_R_say_19 (by decide) ?_
  refine vg_lcmp C d_R_say_20 ?_
  refine vg_if_eq (tgt := 25) C d_R_say_21 (by decide) (fun _ => ?_) (fun c_21 => absurd (lg_eq.mpr (and_bit hz h)) c_21)
  refine vg_aload_n C d_R_say_25 rfl ?_
  refine wr_get C d_R_say_26 f_R_54 rfl rfl rfl rfl ?_
  refine vg_bipush (v := 64) C d_R_say_29 (by decide) ?_
  refine vg_iload_n C d_R_say_31 rfl ?_
  refine vg_imul C d_R_say_32 ?_
  rw [show (64 : Int32) = nI 64 from rfl, pk_mul]
  refine vg_iload_n C d_R_say_33 rfl ?_
  refine vg_iadd C d_R_say_34 ?_
  rw [nI_add]
  refine vg_dup2 C d_R_say_35 rfl rfl ?_
  refine wr_lald C d_R_say_36 rfl rfl (by exact vp_in_nI (by omega) (by decide)) ?_
  rw [nI_clamp (by omega)]
  refine vg_lload C d_R_say_37 rfl ?_
  refine vg_lor C d_R_say_39 ?_
  refine wr_last C d_R_say_40 rfl rfl (by exact vp_in_nI (by omega) (by decide)) ?_
  rw [nI_clamp (by omega)]
  refine vg_aload_n C d_R_say_41 rfl ?_
  refine vg_iconst (v := 1) C d_R_say_42 (by decide) ?_
  refine wr_puti C d_R_say_43 f_R_101 p_R_22 rfl rfl rfl (by first | rfl | assumption) rfl (Nat.le_of_ble_eq_true rfl) (wf_iR22 _ _ _) ?_
  exact vg_return C hQ d_R_say_46 rfl (⟨rfl, rfl⟩)
