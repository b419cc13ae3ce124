/-! the start: what the constructors leave is the world -/
def s1 (B1 B2 : Nat → Int64) : sg := (fun c => if c = 6 then gm else if c = 122 then gm else if c = 117 then upd (fun _ => 0) 16 (-1) else fun _ => 0, fun c => if c = 108 then B1 else if c = 109 then B2 else fun _ => 0)
def D0 : Dc := (fun _ => 0, fun _ _ => none, fun _ => 0, fun _ _ => none, fun _ _ => 0)
def P0 : Pm := ((fun _ => 0, fun _ => 0, fun _ => 0, fun _ => 0, gm), 0, D0, 0, 0, fun _ => 0)
theorem gm_d : ∀ d, d < 4 → gm d = -1 := by decide +kernel
theorem PW0 : PW P0 := by
  refine ⟨⟨Nat.zero_le _, fun p hp => absurd hp (Nat.not_lt_zero _), fun d hd => Or.inl (gm_d d hd), fun d hd c hc hg hm => ?_⟩, Nat.zero_le _, fun j hj => absurd hj (Nat.not_lt_zero _)⟩
  exact absurd ((gm_d d hd).symm.trans hg).symm (nI_nm1 (by omega))
theorem IC0 {B1 B2 : Nat → Int64} (h : BR B1 B2 64) : IC (s1 B1 B2) P0 := by
  refine ⟨⟨rfl, rfl, rfl, rfl, rfl, rfl⟩, RC_less rfl, rfl, fun j hj => absurd hj (Nat.not_lt_zero _), fun x y hx hy => ?_⟩
  obtain ⟨h1, h2⟩ := h x hx y hy
  have e1 : lb ((s1 B1 B2).2 108 x) y = bsB x 6 y := h1
  have e2 : lb ((s1 B1 B2).2 109 x) y = bhB x 6 y := h2
  rw [e1, e2, bs_6 x hx y hy, bh_6 x hx y hy, bf_B]
  exact ⟨Iff.rfl, Iff.rfl⟩
theorem IM0 {B1 B2 : Nat → Int64} : IM (s1 B1 B2) P0 := ⟨⟨rfl, rfl, rfl, rfl, rfl, rfl⟩, ⟨⟨Nat.zero_le _, fun t ht => absurd ht (Nat.not_lt_zero _)⟩, rfl, fun t ht => absurd ht (Nat.not_lt_zero _)⟩, rfl, fun j hj => absurd hj (Nat.not_lt_zero _), fun x _ => rfl⟩
theorem s1_1 {B1 B2 : Nat → Int64} {c : Nat} (h1 : c ≠ 6) (h2 : c ≠ 122) (h3 : c ≠ 117) : (s1 B1 B2).1 c = fun _ => 0 := (if_neg h1).trans ((if_neg h2).trans (if_neg h3))
theorem s1_2 {B1 B2 : Nat → Int64} {c : Nat} (h1 : c ≠ 108) (h2 : c ≠ 109) : (s1 B1 B2).2 c = fun _ => 0 := (if_neg h1).trans (if_neg h2)
theorem kl_n : ∀ u, u < 16 → wd_kl.getD (11 + 6 * u) 99 = 6 ∧ wd_kl.getD (11 + 6 * u + 1) 99 = 7 ∧ wd_kl.getD (11 + 6 * u + 2) 99 = 7 ∧ wd_kl.getD (11 + 6 * u + 3) 99 = 8 ∧ wd_kl.getD (11 + 6 * u + 4) 99 = 9 ∧ wd_kl.getD (11 + 6 * u + 5) 99 = 9 := by decide +kernel
theorem ND_wd {Z : vg_Z} {ad : Nat → Nat} {f : Nat → va_E} {B1 B2 : Nat → Int64} {i : Nat} (h1 : 6 < i) (h2 : i + 5 < 108 ∨ (109 < i ∧ i + 5 < 117)) (h : NDn Z ad f i (i + 1)) : f i = wd_c Z ad (s1 B1 B2) i 6 ∧ f (i + 1) = wd_c Z ad (s1 B1 B2) (i + 1) 7 ∧ f (i + 2) = wd_c Z ad (s1 B1 B2) (i + 2) 7 ∧ f (i + 3) = wd_c Z ad (s1 B1 B2) (i + 3) 8 ∧ f (i + 4) = wd_c Z ad (s1 B1 B2) (i + 4) 9 ∧ f (i + 5) = wd_c Z ad (s1 B1 B2) (i + 5) 9 := by
  obtain ⟨a0, a1, a2, a3, a4, a5⟩ := h
  refine ⟨a0.trans ?_, a1.trans ?_, a2.trans ?_, a3.trans ?_, a4.trans ?_, a5.trans ?_⟩
  · show _ = Sum.inr (3, [Value.int ((s1 B1 B2).1 i 0), .ref (ad (i + 1)), .ref (ad (i + 2)), .ref (ad (i + 3)), .int ((s1 B1 B2).1 i 4), .ref (ad (i + 4)), .ref (ad (i + 5)), .int ((s1 B1 B2).1 i 7), .long ((s1 B1 B2).2 i 8)])
    rw [s1_1 (by omega) (by omega) (by omega), s1_2 (by omega) (by omega)]
  · show _ = Sum.inl (vz_cI Z, 3, Sum.inl ((s1 B1 B2).1 (i + 1)))
    rw [s1_1 (by omega) (by omega) (by omega)]
  · show _ = Sum.inl (vz_cI Z, 3, Sum.inl ((s1 B1 B2).1 (i + 2)))
    rw [s1_1 (by omega) (by omega) (by omega)]
  · show _ = Sum.inl (vz_cL Z, 3, Sum.inr (Sum.inl ((s1 B1 B2).2 (i + 3))))
    rw [s1_2 (by omega) (by omega)]
  · show _ = Sum.inl (vz_cI Z, 6, Sum.inl ((s1 B1 B2).1 (i + 4)))
    rw [s1_1 (by omega) (by omega) (by omega)]
  · show _ = Sum.inl (vz_cI Z, 6, Sum.inl ((s1 B1 B2).1 (i + 5)))
    rw [s1_1 (by omega) (by omega) (by omega)]
set_option maxHeartbeats 4000000 in
theorem f_wd {Z : vg_Z} {ad : Nat → Nat} {f : Nat → va_E} {B1 B2 : Nat → Int64} (h0 : f 0 = .inr (4, [.ref (ad 1), .ref (ad 8), .ref (ad 107)])) (hG : GDn Z ad f) (hD : DDm Z ad f 16) (hT : TDn Z ad f B1 B2) (hR : RDn Z ad f) (h136 : f 136 = .inl (vz_cL Z, 1, .inr (.inl (fun _ => 0)))) : ∀ j, j < 137 → j ≠ 9 → f j = wd_c Z ad (s1 B1 B2) j (wd_kl.getD j 99) := by
  intro j hj h9
  obtain ⟨g1, g2, g3, g4⟩ := hG
  obtain ⟨d1, d2, -, d4⟩ := hD
  obtain ⟨t1, t2, t3, t4, t5⟩ := hT
  have hx := ND_wd (B1 := B1) (B2 := B2) (i := 111) (by decide) (by decide) t5
  obtain ⟨r0, r1, r2, r3, r4, r5, r6, r7, r8, r9, r10, r11, r12, r13, r14, r15, r16, r17, r18⟩ := hR
  by_cases q : 11 ≤ j ∧ j < 107
  · obtain ⟨u, m, hu, hm, e⟩ : ∃ u m, u < 16 ∧ m < 6 ∧ j = 11 + 6 * u + m := ⟨(j - 11) / 6, (j - 11) % 6, by omega, by omega, by omega⟩
    have hn := ND_wd (B1 := B1) (B2 := B2) (i := 11 + 6 * u) (by omega) (by omega) (by have z := d4 u hu; rw [show 12 + 6 * u = 11 + 6 * u + 1 by omega] at z; exact z)
    obtain ⟨k0, k1, k2, k3, k4, k5⟩ := kl_n u hu
    obtain ⟨n0, n1, n2, n3, n4, n5⟩ := hn
    subst e
    rcases (show m = 0 ∨ m = 1 ∨ m = 2 ∨ m = 3 ∨ m = 4 ∨ m = 5 by omega) with rfl | rfl | rfl | rfl | rfl | rfl
    · rw [show 11 + 6 * u + 0 = 11 + 6 * u from rfl, k0]
      exact n0
    · rw [k1]
      exact n1
    · rw [k2]
      exact n2
    · rw [k3]
      exact n3
    · rw [k4]
      exact n4
    · rw [k5]
      exact n5
  · by_cases q2 : j < 11
    · rcases (show j = 0 ∨ j = 1 ∨ j = 2 ∨ j = 3 ∨ j = 4 ∨ j = 5 ∨ j = 6 ∨ j = 7 ∨ j = 8 ∨ j = 10 by omega) with rfl | rfl | rfl | rfl | rfl | rfl | rfl | rfl | rfl | rfl
      · exact h0
      · exact g1
      · exact g2 2 (by decide) (by decide)
      · exact g2 3 (by decide) (by decide)
      · exact g2 4 (by decide) (by decide)
      · exact g2 5 (by decide) (by decide)
      · exact g3
      · exact g4
      · exact d1
      · exact d2
    · by_cases q3 : j < 117
      · rcases (show j = 107 ∨ j = 108 ∨ j = 109 ∨ j = 110 ∨ j = 111 ∨ j = 112 ∨ j = 113 ∨ j = 114 ∨ j = 115 ∨ j = 116 by omega) with rfl | rfl | rfl | rfl | rfl | rfl | rfl | rfl | rfl | rfl
        · exact t1
        · exact t2
        · exact t3
        · exact t4
        · exact hx.1
        · exact hx.2.1
        · exact hx.2.2.1
        · exact hx.2.2.2.1
        · exact hx.2.2.2.2.1
        · exact hx.2.2.2.2.2
      · rcases (show j = 117 ∨ j = 118 ∨ j = 119 ∨ j = 120 ∨ j = 121 ∨ j = 122 ∨ j = 123 ∨ j = 124 ∨ j = 125 ∨ j = 126 ∨ j = 127 ∨ j = 128 ∨ j = 129 ∨ j = 130 ∨ j = 131 ∨ j = 132 ∨ j = 133 ∨ j = 134 ∨ j = 135 ∨ j = 136 by omega) with rfl | rfl | rfl | rfl | rfl | rfl | rfl | rfl | rfl | rfl | rfl | rfl | rfl | rfl | rfl | rfl | rfl | rfl | rfl | rfl
        · exact r0
        · exact r1
        · exact r2
        · exact r3
        · exact r4
        · exact r5
        · exact r6
        · exact r7
        · exact r8
        · exact r9
        · exact r10
        · exact r11
        · exact r12
        · exact r13
        · exact r14
        · exact r15
        · exact r16
        · exact r17
        · exact r18
        · exact h136
theorem arrV_cg (cI : ClassId) (N : Nat) {r r' : Nat → Value} (h : ∀ j, j < N → r j = r' j) : arrV cI N r = arrV cI N r' := by
  unfold arrV
  have e : (fun j : _root_.Fin N => r j.val) = fun j => r' j.val := funext fun j => h j.val j.isLt
  rw [e]
theorem wl_pos {k : Nat} {ad : Nat → Nat} {f : Nat → va_E} {i : Nat} {q : Nat × va_E} (h : (wl k ad f)[i]? = some q) : i < k ∧ q = (ad i, f i) := by
  have hi : i < k := by
    have := (List.getElem?_eq_some_iff.mp h).1
    rwa [wl_len] at this
  rw [wl_at hi] at h
  exact ⟨hi, (Option.some.inj h).symm⟩
/-- the world, once all is made -/
theorem vg_made {Z : vg_Z} {M : vg_M} {G : vg_G} {cells slots pc : Nat} {lv : List (Nat × Value)} {st : List Value} {ad : Nat → Nat} {f : Nat → va_E} {B1 B2 : Nat → Int64} (h0 : f 0 = .inr (4, [.ref (ad 1), .ref (ad 8), .ref (ad 107)])) (hG : GDn Z ad f) (hD : DDm Z ad f 16) (hT : TDn Z ad f B1 B2) (hR : RDn Z ad f) (h136 : f 136 = .inl (vz_cL Z, 1, .inr (.inl (fun _ => 0)))) (kk : vg_K Z M G cells slots pc lv st (wd Z ad (s1 B1 B2))) : vg_K Z M G cells slots pc lv st (wl 137 ad f) := by
  intro H locs ls hP hDD hS hl
  have hf := f_wd h0 hG hD hT hR h136
  refine kk H locs ls ?_ ?_ hS hl
  · rw [wd_wl]
    intro i q hq
    obtain ⟨hi, rfl⟩ := wl_pos hq
    have p := hP i _ (wl_at hi)
    by_cases e : i = 9
    · subst e
      obtain ⟨-, -, ⟨r, d3, d4⟩, -⟩ := hD
      rw [d3] at p
      have p' : H[ad 9]? = some (vp_cell (vz_cN Z) (16, .inr (.inr (.inr (.inr r))))) := p
      show H[ad 9]? = some (vp_cell (vz_cN Z) (16, .inr (.inr (.inr (.inr (fun i => some (ad (11 + 6 * i))))))))
      rw [p', vp_cell_q, vp_cell_q]
      exact congrArg some (arrV_cg _ _ (fun j hj => by rw [d4 j hj]))
    · rw [hf i hi e] at p
      exact p
  · rw [wd_wl]
    obtain ⟨a, b⟩ := hDD
    refine ⟨fun i j p q hp hq hpq => ?_, fun i q hq => ?_⟩
    · obtain ⟨hi, rfl⟩ := wl_pos hp
      obtain ⟨hj, rfl⟩ := wl_pos hq
      exact a i j (ad i, f i) (ad j, f j) (wl_at hi) (wl_at hj) hpq
    · obtain ⟨hi, rfl⟩ := wl_pos hq
      exact b i (ad i, f i) (wl_at hi)
