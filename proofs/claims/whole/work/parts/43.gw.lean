/-! the grammar as it grows -/
def GW (k f s dep g : Nat → Int32) (n : Nat) : Prop := n ≤ 40 ∧ (∀ p, p < n → (∃ kn, kn ≤ 10 ∧ k p = nI kn) ∧ (1 ≤ ot dep p ∧ ot dep p ≤ 5 ∧ dep p = nI (ot dep p)) ∧
  ((k p = 4 ∨ k p = 5 ∨ k p = 6 ∨ k p = 7) → ∃ c, c < n ∧ f p = nI c ∧ ot dep c < ot dep p) ∧ ((k p = 4 ∨ k p = 5 ∨ k p = 6 ∨ k p = 8 ∨ k p = 9) → ∃ c, c < n ∧ s p = nI c ∧ ot dep c < ot dep p) ∧ (k p = 10 → ∃ d, d < 4 ∧ f p = nI d)) ∧
  (∀ d, d < 4 → g d = -1 ∨ ∃ c, c < n ∧ g d = nI c) ∧ ∀ d, d < 4 → ∀ c, c < 40 → g d = nI c → ¬ Cm k f s g c (nI d)
noncomputable def c1 (P : Prop) : Nat := @ite _ P (Classical.propDecidable P) 1 0
theorem c1_t {P : Prop} (h : P) : c1 P = 1 := if_pos h
theorem c1_f {P : Prop} (h : ¬ P) : c1 P = 0 := if_neg h
theorem c1_m {P Q : Prop} (h : P → Q) : c1 P ≤ c1 Q := by
  by_cases p : P
  · rw [c1_t p, c1_t (h p)]
    exact Nat.le_refl 1
  · rw [c1_f p]
    exact Nat.zero_le _
theorem c1_1 (P : Prop) : c1 P ≤ 1 := by
  by_cases p : P
  · rw [c1_t p]; exact Nat.le_refl 1
  · rw [c1_f p]; exact Nat.zero_le 1
noncomputable def cn (k f s g : Nat → Int32) (p : Nat) : Nat := c1 (Cm k f s g p (nI 0)) + c1 (Cm k f s g p (nI 1)) + c1 (Cm k f s g p (nI 2)) + c1 (Cm k f s g p (nI 3))
noncomputable def gH (k f s dep g : Nat → Int32) (p : Nat) : Nat := 5 * cn k f s g p + ot dep p
section GWS
variable {k f s dep g : Nat → Int32} {n p c : Nat}
theorem Cm_up {e : Int32} (hc : c < 40) (h : Ch k f s g p c) (hm : Cm k f s g c e) : Cm k f s g p e := Cm_ch.mpr (Or.inr ⟨c, hc, h, hm⟩)
theorem cn_le (hc : c < 40) (h : Ch k f s g p c) : cn k f s g c ≤ cn k f s g p := by
  have h0 := c1_m (Cm_up (e := nI 0) hc h)
  have h1 := c1_m (Cm_up (e := nI 1) hc h)
  have h2 := c1_m (Cm_up (e := nI 2) hc h)
  have h3 := c1_m (Cm_up (e := nI 3) hc h)
  unfold cn
  omega
theorem cn_lt {d : Nat} (hd : d < 4) (hc : c < 40) (h : Ch k f s g p c) (h1 : Cm k f s g p (nI d)) (h2 : ¬ Cm k f s g c (nI d)) : cn k f s g c < cn k f s g p := by
  have q0 := c1_m (Cm_up (e := nI 0) hc h)
  have q1 := c1_m (Cm_up (e := nI 1) hc h)
  have q2 := c1_m (Cm_up (e := nI 2) hc h)
  have q3 := c1_m (Cm_up (e := nI 3) hc h)
  have e1 := c1_t h1
  have e2 := c1_f h2
  unfold cn
  rcases (show d = 0 ∨ d = 1 ∨ d = 2 ∨ d = 3 by omega) with rfl | rfl | rfl | rfl <;> omega
theorem cn_4 : cn k f s g p ≤ 4 := by
  have q0 := c1_1 (Cm k f s g p (nI 0))
  have q1 := c1_1 (Cm k f s g p (nI 1))
  have q2 := c1_1 (Cm k f s g p (nI 2))
  have q3 := c1_1 (Cm k f s g p (nI 3))
  unfold cn
  omega
theorem GW_WG (h : GW k f s dep g n) : WG k f s g n (gH k f s dep g) ∧ (∀ q, q < n → gH k f s dep g q ≤ 32) ∧ ∀ p, p < n → ∃ kn, kn ≤ 10 ∧ k p = nI kn := by
  obtain ⟨h1, h2, h3, h4⟩ := h
  refine ⟨⟨h1, fun p hp => ?_⟩, fun q hq => ?_, fun p hp => (h2 p hp).1⟩
  · obtain ⟨-, ⟨d1, d2, -⟩, a1, a2, a3⟩ := h2 p hp
    refine ⟨fun q => ?_, fun q => ?_, fun q => ?_⟩
    · obtain ⟨c, c1, c2, c3⟩ := a1 q
      refine ⟨c, c1, c2, ?_⟩
      have := cn_le (k := k) (f := f) (s := s) (g := g) (p := p) (c := c) (by omega) (Or.inl ⟨q, c2⟩)
      unfold gH
      omega
    · obtain ⟨c, c1, c2, c3⟩ := a2 q
      refine ⟨c, c1, c2, fun h8 => ?_⟩
      have := cn_le (k := k) (f := f) (s := s) (g := g) (p := p) (c := c) (by omega) (Or.inr (Or.inl ⟨q, h8, c2⟩))
      unfold gH
      omega
    · obtain ⟨d, e1, e2⟩ := a3 q
      refine ⟨d, e1, e2, ?_⟩
      rcases h3 d e1 with e3 | ⟨c, c1, c2⟩
      · exact Or.inl e3
      · refine Or.inr ⟨c, c1, c2, ?_⟩
        have hch : Ch k f s g p c := Or.inr (Or.inr ⟨q, d, e1, e2, c2⟩)
        have := cn_lt e1 (by omega) hch (Cm_ch.mpr (Or.inl ⟨by omega, q, e2⟩)) (h4 d e1 c (by omega) c2)
        have := (h2 c c1).2.1.2.1
        unfold gH
        omega
  · have := (h2 q hq).2.1.2.1
    have := cn_4 (k := k) (f := f) (s := s) (g := g) (p := q)
    unfold gH
    omega
/-- a definition is given -/
theorem GW_def (h : GW k f s dep g n) {d p : Nat} (hd : d < 4) (hp : p < n) (hno : ¬ Cm k f s g p (nI d)) : GW k f s dep (upd g d (nI p)) n := by
  obtain ⟨h1, h2, h3, h4⟩ := h
  -- a step of the new grammar
  have stp : ∀ {a c : Nat}, c < 40 → Ch k f s (upd g d (nI p)) a c → Ch k f s g a c ∨ (k a = 10 ∧ f a = nI d ∧ c = p) := by
    intro a c hc hch
    rcases hch with q | q | ⟨q, e, e1, e2, e3⟩
    · exact Or.inl (Or.inl q)
    · exact Or.inl (Or.inr (Or.inl q))
    · by_cases ed : e = d
      · subst ed
        rw [pk_us] at e3
        exact Or.inr ⟨q, e2, (nI_i (by omega) hc e3).symm⟩
      · rw [pk_un ed] at e3
        exact Or.inl (Or.inr (Or.inr ⟨q, e, e1, e2, e3⟩))
  have rp : ∀ {x : Nat}, Rch k f s (upd g d (nI p)) p x → x < 40 → Rch k f s g p x := by
    intro x hx hx40
    refine (hx (fun y => y < 40 ∧ Rch k f s g p y) ⟨by omega, Rch_rf⟩ (fun a c ha hc hch => ⟨hc, ?_⟩)).2
    rcases stp hc hch with q | ⟨q1, q2, -⟩
    · exact fun X x0 xs => xs a c (ha.2 X x0 xs) hc q
    · exact absurd ⟨a, ha.1, ha.2, q1, q2⟩ hno
  refine ⟨h1, h2, fun e he => ?_, fun e he c hc hg hm => ?_⟩
  · by_cases ed : e = d
    · rw [ed, pk_us]
      exact Or.inr ⟨p, hp, rfl⟩
    · rw [pk_un ed]
      exact h3 e he
  · obtain ⟨q, q1, q2, q3, q4⟩ := hm
    by_cases ed : e = d
    · subst ed
      rw [pk_us] at hg
      cases nI_i (by omega) hc hg
      exact hno ⟨q, q1, rp q2 q1, q3, q4⟩
    · rw [pk_un ed] at hg
      have key := q2 (fun y => y < 40 ∧ (Rch k f s g c y ∨ (Cm k f s g c (nI d) ∧ Rch k f s g p y))) ⟨hc, Or.inl Rch_rf⟩ (fun a c2 ha hc2 hch => ⟨hc2, by
        obtain ⟨a40, ha⟩ := ha
        rcases stp hc2 hch with z | ⟨z1, z2, z3⟩
        · rcases ha with ha | ⟨ha1, ha2⟩
          · exact Or.inl fun X x0 xs => xs a c2 (ha X x0 xs) hc2 z
          · exact Or.inr ⟨ha1, fun X x0 xs => xs a c2 (ha2 X x0 xs) hc2 z⟩
        · rw [z3]
          rcases ha with ha | ⟨ha1, ha2⟩
          · exact Or.inr ⟨⟨a, a40, ha, z1, z2⟩, Rch_rf⟩
          · exact Or.inr ⟨ha1, Rch_rf⟩⟩)
      rcases key.2 with z | ⟨⟨w, w1, w2, w3, w4⟩, z⟩
      · exact h4 e he c hc hg ⟨q, q1, z, q3, q4⟩
      · refine hno ⟨w, w1, fun X x0 xs => ?_, w3, w4⟩
        exact w2 X (xs q c (z X x0 xs) hc (Or.inr (Or.inr ⟨q3, e, he, q4, hg⟩))) xs
/-- a pattern is added -/
theorem GW_add (h : GW k f s dep g n) (hn : n < 40) {x a b dd : Int32} (h10 : ∃ kn, kn ≤ 10 ∧ x = nI kn) {e : Nat} (he : 1 ≤ e ∧ e ≤ 5 ∧ dd = nI e) (ha : (x = 4 ∨ x = 5 ∨ x = 6 ∨ x = 7) → ∃ c, c < n ∧ a = nI c ∧ ot dep c < e) (hb : (x = 4 ∨ x = 5 ∨ x = 6 ∨ x = 8 ∨ x = 9) → ∃ c, c < n ∧ b = nI c ∧ ot dep c < e) (hd : x = 10 → ∃ d, d < 4 ∧ a = nI d) : GW (upd k n x) (upd f n a) (upd s n b) (upd dep n dd) g (n + 1) := by
  obtain ⟨h1, h2, h3, h4⟩ := h
  have od : ∀ c, c < n → ot (upd dep n dd) c = ot dep c := fun c hc => by unfold ot; rw [pk_un (by omega)]
  have on : ot (upd dep n dd) n = e := by unfold ot; rw [pk_us, he.2.2]; exact nI_clamp (by omega)
  refine ⟨by omega, fun p hp => ?_, fun d hd4 => ?_, fun d hd4 c hc hg hm => ?_⟩
  · rcases Nat.lt_or_ge p n with y | y
    · obtain ⟨a1, a2, a3, a4, a5⟩ := h2 p y
      rw [od p y, pk_un (f := k) (show p ≠ n by omega), pk_un (f := f) (show p ≠ n by omega), pk_un (f := s) (show p ≠ n by omega), pk_un (f := dep) (show p ≠ n by omega)]
      refine ⟨a1, a2, fun q => ?_, fun q => ?_, a5⟩
      · obtain ⟨c, c1, c2, c3⟩ := a3 q
        exact ⟨c, by omega, c2, by rw [od c c1]; exact c3⟩
      · obtain ⟨c, c1, c2, c3⟩ := a4 q
        exact ⟨c, by omega, c2, by rw [od c c1]; exact c3⟩
    · have ep : p = n := by omega
      subst ep
      rw [on, pk_us, pk_us, pk_us, pk_us]
      refine ⟨h10, he, fun q => ?_, fun q => ?_, hd⟩
      · obtain ⟨c, c1, c2, c3⟩ := ha q
        exact ⟨c, by omega, c2, by rw [od c c1]; exact c3⟩
      · obtain ⟨c, c1, c2, c3⟩ := hb q
        exact ⟨c, by omega, c2, by rw [od c c1]; exact c3⟩
  · rcases h3 d hd4 with z | ⟨c, c1, c2⟩
    · exact Or.inl z
    · exact Or.inr ⟨c, by omega, c2⟩
  · have hcn : c < n := by
      rcases h3 d hd4 with z | ⟨c', c1, c2⟩
      · exact absurd (hg.symm.trans z) (nI_nm1 (by omega))
      · rw [hg] at c2
        cases nI_i hc (by omega) c2
        exact c1
    obtain ⟨q, q1, q2, q3, q4⟩ := hm
    have key := q2 (fun y => y < n ∧ Rch k f s g c y) ⟨hcn, Rch_rf⟩ (fun a2 c2 ha2 hc2 hch => by
      obtain ⟨y1, y2⟩ := ha2
      have hch' : Ch k f s g a2 c2 := by
        unfold Ch at hch
        rw [pk_un (f := k) (show a2 ≠ n by omega), pk_un (f := f) (show a2 ≠ n by omega), pk_un (f := s) (show a2 ≠ n by omega)] at hch
        exact hch
      refine ⟨?_, fun X x0 xs => xs a2 c2 (y2 X x0 xs) hc2 hch'⟩
      obtain ⟨-, -, b3, b4, b5⟩ := h2 a2 y1
      rcases hch' with ⟨z1, z2⟩ | ⟨z1, -, z2⟩ | ⟨z1, e2, z2, z3, z4⟩
      · obtain ⟨c3, w1, w2, -⟩ := b3 z1
        rw [z2] at w2
        cases nI_i hc2 (by omega) w2
        exact w1
      · obtain ⟨c3, w1, w2, -⟩ := b4 z1
        rw [z2] at w2
        cases nI_i hc2 (by omega) w2
        exact w1
      · rcases h3 e2 z2 with w | ⟨c3, w1, w2⟩
        · exact absurd (z4.symm.trans w) (nI_nm1 (by omega))
        · rw [z4] at w2
          cases nI_i hc2 (by omega) w2
          exact w1)
    rw [pk_un (f := k) (show q ≠ n by omega)] at q3
    rw [pk_un (f := f) (show q ≠ n by omega)] at q4
    exact h4 d hd4 c hc hg ⟨q, q1, key.2, q3, q4⟩
end GWS
