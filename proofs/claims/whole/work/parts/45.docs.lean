/-! one step of the document on both sides; the reference's frame -/
theorem nJ_of {n : Nat} (hn : n < 2 ^ 31) {p : Int32} (h0 : 0 ≤ p) (h1 : p < nI n) : ∃ c, c < n ∧ p = nI c := by
  rw [Int32.le_iff_toInt_le, i32_0] at h0
  rw [Int32.lt_iff_toInt_lt, nI_toInt hn] at h1
  refine ⟨p.toInt.toNat, by omega, ?_⟩
  apply Int32.toInt_inj.mp
  rw [nI_toInt (by omega)]
  omega
theorem nI_ltJ {a b : Nat} (ha : a < 2 ^ 31) (hb : b < 2 ^ 31) : nI a < nI b ↔ a < b := by
  rw [Int32.lt_iff_toInt_lt, nI_toInt ha, nI_toInt hb]
  omega
theorem nI_0lt {b : Nat} (h0 : 0 < b) (hb : b < 2 ^ 31) : (0 : Int32) < nI b := by
  rw [Int32.lt_iff_toInt_lt, nI_toInt hb, i32_0]
  omega
theorem m1_lt0 : (-1 : Int32) < 0 := by decide
theorem kF (x : Int32) : (x = 4 ∨ x = 5 ∨ x = 6 ∨ x = 7) ↔ (4 ≤ x ∧ x ≤ 7) := by
  simp only [Int32.le_iff_toInt_le, ← Int32.toInt_inj, i32_4, i32_5, i32_6, i32_7]
  omega
theorem kS (x : Int32) : (x = 4 ∨ x = 5 ∨ x = 6 ∨ x = 8 ∨ x = 9) ↔ ((4 ≤ x ∧ x ≤ 6) ∨ (8 ≤ x ∧ x ≤ 9)) := by
  simp only [Int32.le_iff_toInt_le, ← Int32.toInt_inj, i32_4, i32_5, i32_6, i32_8, i32_9]
  omega
theorem kFS {x : Int32} (h : 4 ≤ x ∧ x ≤ 6) : 4 ≤ x ∧ x ≤ 7 := by
  simp only [Int32.le_iff_toInt_le, i32_4, i32_6, i32_7] at *
  omega
theorem kFn {x : Int32} (h : 8 ≤ x ∧ x ≤ 9) : ¬ (4 ≤ x ∧ x ≤ 7) := by
  simp only [Int32.le_iff_toInt_le, i32_4, i32_8, i32_9, i32_7] at *
  omega
theorem al_ab {n : Nat} (hn : n ≤ 40) {x a b : Int32} (h : alQ n x a b) : ((x = 4 ∨ x = 5 ∨ x = 6 ∨ x = 7) → ∃ c, c < n ∧ a = nI c) ∧ ((x = 4 ∨ x = 5 ∨ x = 6 ∨ x = 8 ∨ x = 9) → ∃ c, c < n ∧ b = nI c) ∧ (x = 10 → ∃ d, d < 4 ∧ a = nI d) ∧ ∃ kn, kn ≤ 10 ∧ x = nI kn := by
  have k : ∃ kn, kn ≤ 10 ∧ x = nI kn := by
    have q : 0 ≤ x ∧ x < nI 11 := by
      unfold alQ at h
      simp only [Int32.le_iff_toInt_le, Int32.lt_iff_toInt_lt, ← Int32.toInt_inj, i32_0, i32_3, i32_4, i32_5, i32_6, i32_7, i32_8, i32_9, i32_10, i32_n11] at *
      omega
    obtain ⟨c, c1, c2⟩ := nJ_of (by decide) q.1 q.2
    exact ⟨c, by omega, c2⟩
  refine ⟨fun q => ?_, fun q => ?_, fun q => ?_, k⟩
  · have r : 0 ≤ a ∧ a < nI n := by
      rcases h with h | h | h | h | h
      · simp only [Int32.le_iff_toInt_le, Int32.lt_iff_toInt_lt, ← Int32.toInt_inj, i32_0, i32_3, i32_4, i32_5, i32_6, i32_7] at h q
        omega
      · exact h.2.1
      · exact h.2
      · have h1 := h.1
        simp only [← Int32.toInt_inj, i32_4, i32_5, i32_6, i32_7, i32_8, i32_9] at h1 q
        omega
      · have h1 := h.1
        simp only [← Int32.toInt_inj, i32_4, i32_5, i32_6, i32_7, i32_10] at h1 q
        omega
    exact nJ_of (by omega) r.1 r.2
  · have r : 0 ≤ b ∧ b < nI n := by
      rcases h with h | h | h | h | h
      · simp only [Int32.le_iff_toInt_le, Int32.lt_iff_toInt_lt, ← Int32.toInt_inj, i32_0, i32_3, i32_4, i32_5, i32_6, i32_8, i32_9] at h q
        omega
      · exact h.2.2
      · have h1 := h.1
        simp only [← Int32.toInt_inj, i32_4, i32_5, i32_6, i32_7, i32_8, i32_9] at h1 q
        omega
      · exact h.2.2.2
      · have h1 := h.1
        simp only [← Int32.toInt_inj, i32_4, i32_5, i32_6, i32_8, i32_9, i32_10] at h1 q
        omega
    exact nJ_of (by omega) r.1 r.2
  · have r : 0 ≤ a ∧ a < nI 4 := by
      rcases h with h | h | h | h | h
      · simp only [Int32.le_iff_toInt_le, Int32.lt_iff_toInt_lt, ← Int32.toInt_inj, i32_0, i32_3, i32_10] at h q
        omega
      · have h1 := h.1
        simp only [← Int32.toInt_inj, i32_4, i32_5, i32_6, i32_10] at h1 q
        omega
      · have h1 := h.1
        simp only [← Int32.toInt_inj, i32_7, i32_10] at h1 q
        omega
      · have h1 := h.1
        simp only [← Int32.toInt_inj, i32_8, i32_9, i32_10] at h1 q
        omega
      · exact h.2
    exact nJ_of (by decide) r.1 r.2
/-- the depth of a new pattern -/
theorem dq_ex {dep : Nat → Int32} {n : Nat} (hn : n ≤ 40) (hd : ∀ c, c < n → 1 ≤ ot dep c ∧ ot dep c ≤ 5 ∧ dep c = nI (ot dep c)) {x a b : Int32} (h : alQ n x a b) : ∃ e, (1 ≤ e ∧ e ≤ 6 ∧ dq dep x a b = nI e) ∧ ((x = 4 ∨ x = 5 ∨ x = 6 ∨ x = 7) → ∃ c, c < n ∧ a = nI c ∧ ot dep c < e) ∧ ((x = 4 ∨ x = 5 ∨ x = 6 ∨ x = 8 ∨ x = 9) → ∃ c, c < n ∧ b = nI c ∧ ot dep c < e) := by
  obtain ⟨g1, g2, -, -⟩ := al_ab hn h
  unfold dq
  by_cases hF : (x = 4 ∨ x = 5 ∨ x = 6 ∨ x = 7) <;> by_cases hS : (x = 4 ∨ x = 5 ∨ x = 6 ∨ x = 8 ∨ x = 9)
  · obtain ⟨c, c1, rfl⟩ := g1 hF
    obtain ⟨d, d1, rfl⟩ := g2 hS
    obtain ⟨u1, u2, u3⟩ := hd c c1
    obtain ⟨v1, v2, v3⟩ := hd d d1
    rw [if_pos hS, if_pos hF, nI_clamp (by omega), nI_clamp (by omega), u3, v3]
    by_cases y : ot dep c < ot dep d
    · rw [if_pos ((nI_ltJ (by omega) (by omega)).mpr y)]
      exact ⟨ot dep d + 1, ⟨by omega, by omega, nI_1 _⟩, fun _ => ⟨c, c1, rfl, by omega⟩, fun _ => ⟨d, d1, rfl, by omega⟩⟩
    · rw [if_neg (fun z => y ((nI_ltJ (by omega) (by omega)).mp z))]
      exact ⟨ot dep c + 1, ⟨by omega, by omega, nI_1 _⟩, fun _ => ⟨c, c1, rfl, by omega⟩, fun _ => ⟨d, d1, rfl, by omega⟩⟩
  · obtain ⟨c, c1, rfl⟩ := g1 hF
    obtain ⟨u1, u2, u3⟩ := hd c c1
    rw [if_neg hS, if_pos hF, nI_clamp (by omega), u3]
    exact ⟨ot dep c + 1, ⟨by omega, by omega, nI_1 _⟩, fun _ => ⟨c, c1, rfl, by omega⟩, fun q => absurd q hS⟩
  · obtain ⟨d, d1, rfl⟩ := g2 hS
    obtain ⟨v1, v2, v3⟩ := hd d d1
    rw [if_pos hS, if_neg hF, nI_clamp (by omega), v3, if_pos (nI_0lt (by omega) (by omega))]
    exact ⟨ot dep d + 1, ⟨by omega, by omega, nI_1 _⟩, fun q => absurd q hF, fun _ => ⟨d, d1, rfl, by omega⟩⟩
  · rw [if_neg hS, if_neg hF]
    exact ⟨1, ⟨by omega, by omega, by decide⟩, fun q => absurd q hF, fun q => absurd q hS⟩
section DQ
variable {dep : Nat → Int32} {n : Nat} {x a b : Int32}
theorem dqR1 (h1 : ¬ (4 ≤ x ∧ x ≤ 7)) (h2 : ¬ (8 ≤ x ∧ x ≤ 9)) : 1 = dq dep x a b := by
  have hF : ¬ (x = 4 ∨ x = 5 ∨ x = 6 ∨ x = 7) := fun q => h1 ((kF x).mp q)
  have hS : ¬ (x = 4 ∨ x = 5 ∨ x = 6 ∨ x = 8 ∨ x = 9) := fun q => ((kS x).mp q).elim (fun y => h1 (kFS y)) h2
  unfold dq
  rw [if_neg hS, if_neg hF]
  decide
theorem dqR2 (h1 : 4 ≤ x ∧ x ≤ 7) (h3 : ¬ (4 ≤ x ∧ x ≤ 6)) : dep a.toNatClampNeg + 1 = dq dep x a b := by
  have hS : ¬ (x = 4 ∨ x = 5 ∨ x = 6 ∨ x = 8 ∨ x = 9) := fun q => ((kS x).mp q).elim h3 (fun y => kFn y h1)
  unfold dq
  rw [if_neg hS, if_pos ((kF x).mpr h1)]
theorem dqR3 (hn : n ≤ 40) (hd : ∀ c, c < n → 1 ≤ ot dep c ∧ ot dep c ≤ 5 ∧ dep c = nI (ot dep c)) (h : alQ n x a b) (h3 : 4 ≤ x ∧ x ≤ 6) (h4 : dep b.toNatClampNeg < dep a.toNatClampNeg + 1) : dep a.toNatClampNeg + 1 = dq dep x a b := by
  obtain ⟨g1, g2, -, -⟩ := al_ab hn h
  have hF := (kF x).mpr (kFS h3)
  have hS := (kS x).mpr (Or.inl h3)
  obtain ⟨c, c1, rfl⟩ := g1 hF
  obtain ⟨d, d1, rfl⟩ := g2 hS
  obtain ⟨u1, u2, u3⟩ := hd c c1
  obtain ⟨v1, v2, v3⟩ := hd d d1
  unfold dq
  rw [if_pos hS, if_pos hF]
  rw [nI_clamp (by omega), nI_clamp (by omega), u3, v3]
  rw [nI_clamp (by omega), nI_clamp (by omega), u3, v3, nI_1, nI_ltJ (by omega) (by omega)] at h4
  rw [if_neg (fun z => by rw [nI_ltJ (by omega) (by omega)] at z; omega)]
theorem dqR4 (hn : n ≤ 40) (hd : ∀ c, c < n → 1 ≤ ot dep c ∧ ot dep c ≤ 5 ∧ dep c = nI (ot dep c)) (h : alQ n x a b) (h3 : 4 ≤ x ∧ x ≤ 6) (h4 : ¬ dep b.toNatClampNeg < dep a.toNatClampNeg + 1) : dep b.toNatClampNeg + 1 = dq dep x a b := by
  obtain ⟨g1, g2, -, -⟩ := al_ab hn h
  have hF := (kF x).mpr (kFS h3)
  have hS := (kS x).mpr (Or.inl h3)
  obtain ⟨c, c1, rfl⟩ := g1 hF
  obtain ⟨d, d1, rfl⟩ := g2 hS
  obtain ⟨u1, u2, u3⟩ := hd c c1
  obtain ⟨v1, v2, v3⟩ := hd d d1
  unfold dq
  rw [if_pos hS, if_pos hF]
  rw [nI_clamp (by omega), nI_clamp (by omega), u3, v3]
  rw [nI_clamp (by omega), nI_clamp (by omega), u3, v3, nI_1, nI_ltJ (by omega) (by omega)] at h4
  rw [if_pos ((nI_ltJ (by omega) (by omega)).mpr (by omega))]
theorem dqR5 (hn : n ≤ 40) (hd : ∀ c, c < n → 1 ≤ ot dep c ∧ ot dep c ≤ 5 ∧ dep c = nI (ot dep c)) (h : alQ n x a b) (h3 : 8 ≤ x ∧ x ≤ 9) : dep b.toNatClampNeg + 1 = dq dep x a b := by
  obtain ⟨g1, g2, -, -⟩ := al_ab hn h
  have hF : ¬ (x = 4 ∨ x = 5 ∨ x = 6 ∨ x = 7) := fun q => kFn h3 ((kF x).mp q)
  have hS := (kS x).mpr (Or.inr h3)
  obtain ⟨d, d1, rfl⟩ := g2 hS
  obtain ⟨v1, v2, v3⟩ := hd d d1
  unfold dq
  rw [if_pos hS, if_neg hF]
  rw [nI_clamp (by omega), v3]
  rw [if_pos (nI_0lt (by omega) (by omega))]
end DQ
/-! well-formed stays well-formed -/
section PWS
variable {P P' : Pm} {c v : Int32}
theorem PW_dep (h : PW P) : ∀ c, c < pN P → 1 ≤ ot (pE P) c ∧ ot (pE P) c ≤ 5 ∧ pE P c = nI (ot (pE P) c) := fun c hc => (h.1.2.1 c hc).2.1
theorem PW_P {x a b : Int32} (h : PW P) (s : SpP P x a b c v P') : PW P' := by
  rcases s with ⟨-, -, rfl⟩ | ⟨-, -, -, rfl⟩ | ⟨h1, ⟨h2, h3⟩, -, -, rfl⟩
  · exact h
  · exact h
  · obtain ⟨e, ⟨e1, e2, e3⟩, e4, e5⟩ := dq_ex h.1.1 (PW_dep h) h1
    obtain ⟨-, -, g3, g4⟩ := al_ab h.1.1 h1
    refine ⟨GW_add h.1 h2 g4 (e := e) ⟨e1, ?_, e3⟩ e4 e5 g3, h.2⟩
    rw [e3, Int32.le_iff_toInt_le, nI_toInt (by omega), i32_5] at h3
    omega
theorem PW_D {d p : Int32} (h : PW P) (s : SpD P d p c v P') : PW P' := by
  rcases s with ⟨-, -, rfl⟩ | ⟨-, -, -, rfl⟩ | ⟨-, -, -, -, rfl⟩ | ⟨h1, h2, h3, -, -, rfl⟩
  · exact h
  · exact h
  · exact h
  · have h40 := h.1.1
    obtain ⟨i, i1, rfl⟩ := nJ_of (n := 4) (by decide) h1.1 h1.2
    obtain ⟨q, q1, rfl⟩ := nJ_of (by omega) h2.1 h2.2
    rw [nI_clamp (by omega)] at h3 ⊢
    exact ⟨GW_def h.1 i1 q1 h3, h.2⟩
theorem PW_O {nm : Int32} (h : PW P) (s : SpO P nm c v P') : PW P' := by
  rcases s with ⟨-, -, rfl⟩ | ⟨-, -, -, rfl⟩ | ⟨-, h2, -, -, rfl⟩
  · exact h
  · exact h
  · refine ⟨h.1, ?_, fun j hj => ?_⟩
    · show pn P + 1 ≤ 4
      rcases h2 with h2 | h2 <;> omega
    · show (if j = pn P then pd P else pt P j) < pd P + 1
      have hj' : j < pn P + 1 := hj
      by_cases e : j = pn P
      · rw [if_pos e]
        omega
      · rw [if_neg e]
        have := h.2.2 j (by omega)
        omega
theorem PW_A {nm x : Int32} (h : PW P) (s : SpA P nm x c v P') : PW P' := by
  rcases s with ⟨-, -, rfl⟩ | ⟨-, -, -, rfl⟩ | ⟨-, -, -, -, rfl⟩
  · exact h
  · exact h
  · exact h
theorem PW_T {x : Int32} (h : PW P) (s : SpT P x c v P') : PW P' := by
  rcases s with ⟨-, -, rfl⟩ | ⟨-, -, -, rfl⟩
  · exact h
  · exact h
theorem PW_C (h : PW P) (s : SpC P c v P') : PW P' := by
  rcases s with ⟨-, -, rfl⟩ | ⟨-, -, -, rfl⟩
  · exact h
  · have := h.2.1
    exact ⟨h.1, (show pn P - 1 ≤ 4 by omega), fun j hj => h.2.2 j (Nat.lt_of_lt_of_le hj (Nat.sub_le _ _))⟩
theorem PW_R (h : PW P) (s : SpR P v P') : PW P' := by
  rcases s with ⟨-, rfl⟩
  exact ⟨h.1, Nat.zero_le _, fun j hj => absurd hj (Nat.not_lt_zero _)⟩
end PWS
/-! how many attributes -/
noncomputable def cQ (Q : Nat → Prop) : Nat → Nat
  | 0 => 0
  | a + 1 => cQ Q a + c1 (Q a)
theorem cQ_cg {Q R : Nat → Prop} : ∀ n, (∀ a, a < n → (Q a ↔ R a)) → cQ Q n = cQ R n := by
  intro n
  induction n with
  | zero => intro _; rfl
  | succ n ih =>
    intro h
    show cQ Q n + c1 (Q n) = cQ R n + c1 (R n)
    rw [ih (fun a ha => h a (by omega)), propext (h n (by omega))]
theorem cQ_or {Q R : Nat → Prop} : ∀ n, (∀ a, Q a → ¬ R a) → cQ (fun a => Q a ∨ R a) n = cQ Q n + cQ R n := by
  intro n
  induction n with
  | zero => intro _; rfl
  | succ n ih =>
    intro h
    show cQ (fun a => Q a ∨ R a) n + c1 (Q n ∨ R n) = (cQ Q n + c1 (Q n)) + (cQ R n + c1 (R n))
    rw [ih h]
    by_cases q : Q n
    · rw [c1_t (Or.inl q), c1_t q, c1_f (h n q)]
      omega
    · by_cases r : R n
      · rw [c1_t (Or.inr r), c1_f q, c1_t r]
        omega
      · rw [c1_f (fun z => z.elim q r), c1_f q, c1_f r]
        omega
theorem cQ_0 : ∀ n, cQ (fun _ => False) n = 0 := by
  intro n
  induction n with
  | zero => rfl
  | succ n ih =>
    show cQ (fun _ => False) n + c1 False = 0
    rw [ih, c1_f (fun h => h)]
theorem cQ_1 (b : Nat) : ∀ n, cQ (fun a => b = a) n = if b < n then 1 else 0 := by
  intro n
  induction n with
  | zero => rfl
  | succ n ih =>
    show cQ (fun a => b = a) n + c1 (b = n) = _
    rw [ih]
    by_cases q : b = n
    · rw [c1_t q, if_neg (by omega), if_pos (by omega)]
    · rw [c1_f q]
      by_cases r : b < n
      · rw [if_pos r, if_pos (by omega)]
      · rw [if_neg r, if_neg (by omega)]
theorem cQ_nj (nj : Nat → Nat) : ∀ na, NJ nj na → cQ (fun a => ∃ j, j < na ∧ nj j = a) 6 = na := by
  intro na
  induction na with
  | zero =>
    intro _
    rw [cQ_cg (R := fun _ => False) 6 (fun a _ => ⟨fun ⟨j, hj, _⟩ => absurd hj (by omega), fun h => h.elim⟩), cQ_0]
  | succ na ih =>
    intro h
    have e := ih ⟨fun j hj => h.1 j (by omega), fun i j hi hj => h.2 i j (by omega) (by omega)⟩
    rw [cQ_cg (R := fun a => (∃ j, j < na ∧ nj j = a) ∨ nj na = a) 6 (fun a _ => ⟨fun ⟨j, hj, hq⟩ => by
      rcases Nat.lt_or_ge j na with y | y
      · exact Or.inl ⟨j, y, hq⟩
      · rw [show j = na by omega] at hq
        exact Or.inr hq, fun z => by
      rcases z with ⟨j, hj, hq⟩ | hq
      · exact ⟨j, by omega, hq⟩
      · exact ⟨na, by omega, hq⟩⟩), cQ_or 6 (fun a ⟨j, hj, hq⟩ hr => by have := h.2 j na (by omega) (by omega) (hq.trans hr.symm); omega), e, cQ_1, if_pos (h.1 na (by omega))]
theorem cA_cQ (D : Dc) (t : Nat) : ∀ n, cA D t n = cQ (fun a => D.2.1 t a ≠ none) n := by
  intro n
  induction n with
  | zero => rfl
  | succ n ih =>
    show cA D t n + (if D.2.1 t n ≠ none then 1 else 0) = cQ _ n + c1 _
    rw [ih]
    by_cases q : D.2.1 t n ≠ none
    · rw [if_pos q, c1_t q]
    · rw [if_neg q, c1_f q]
theorem RN_na {σ : sg} {D : Dc} {t na : Nat} {nj : Nat → Nat} (h : RN σ D t na nj) : na = cA D t 6 := by
  obtain ⟨-, h1, -, -, h2, h3, -⟩ := h
  rw [cA_cQ, ← cQ_nj nj na h1]
  exact cQ_cg 6 (fun a ha => ⟨fun ⟨j, hj, e⟩ => by rw [← e, (h2 j hj).2]; exact fun z => (by cases z), fun q => h3 a ha q⟩)
theorem RN_has {σ : sg} {D : Dc} {t na : Nat} {nj : Nat → Nat} (h : RN σ D t na nj) {a : Nat} (ha : a < 6) : (∃ i, i < na ∧ σ.1 (11 + 6 * t + 1) i = nI a) ↔ D.2.1 t a ≠ none := by
  obtain ⟨-, h1, -, -, h2, h3, -⟩ := h
  constructor
  · rintro ⟨i, i1, i2⟩
    obtain ⟨q1, q2⟩ := h2 i i1
    have e := nI_i (by have := h1.1 i i1; omega) (by omega) (q1.symm.trans i2)
    rw [← e, q2]
    exact fun z => (by cases z)
  · intro q
    obtain ⟨j, j1, j2⟩ := h3 a ha q
    exact ⟨j, j1, by rw [(h2 j j1).1, j2]⟩
def upd' (f : Nat → Nat) (k x : Nat) : Nat → Nat := fun j => if j = k then x else f j
theorem u'_s {f : Nat → Nat} {k x : Nat} : upd' f k x k = x := if_pos rfl
theorem u'_n {f : Nat → Nat} {k x j : Nat} (h : j ≠ k) : upd' f k x j = f j := if_neg h
/-! the document's steps: well-formed -/
section DT
variable {D : Dc} {t u i nd dn a : Nat} {x nm : Int32}
theorem dT_n : (dT D t x).2.2.1 t = D.2.2.1 t + 1 := if_pos rfl
theorem dT_no (h : u ≠ t) : (dT D t x).2.2.1 u = D.2.2.1 u := if_neg h
theorem dT_c : (dT D t x).2.2.2.1 t (D.2.2.1 t) = none := if_pos ⟨rfl, rfl⟩
theorem dT_co (h : ¬ (u = t ∧ i = D.2.2.1 t)) : (dT D t x).2.2.2.1 u i = D.2.2.2.1 u i := if_neg h
theorem dT_x : (dT D t x).2.2.2.2 t (D.2.2.1 t) = x := if_pos ⟨rfl, rfl⟩
theorem dT_xo (h : ¬ (u = t ∧ i = D.2.2.1 t)) : (dT D t x).2.2.2.2 u i = D.2.2.2.2 u i := if_neg h
theorem WD_T (h : WD D nd) (hc : D.2.2.1 t < 6) : WD (dT D t x) nd := by
  refine ⟨h.1, fun u hu => ?_⟩
  obtain ⟨h1, h2⟩ := h.2 u hu
  by_cases e : u = t
  · subst e
    refine ⟨by rw [dT_n]; omega, fun i hi v hv => ?_⟩
    rw [dT_n] at hi
    by_cases q : i = D.2.2.1 u
    · rw [q, dT_c] at hv
      cases hv
    · rw [dT_co (fun z => q z.2)] at hv
      exact h2 i (by omega) v hv
  · refine ⟨by rw [dT_no e]; exact h1, fun i hi v hv => ?_⟩
    rw [dT_no e] at hi
    rw [dT_co (fun z => e z.1)] at hv
    exact h2 i hi v hv
theorem dO_1 : (dO D nd dn t nm).1 nd = nm := pk_us
theorem dO_1o (h : u ≠ nd) : (dO D nd dn t nm).1 u = D.1 u := pk_un h
theorem dO_a : (dO D nd dn t nm).2.1 nd a = none := if_pos rfl
theorem dO_ao (h : u ≠ nd) : (dO D nd dn t nm).2.1 u a = D.2.1 u a := if_neg h
theorem dO_n : (dO D nd dn t nm).2.2.1 nd = 0 := if_pos rfl
theorem dO_nt (h : t ≠ nd) (h0 : dn ≠ 0) : (dO D nd dn t nm).2.2.1 t = D.2.2.1 t + 1 := (if_neg h).trans (if_pos ⟨h0, rfl⟩)
theorem dO_no (h : u ≠ nd) (h0 : ¬ (dn ≠ 0 ∧ u = t)) : (dO D nd dn t nm).2.2.1 u = D.2.2.1 u := (if_neg h).trans (if_neg h0)
theorem dO_c (h0 : dn ≠ 0) : (dO D nd dn t nm).2.2.2.1 t (D.2.2.1 t) = some nd := if_pos ⟨h0, rfl, rfl⟩
theorem dO_co (h : ¬ (dn ≠ 0 ∧ u = t ∧ i = D.2.2.1 t)) : (dO D nd dn t nm).2.2.2.1 u i = D.2.2.2.1 u i := if_neg h
theorem WD_O (h : WD D nd) (hn : nd < 16) (ht : dn ≠ 0 → t < nd ∧ D.2.2.1 t < 6) : WD (dO D nd dn t nm) (nd + 1) := by
  refine ⟨by omega, fun u hu => ?_⟩
  by_cases e : u = nd
  · subst e
    refine ⟨by rw [dO_n]; omega, fun i hi => ?_⟩
    rw [dO_n] at hi
    exact absurd hi (by omega)
  · obtain ⟨h1, h2⟩ := h.2 u (by omega)
    by_cases q : dn ≠ 0 ∧ u = t
    · obtain ⟨q1, rfl⟩ := q
      obtain ⟨t1, t2⟩ := ht q1
      refine ⟨by rw [dO_nt e q1]; omega, fun i hi v hv => ?_⟩
      rw [dO_nt e q1] at hi
      by_cases r : i = D.2.2.1 u
      · rw [r, dO_c q1] at hv
        cases hv
        omega
      · rw [dO_co (fun z => r z.2.2)] at hv
        have := h2 i (by omega) v hv
        omega
    · refine ⟨by rw [dO_no e q]; exact h1, fun i hi v hv => ?_⟩
      rw [dO_no e q] at hi
      rw [dO_co (fun z => q ⟨z.1, z.2.1⟩)] at hv
      have := h2 i hi v hv
      omega
theorem dA_a : (dA D t a x).2.1 t a = some x := if_pos ⟨rfl, rfl⟩
theorem dA_ao (h : ¬ (u = t ∧ i = a)) : (dA D t a x).2.1 u i = D.2.1 u i := if_neg h
/-! the reference's document -/
variable {σ τ : sg}
theorem RM_text (hM : RM σ D nd) (ht : t < nd) (hc : D.2.2.1 t < 6) (e1 : τ.1 117 15 = σ.1 117 15) (e2 : τ.1 123 = σ.1 123) (e3 : τ.1 126 = σ.1 126) (e4 : τ.1 127 = σ.1 127) (e5 : τ.1 128 = upd (σ.1 128) (6 * t + D.2.2.1 t) (-1)) (e6 : τ.1 129 = upd (σ.1 129) (6 * t + D.2.2.1 t) x) (e7 : τ.1 130 = upd (σ.1 130) t (nI (D.2.2.1 t + 1))) : RM τ (dT D t x) nd := by
  obtain ⟨w, m1, m2⟩ := hM
  refine ⟨WD_T w hc, e1.trans m1, fun u hu => ?_⟩
  have h6 := (w.2 u hu).1
  obtain ⟨a1, a2, a3, a4⟩ := m2 u hu
  rw [e2, e3, e4, e5, e6, e7]
  by_cases e : u = t
  · subst e
    refine ⟨a1, a2, by rw [pk_us, dT_n], fun i hi => ?_⟩
    rw [dT_n] at hi
    by_cases q : i = D.2.2.1 u
    · rw [q]
      exact Or.inl ⟨dT_c, pk_us, by rw [pk_us, dT_x]⟩
    · rw [dT_co (fun z => q z.2), dT_xo (fun z => q z.2), pk_un (by omega), pk_un (by omega)]
      exact a4 i (by omega)
  · refine ⟨a1, a2, by rw [pk_un e, dT_no e]; exact a3, fun i hi => ?_⟩
    rw [dT_no e] at hi
    rw [dT_co (fun z => e z.1), dT_xo (fun z => e z.1), pk_un (by omega), pk_un (by omega)]
    exact a4 i hi
theorem RM_att (hM : RM σ D nd) (ht : t < nd) (ha : a < 6) (e1 : τ.1 117 15 = σ.1 117 15) (e2 : τ.1 123 = σ.1 123) (e3 : τ.1 126 = upd (σ.1 126) (6 * t + a) 1) (e4 : τ.1 127 = upd (σ.1 127) (6 * t + a) x) (e5 : τ.1 128 = σ.1 128) (e6 : τ.1 129 = σ.1 129) (e7 : τ.1 130 = σ.1 130) : RM τ (dA D t a x) nd := by
  obtain ⟨w, m1, m2⟩ := hM
  refine ⟨w, e1.trans m1, fun u hu => ?_⟩
  obtain ⟨a1, a2, a3, a4⟩ := m2 u hu
  rw [e2, e3, e4, e5, e6, e7]
  refine ⟨a1, fun i hi => ?_, a3, a4⟩
  by_cases q : u = t ∧ i = a
  · obtain ⟨rfl, rfl⟩ := q
    rw [dA_a, pk_us, pk_us]
    exact ⟨(bP_t (fun z => by cases z)).symm, fun v hv => by cases hv; rfl⟩
  · rw [dA_ao q, pk_un (by omega), pk_un (by omega)]
    exact a2 i hi
theorem RM_open (hM : RM σ D nd) (hn : nd < 16) (ht : dn ≠ 0 → t < nd ∧ D.2.2.1 t < 6) (e1 : τ.1 117 15 = nI (nd + 1)) (e2 : τ.1 123 = upd (σ.1 123) nd nm) (e3 : ∀ i, (i < 6 * nd ∨ 6 * nd + 6 ≤ i → τ.1 126 i = σ.1 126 i) ∧ (6 * nd ≤ i → i < 6 * nd + 6 → τ.1 126 i = 0)) (e4 : τ.1 127 = σ.1 127) (e5 : τ.1 128 = if dn = 0 then σ.1 128 else upd (σ.1 128) (6 * t + D.2.2.1 t) (nI nd)) (e6 : τ.1 129 = σ.1 129) (e7 : τ.1 130 = if dn = 0 then upd (σ.1 130) nd 0 else upd (upd (σ.1 130) nd 0) t (nI (D.2.2.1 t + 1))) : RM τ (dO D nd dn t nm) (nd + 1) := by
  obtain ⟨w, m1, m2⟩ := hM
  refine ⟨WD_O w hn ht, e1, fun u hu => ?_⟩
  rw [e2, e4, e5, e6, e7]
  by_cases e : u = nd
  · subst e
    refine ⟨by rw [pk_us, dO_1], fun i hi => ?_, ?_, fun i hi => ?_⟩
    · rw [dO_a, (e3 _).2 (by omega) (by omega)]
      exact ⟨(bP_f (fun z => z rfl)).symm, fun v hv => by cases hv⟩
    · rw [dO_n]
      by_cases q : dn = 0
      · rw [if_pos q, pk_us]
        rfl
      · have := ht q
        rw [if_neg q, pk_un (by omega), pk_us]
        rfl
    · rw [dO_n] at hi
      exact absurd hi (by omega)
  · obtain ⟨a1, a2, a3, a4⟩ := m2 u (by omega)
    have h6 := (w.2 u (by omega)).1
    refine ⟨by rw [pk_un e, dO_1o e]; exact a1, fun i hi => ?_, ?_, fun i hi => ?_⟩
    · rw [dO_ao e, (e3 _).1 (by omega)]
      exact a2 i hi
    · by_cases q : dn = 0
      · rw [if_pos q, pk_un e, dO_no e (fun z => z.1 q)]
        exact a3
      · rw [if_neg q]
        by_cases r : u = t
        · subst r
          rw [pk_us, dO_nt e q]
        · rw [pk_un r, pk_un e, dO_no e (fun z => r z.2)]
          exact a3
    · by_cases q : dn = 0
      · rw [dO_no e (fun z => z.1 q)] at hi
        rw [if_pos q, dO_co (fun z => z.1 q)]
        rcases a4 i hi with b | ⟨v, v1, v2, v3⟩
        · exact Or.inl b
        · exact Or.inr ⟨v, v1, by omega, v3⟩
      · rw [if_neg q]
        obtain ⟨t1, t2⟩ := ht q
        by_cases r : u = t
        · subst r
          rw [dO_nt e q] at hi
          by_cases y : i = D.2.2.1 u
          · rw [y, dO_c q, pk_us]
            exact Or.inr ⟨nd, rfl, by omega, rfl⟩
          · rw [dO_co (fun z => y z.2.2), pk_un (by omega)]
            rcases a4 i (by omega) with b | ⟨v, v1, v2, v3⟩
            · exact Or.inl b
            · exact Or.inr ⟨v, v1, by omega, v3⟩
        · rw [dO_no e (fun z => r z.2)] at hi
          rw [dO_co (fun z => r z.2.1), pk_un (by omega)]
          rcases a4 i hi with b | ⟨v, v1, v2, v3⟩
          · exact Or.inl b
          · exact Or.inr ⟨v, v1, by omega, v3⟩
/-! the class's document -/
theorem RN_cg {E : Dc} {na : Nat} {nj : Nat → Nat} (h0 : ∀ j, j < 6 → τ.1 (11 + 6 * t + j) = σ.1 (11 + 6 * t + j)) (d1 : E.1 t = D.1 t) (d2 : E.2.1 t = D.2.1 t) (d3 : E.2.2.1 t = D.2.2.1 t) (d4 : ∀ i, i < D.2.2.1 t → E.2.2.2.1 t i = D.2.2.2.1 t i) (d5 : ∀ i, i < D.2.2.1 t → E.2.2.2.2 t i = D.2.2.2.2 t i) (h : RN σ D t na nj) : RN τ E t na nj := by
  have q0 : τ.1 (11 + 6 * t) = σ.1 (11 + 6 * t) := h0 0 (by decide)
  unfold RN at h ⊢
  rw [q0, h0 1 (by decide), h0 2 (by decide), h0 4 (by decide), h0 5 (by decide), d1, d2, d3]
  obtain ⟨r1, r2, r3, r4, r5, r6, r7, r8⟩ := h
  refine ⟨r1, r2, r3, r4, r5, r6, r7, fun i hi => ?_⟩
  rw [d4 i hi, d5 i hi]
  exact r8 i hi
theorem RC_text (hC : RC σ D nd) (ht : t < nd) (hc : D.2.2.1 t < 6) : RC (s_addC σ (11 + 6 * t) (D.2.2.1 t) (-1) x) (dT D t x) nd := by
  obtain ⟨w, m1, m2⟩ := hC
  have hnd := w.1
  have cell : ∀ j, j ≠ 11 + 6 * t → j ≠ 11 + 6 * t + 4 → j ≠ 11 + 6 * t + 5 → (s_addC σ (11 + 6 * t) (D.2.2.1 t) (-1) x).1 j = σ.1 j := fun j a b c => by
    unfold s_addC
    rw [sI_ne _ a, sI_ne _ c, sI_ne _ b]
  refine ⟨WD_T w hc, by rw [cell 8 (by omega) (by omega) (by omega)]; exact m1, fun u hu => ?_⟩
  obtain ⟨na, nj, h⟩ := m2 u hu
  refine ⟨na, nj, ?_⟩
  by_cases e : u = t
  · subst e
    obtain ⟨r1, r2, r3, r4, r5, r6, r7, r8⟩ := h
    have c0 : (s_addC σ (11 + 6 * u) (D.2.2.1 u) (-1) x).1 (11 + 6 * u) = upd (σ.1 (11 + 6 * u)) 7 (nI (D.2.2.1 u + 1)) := sI_at _
    have c4 : (s_addC σ (11 + 6 * u) (D.2.2.1 u) (-1) x).1 (11 + 6 * u + 4) = upd (σ.1 (11 + 6 * u + 4)) (D.2.2.1 u) (-1) := by
      unfold s_addC
      rw [sI_ne _ (by omega), sI_ne _ (by omega), sI_at]
    have c5 : (s_addC σ (11 + 6 * u) (D.2.2.1 u) (-1) x).1 (11 + 6 * u + 5) = upd (σ.1 (11 + 6 * u + 5)) (D.2.2.1 u) x := by
      unfold s_addC
      rw [sI_ne _ (by omega), sI_at]
    unfold RN
    rw [c0, c4, c5, cell _ (by omega) (by omega) (by omega), cell (11 + 6 * u + 2) (by omega) (by omega) (by omega), pk_un (show 0 ≠ 7 by decide), pk_un (show 4 ≠ 7 by decide), pk_us, dT_n]
    refine ⟨r1, r2, r3, r4, r5, r6, rfl, fun i hi => ?_⟩
    by_cases q : i = D.2.2.1 u
    · rw [q, pk_us, pk_us]
      exact Or.inl ⟨dT_c, rfl, dT_x.symm⟩
    · rw [dT_co (fun z => q z.2), dT_xo (fun z => q z.2), pk_un q, pk_un q]
      exact r8 i (by omega)
  · exact RN_cg (D := D) (fun j hj => cell _ (by omega) (by omega) (by omega)) rfl rfl (dT_no e) (fun i _ => dT_co (fun z => e z.1)) (fun i _ => dT_xo (fun z => e z.1)) h
theorem RC_att (hC : RC σ D nd) (ht : t < nd) (ha : a < 6) (hno : D.2.1 t a = none) (h3 : cA D t 6 < 3) : RC (s_addA σ (11 + 6 * t) (cA D t 6) (nI a) x) (dA D t a x) nd := by
  obtain ⟨w, m1, m2⟩ := hC
  have hnd := w.1
  have cell : ∀ j, j ≠ 11 + 6 * t → j ≠ 11 + 6 * t + 1 → j ≠ 11 + 6 * t + 2 → (s_addA σ (11 + 6 * t) (cA D t 6) (nI a) x).1 j = σ.1 j := fun j a b c => by
    unfold s_addA
    rw [sI_ne _ a, sI_ne _ c, sI_ne _ b]
  refine ⟨w, by rw [cell 8 (by omega) (by omega) (by omega)]; exact m1, fun u hu => ?_⟩
  obtain ⟨na, nj, h⟩ := m2 u hu
  by_cases e : u = t
  · subst e
    have ena := RN_na h
    rw [← ena] at h3 ⊢
    obtain ⟨r1, r2, r3, r4, r5, r6, r7, r8⟩ := h
    have cell' : ∀ j, j ≠ 11 + 6 * u → j ≠ 11 + 6 * u + 1 → j ≠ 11 + 6 * u + 2 → (s_addA σ (11 + 6 * u) na (nI a) x).1 j = σ.1 j := fun j p q r => by
      rw [ena]
      exact cell j p q r
    have c0 : (s_addA σ (11 + 6 * u) na (nI a) x).1 (11 + 6 * u) = upd (σ.1 (11 + 6 * u)) 4 (nI (na + 1)) := sI_at _
    have k1 : (s_addA σ (11 + 6 * u) na (nI a) x).1 (11 + 6 * u + 1) = upd (σ.1 (11 + 6 * u + 1)) na (nI a) := by
      unfold s_addA
      rw [sI_ne _ (by omega), sI_ne _ (by omega), sI_at]
    have k2 : (s_addA σ (11 + 6 * u) na (nI a) x).1 (11 + 6 * u + 2) = upd (σ.1 (11 + 6 * u + 2)) na x := by
      unfold s_addA
      rw [sI_ne _ (by omega), sI_at]
    have old : ∀ j, j < na → nj j ≠ a := fun j hj z => by
      have := (r5 j hj).2
      rw [z, hno] at this
      cases this
    refine ⟨na + 1, upd' nj na a, ?_⟩
    unfold RN
    rw [c0, k1, k2, cell' (11 + 6 * u + 4) (by omega) (by omega) (by omega), cell' (11 + 6 * u + 5) (by omega) (by omega) (by omega), pk_un (show 0 ≠ 4 by decide), pk_us, pk_un (show 7 ≠ 4 by decide)]
    refine ⟨r1, ⟨fun j hj => ?_, fun i j hi hj hij => ?_⟩, by omega, rfl, fun j hj => ?_, fun b hb hq => ?_, r7, r8⟩
    · by_cases q : j = na
      · rw [q, u'_s]
        exact ha
      · rw [u'_n q]
        exact r2.1 j (by omega)
    · by_cases q : i = na
      · by_cases q2 : j = na
        · omega
        · rw [q, u'_s, u'_n q2] at hij
          exact absurd hij.symm (old j (by omega))
      · by_cases q2 : j = na
        · rw [q2, u'_s, u'_n q] at hij
          exact absurd hij (old i (by omega))
        · rw [u'_n q, u'_n q2] at hij
          exact r2.2 i j (by omega) (by omega) hij
    · by_cases q : j = na
      · rw [q, u'_s, pk_us, pk_us, dA_a]
        exact ⟨rfl, rfl⟩
      · rw [u'_n q, pk_un q, pk_un q, dA_ao (fun z => old j (by omega) z.2)]
        exact r5 j (by omega)
    · by_cases q : b = a
      · exact ⟨na, by omega, by rw [u'_s, q]⟩
      · rw [dA_ao (fun z => q z.2)] at hq
        obtain ⟨j, j1, j2⟩ := r6 b hb hq
        exact ⟨j, by omega, by rw [u'_n (by omega)]; exact j2⟩
  · refine ⟨na, nj, RN_cg (D := D) (fun j hj => cell _ (by omega) (by omega) (by omega)) rfl (funext fun i => dA_ao (fun z => e z.1)) rfl (fun _ _ => rfl) (fun _ _ => rfl) h⟩
theorem RC_open (hC : RC σ D nd) (hn : nd < 16) (ht : dn ≠ 0 → t < nd ∧ D.2.2.1 t < 6) : RC (s_open σ nd dn t (D.2.2.1 t) nm) (dO D nd dn t nm) (nd + 1) := by
  obtain ⟨w, m1, m2⟩ := hC
  -- a new node over any state
  have fresh : ∀ υ : sg, RN (s_node υ nd dn nm) (dO D nd dn t nm) nd 0 (fun _ => 0) := fun υ => by
    have c0 : (s_node υ nd dn nm).1 (11 + 6 * nd) = upd (upd (upd (υ.1 (11 + 6 * nd)) 0 nm) 4 0) 7 0 := by
      unfold s_node s_begin
      rw [sI_ne _ (by omega), sI_ne _ (by omega), sI_at]
    unfold RN
    rw [c0, dO_1, dO_n, pk_un (show 0 ≠ 7 by decide), pk_un (show 0 ≠ 4 by decide), pk_us, pk_un (show 4 ≠ 7 by decide), pk_us, pk_us]
    refine ⟨rfl, ⟨fun j hj => absurd hj (by omega), fun i j hi => absurd hi (by omega)⟩, by omega, rfl, fun j hj => absurd hj (by omega), fun a _ hq => ?_, rfl, fun i hi => absurd hi (by omega)⟩
    exact absurd dO_a hq
  have c8 : ∀ υ : sg, (s_node υ nd dn nm).1 8 1 = nI (nd + 1) := fun υ => by
    unfold s_node
    rw [sI_at, pk_us]
  have cell : ∀ (υ : sg) j, 11 ≤ j → j ≠ 11 + 6 * nd → (s_node υ nd dn nm).1 j = υ.1 j := fun υ j a b => by
    unfold s_node s_begin
    rw [sI_ne _ (by omega), sI_ne _ (by omega), sI_ne _ b]
  refine ⟨WD_O w hn ht, ?_, fun u hu => ?_⟩
  · unfold s_open
    by_cases q : dn = 0
    · rw [if_pos q]
      exact c8 _
    · rw [if_neg q]
      exact c8 _
  · by_cases e : u = nd
    · subst e
      refine ⟨0, fun _ => 0, ?_⟩
      unfold s_open
      by_cases q : dn = 0
      · rw [if_pos q]
        exact fresh _
      · rw [if_neg q]
        exact fresh _
    · obtain ⟨na, nj, h⟩ := m2 u (by omega)
      refine ⟨na, nj, ?_⟩
      unfold s_open
      by_cases q : dn = 0
      · rw [if_pos q]
        exact RN_cg (fun j hj => cell _ _ (by omega) (by omega)) (dO_1o e) (funext fun a => dO_ao e) (dO_no e (fun z => z.1 q)) (fun i _ => dO_co (fun z => z.1 q)) (fun _ _ => rfl) h
      · rw [if_neg q]
        obtain ⟨t1, t2⟩ := ht q
        have cel2 : ∀ j, j ≠ 11 + 6 * t → j ≠ 11 + 6 * t + 4 → j ≠ 11 + 6 * t + 5 → (s_addC σ (11 + 6 * t) (D.2.2.1 t) (nI nd) 0).1 j = σ.1 j := fun j a b c => by
          unfold s_addC
          rw [sI_ne _ a, sI_ne _ c, sI_ne _ b]
        by_cases r : u = t
        · subst r
          obtain ⟨r1, r2, r3, r4, r5, r6, r7, r8⟩ := h
          have c0 : (s_addC σ (11 + 6 * u) (D.2.2.1 u) (nI nd) 0).1 (11 + 6 * u) = upd (σ.1 (11 + 6 * u)) 7 (nI (D.2.2.1 u + 1)) := sI_at _
          have c4 : (s_addC σ (11 + 6 * u) (D.2.2.1 u) (nI nd) 0).1 (11 + 6 * u + 4) = upd (σ.1 (11 + 6 * u + 4)) (D.2.2.1 u) (nI nd) := by
            unfold s_addC
            rw [sI_ne _ (by omega), sI_ne _ (by omega), sI_at]
          have c5 : (s_addC σ (11 + 6 * u) (D.2.2.1 u) (nI nd) 0).1 (11 + 6 * u + 5) = upd (σ.1 (11 + 6 * u + 5)) (D.2.2.1 u) 0 := by
            unfold s_addC
            rw [sI_ne _ (by omega), sI_at]
          unfold RN
          rw [cell _ (11 + 6 * u) (by omega) (by omega), cell _ (11 + 6 * u + 1) (by omega) (by omega), cell _ (11 + 6 * u + 2) (by omega) (by omega), cell _ (11 + 6 * u + 4) (by omega) (by omega), cell _ (11 + 6 * u + 5) (by omega) (by omega), c0, c4, c5, cel2 (11 + 6 * u + 1) (by omega) (by omega) (by omega), cel2 (11 + 6 * u + 2) (by omega) (by omega) (by omega), pk_un (show 0 ≠ 7 by decide), pk_un (show 4 ≠ 7 by decide), pk_us, dO_nt e q, dO_1o e]
          refine ⟨r1, r2, r3, r4, fun j hj => ?_, fun a ha hq => r6 a ha (by rw [dO_ao e] at hq; exact hq), rfl, fun i hi => ?_⟩
          · rw [dO_ao e]
            exact r5 j hj
          · by_cases y : i = D.2.2.1 u
            · rw [y, dO_c q, pk_us]
              exact Or.inr ⟨nd, rfl, hn, rfl⟩
            · rw [dO_co (fun z => y z.2.2), pk_un y, pk_un y]
              exact r8 i (by omega)
        · exact RN_cg (fun j hj => (cell _ _ (by omega) (by omega)).trans (cel2 _ (by omega) (by omega) (by omega))) (dO_1o e) (funext fun a => dO_ao e) (dO_no e (fun z => r z.2)) (fun i _ => dO_co (fun z => r z.2.1)) (fun _ _ => rfl) h
theorem RM_less (h : RM σ D nd) (e : ∀ j, 118 ≤ j → τ.1 j = σ.1 j) (e1 : τ.1 117 15 = nI 0) : RM τ D 0 := ⟨⟨Nat.zero_le _, fun t ht => absurd ht (Nat.not_lt_zero _)⟩, e1, fun t ht => absurd ht (Nat.not_lt_zero _)⟩
theorem RC_less (e1 : τ.1 8 1 = nI 0) : RC τ D 0 := ⟨⟨Nat.zero_le _, fun t ht => absurd ht (Nat.not_lt_zero _)⟩, e1, fun t ht => absurd ht (Nat.not_lt_zero _)⟩
end DT
