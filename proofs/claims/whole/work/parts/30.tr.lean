/-! sets of attributes by place, and by name -/
def ph (nj : Nat → Nat) (A : Nat) : Nat → Nat
  | 0 => 0
  | j + 1 => if A.testBit j = true then ph nj A j ||| 2 ^ nj j else ph nj A j
def ps (nj : Nat → Nat) (B : Nat) : Nat → Nat
  | 0 => 0
  | j + 1 => if B.testBit (nj j) = true then ps nj B j ||| 2 ^ j else ps nj B j
section PH
variable {nj : Nat → Nat} {na : Nat}
theorem ph_b (A x : Nat) : ∀ n, (ph nj A n).testBit x = true ↔ ∃ j, j < n ∧ A.testBit j = true ∧ nj j = x := by
  intro n
  induction n with
  | zero => exact ⟨fun h => (by rw [show ph nj A 0 = 0 from rfl, Nat.zero_testBit] at h; cases h), fun ⟨j, h, _⟩ => absurd h (by omega)⟩
  | succ n ih =>
    unfold ph
    by_cases h : A.testBit n = true
    · rw [if_pos h, Nat.testBit_or, Bool.or_eq_true, ih, Nat.testBit_two_pow, decide_eq_true_eq]
      constructor
      · rintro (⟨j, h1, h2⟩ | e)
        · exact ⟨j, by omega, h2⟩
        · exact ⟨n, by omega, h, e⟩
      · rintro ⟨j, h1, h2, h3⟩
        rcases Nat.lt_or_ge j n with y | y
        · exact Or.inl ⟨j, y, h2, h3⟩
        · rw [show j = n by omega] at h3
          exact Or.inr h3
    · rw [if_neg h, ih]
      constructor
      · rintro ⟨j, h1, h2⟩
        exact ⟨j, by omega, h2⟩
      · rintro ⟨j, h1, h2, h3⟩
        rcases Nat.lt_or_ge j n with y | y
        · exact ⟨j, y, h2, h3⟩
        · rw [show j = n by omega] at h2
          exact absurd h2 h
theorem ps_b (B x : Nat) : ∀ n, (ps nj B n).testBit x = true ↔ x < n ∧ B.testBit (nj x) = true := by
  intro n
  induction n with
  | zero => exact ⟨fun h => (by rw [show ps nj B 0 = 0 from rfl, Nat.zero_testBit] at h; cases h), fun ⟨h, _⟩ => absurd h (by omega)⟩
  | succ n ih =>
    unfold ps
    by_cases h : B.testBit (nj n) = true
    · rw [if_pos h, Nat.testBit_or, Bool.or_eq_true, ih, Nat.testBit_two_pow, decide_eq_true_eq]
      constructor
      · rintro (⟨h1, h2⟩ | rfl)
        · exact ⟨by omega, h2⟩
        · exact ⟨by omega, h⟩
      · rintro ⟨h1, h2⟩
        rcases Nat.lt_or_ge x n with y | y
        · exact Or.inl ⟨y, h2⟩
        · exact Or.inr (by omega)
    · rw [if_neg h, ih]
      constructor
      · rintro ⟨h1, h2⟩
        exact ⟨by omega, h2⟩
      · rintro ⟨h1, h2⟩
        rcases Nat.lt_or_ge x n with y | y
        · exact ⟨y, h2⟩
        · rw [show x = n by omega] at h2
          exact absurd h2 h
theorem tb_eq {a b : Nat} (h : ∀ x, a.testBit x = true ↔ b.testBit x = true) : a = b := Nat.eq_of_testBit_eq fun x => by
  by_cases q : a.testBit x = true
  · rw [q, (h x).mp q]
  · rw [ts_nt q, ts_nt (fun z => q ((h x).mpr z))]
theorem tb_0 {a : Nat} (h : ∀ x, ¬ a.testBit x = true) : a = 0 := tb_eq fun x => ⟨fun q => absurd q (h x), fun q => by rw [Nat.zero_testBit] at q; cases q⟩
theorem tb_and {a b x : Nat} : (a &&& b).testBit x = true ↔ a.testBit x = true ∧ b.testBit x = true := by rw [Nat.testBit_and, Bool.and_eq_true]
theorem tb_or {a b x : Nat} : (a ||| b).testBit x = true ↔ a.testBit x = true ∨ b.testBit x = true := by rw [Nat.testBit_or, Bool.or_eq_true]
theorem tb_dj {a b x : Nat} (h : a &&& b = 0) (h1 : a.testBit x = true) (h2 : b.testBit x = true) : False := by
  have : (a &&& b).testBit x = true := tb_and.mpr ⟨h1, h2⟩
  rw [h, Nat.zero_testBit] at this
  cases this
theorem tb_lt {A j na : Nat} (h : A < 2 ^ na) (hb : A.testBit j = true) : j < na := by
  rcases Nat.lt_or_ge j na with q | q
  · exact q
  · rw [Nat.testBit_lt_two_pow (Nat.lt_of_lt_of_le h (Nat.pow_le_pow_right (by decide) q))] at hb
    cases hb
theorem lt_tb {A na : Nat} (h : ∀ j, A.testBit j = true → j < na) : A < 2 ^ na := by
  refine Nat.lt_pow_two_of_testBit A fun j hj => ts_nt fun q => ?_
  have := h j q
  omega
/-- the names: na different ones below 6 -/
def NJ (nj : Nat → Nat) (na : Nat) : Prop := (∀ j, j < na → nj j < 6) ∧ ∀ i j, i < na → j < na → nj i = nj j → i = j
theorem ph_64 (h : NJ nj na) (A : Nat) : ph nj A na < 64 := lt_tb (na := 6) fun x hx => by
  obtain ⟨j, h1, -, h3⟩ := (ph_b A x na).mp hx
  rw [← h3]
  exact h.1 j h1
theorem ph_or (a b : Nat) : ph nj (a ||| b) na = ph nj a na ||| ph nj b na := tb_eq fun x => by
  rw [tb_or, ph_b, ph_b, ph_b]
  constructor
  · rintro ⟨j, h1, h2, h3⟩
    rcases tb_or.mp h2 with q | q
    · exact Or.inl ⟨j, h1, q, h3⟩
    · exact Or.inr ⟨j, h1, q, h3⟩
  · rintro (⟨j, h1, h2, h3⟩ | ⟨j, h1, h2, h3⟩)
    · exact ⟨j, h1, tb_or.mpr (Or.inl h2), h3⟩
    · exact ⟨j, h1, tb_or.mpr (Or.inr h2), h3⟩
theorem ph_dj (h : NJ nj na) {a b : Nat} (hd : a &&& b = 0) : ph nj a na &&& ph nj b na = 0 := tb_0 fun x hx => by
  obtain ⟨q1, q2⟩ := tb_and.mp hx
  obtain ⟨j, h1, h2, h3⟩ := (ph_b a x na).mp q1
  obtain ⟨j', h4, h5, h6⟩ := (ph_b b x na).mp q2
  cases h.2 j j' h1 h4 (h3.trans h6.symm)
  exact tb_dj hd h2 h5
theorem ph_ps (h : NJ nj na) {A B : Nat} (hB : ∀ x, B.testBit x = true → (ph nj A na).testBit x = true) : ph nj (ps nj B na) na = B := tb_eq fun x => by
  rw [ph_b]
  constructor
  · rintro ⟨j, h1, h2, h3⟩
    have := ((ps_b B j na).mp h2).2
    rw [h3] at this
    exact this
  · intro hx
    obtain ⟨j, h1, h2, h3⟩ := (ph_b A x na).mp (hB x hx)
    exact ⟨j, h1, (ps_b B j na).mpr ⟨h1, by rw [h3]; exact hx⟩, h3⟩
theorem ps_lt (B : Nat) : ps nj B na < 2 ^ na := lt_tb fun j hj => ((ps_b B j na).mp hj).1
theorem ps_ph (h : NJ nj na) {A : Nat} (hA : A < 2 ^ na) : ps nj (ph nj A na) na = A := tb_eq fun x => by
  rw [ps_b, ph_b]
  constructor
  · rintro ⟨h1, j, h2, h3, h4⟩
    cases h.2 j x h2 h1 h4
    exact h3
  · intro hx
    exact ⟨tb_lt hA hx, x, tb_lt hA hx, hx, rfl⟩
theorem ps_or (a b : Nat) : ps nj (a ||| b) na = ps nj a na ||| ps nj b na := tb_eq fun x => by
  rw [tb_or, ps_b, ps_b, ps_b, tb_or]
  exact ⟨fun ⟨h1, h2⟩ => h2.imp (fun q => ⟨h1, q⟩) (fun q => ⟨h1, q⟩), fun q => q.elim (fun z => ⟨z.1, Or.inl z.2⟩) (fun z => ⟨z.1, Or.inr z.2⟩)⟩
theorem ps_dj {a b : Nat} (hd : a &&& b = 0) : ps nj a na &&& ps nj b na = 0 := tb_0 fun x hx => by
  obtain ⟨q1, q2⟩ := tb_and.mp hx
  exact tb_dj hd ((ps_b a x na).mp q1).2 ((ps_b b x na).mp q2).2
theorem ph_0 (h : NJ nj na) {A : Nat} (hA : A < 2 ^ na) : ph nj A na = 0 ↔ A = 0 := by
  constructor
  · intro e
    rw [← ps_ph h hA, e]
    exact tb_0 fun x hx => by have := ((ps_b 0 x na).mp hx).2; rw [Nat.zero_testBit] at this; cases this
  · intro e
    rw [e]
    exact tb_0 fun x hx => by
      obtain ⟨j, -, h2, -⟩ := (ph_b 0 x na).mp hx
      rw [Nat.zero_testBit] at h2
      cases h2
theorem ph_2 {j : Nat} (hj : j < na) : ph nj (2 ^ j) na = 2 ^ nj j := tb_eq fun x => by
  rw [ph_b, Nat.testBit_two_pow, decide_eq_true_eq]
  constructor
  · rintro ⟨i, h1, h2, h3⟩
    rw [Nat.testBit_two_pow, decide_eq_true_eq] at h2
    rw [h2]
    exact h3
  · intro e
    exact ⟨j, hj, by rw [Nat.testBit_two_pow, decide_eq_true_eq], e⟩
theorem Gp_ph (h : NJ nj na) (hn : na ≤ 6) {cut : Bool} {X Y X' Y' : Nat → Nat → Prop} (hx : ∀ a x, a < 2 ^ na → (X a x ↔ X' (ph nj a na) x)) (hy : ∀ a x, a < 2 ^ na → (Y a x ↔ Y' (ph nj a na) x)) {A z : Nat} (hA : A < 2 ^ na) : Gp cut X Y A z ↔ Gp cut X' Y' (ph nj A na) z := by
  have h64 : 2 ^ na ≤ 64 := Nat.pow_le_pow_right (n := 2) (by decide) hn
  constructor
  · rintro ⟨a, b, x, y, h1, h2, h3, h4, h5, h6, h7, h8, h9, h10, h11⟩
    have ha : a < 2 ^ na := Nat.lt_of_le_of_lt (by rw [h6]; exact or_le.1) hA
    have hb : b < 2 ^ na := Nat.lt_of_le_of_lt (by rw [h6]; exact or_le.2) hA
    exact ⟨ph nj a na, ph nj b na, x, y, ph_64 h a, ph_64 h b, h3, h4, ph_dj h h5, by rw [h6, ph_or], h7, h8, h9, (hx a x ha).mp h10, (hy b y hb).mp h11⟩
  · rintro ⟨a, b, x, y, h1, h2, h3, h4, h5, h6, h7, h8, h9, h10, h11⟩
    have ea : ph nj (ps nj a na) na = a := ph_ps h (A := A) fun x hx => by rw [h6]; exact tb_or.mpr (Or.inl hx)
    have eb : ph nj (ps nj b na) na = b := ph_ps h (A := A) fun x hx => by rw [h6]; exact tb_or.mpr (Or.inr hx)
    refine ⟨ps nj a na, ps nj b na, x, y, Nat.lt_of_lt_of_le (ps_lt a) h64, Nat.lt_of_lt_of_le (ps_lt b) h64, h3, h4, ps_dj h5, ?_, h7, h8, h9, (hx _ x (ps_lt a)).mpr (by rw [ea]; exact h10), (hy _ y (ps_lt b)).mpr (by rw [eb]; exact h11)⟩
    rw [← ps_or, ← h6, ps_ph h hA]
theorem Mo_ph (h : NJ nj na) (hn : na ≤ 6) {X X' : Nat → Nat → Prop} (hx : ∀ a x, a < 2 ^ na → (X a x ↔ X' (ph nj a na) x)) {A z : Nat} (hA : A < 2 ^ na) : Mo X A z ↔ Mo X' (ph nj A na) z := by
  have h64 : 2 ^ na ≤ 64 := Nat.pow_le_pow_right (n := 2) (by decide) hn
  constructor
  · intro q
    refine q (fun A z => A < 2 ^ na → Mo X' (ph nj A na) z) (fun A z hX hA => Mo_of ((hx A z hA).mp hX)) (fun A z hG hA => Mo_l ?_) hA
    obtain ⟨a, b, x, y, h1, h2, h3, h4, h5, h6, h7, h8, h9, h10, h11⟩ := hG
    have ha : a < 2 ^ na := Nat.lt_of_le_of_lt (by rw [h6]; exact or_le.1) hA
    have hb : b < 2 ^ na := Nat.lt_of_le_of_lt (by rw [h6]; exact or_le.2) hA
    exact ⟨ph nj a na, ph nj b na, x, y, ph_64 h a, ph_64 h b, h3, h4, ph_dj h h5, by rw [h6, ph_or], h7, h8, h9, h10 ha, (hx b y hb).mp h11⟩
  · intro q
    refine q (fun B z => ∀ A, A < 2 ^ na → B = ph nj A na → Mo X A z) (fun B z hX A hA e => Mo_of ((hx A z hA).mpr (by rw [← e]; exact hX))) (fun B z hG A hA e => Mo_l ?_) A hA rfl
    obtain ⟨a, b, x, y, h1, h2, h3, h4, h5, h6, h7, h8, h9, h10, h11⟩ := hG
    rw [e] at h6
    have ea : ph nj (ps nj a na) na = a := ph_ps h (A := A) fun x hx => by rw [h6]; exact tb_or.mpr (Or.inl hx)
    have eb : ph nj (ps nj b na) na = b := ph_ps h (A := A) fun x hx => by rw [h6]; exact tb_or.mpr (Or.inr hx)
    refine ⟨ps nj a na, ps nj b na, x, y, Nat.lt_of_lt_of_le (ps_lt a) h64, Nat.lt_of_lt_of_le (ps_lt b) h64, h3, h4, ps_dj h5, ?_, h7, h8, h9, h10 _ (ps_lt a) ea.symm, (hx _ y (ps_lt b)).mpr (by rw [eb]; exact h11)⟩
    rw [← ps_or, ← h6, ps_ph h hA]
end PH
theorem SM_tr {k f s g : Nat → Int32} {n : Nat} {H : Nat → Nat} (hW : WG k f s g n H) (hH : ∀ q, q < n → H q ≤ 32) (hk : ∀ p, p < n → ∃ kn, kn ≤ 10 ∧ k p = nI kn) {X : Nat → Prop} (hX : ∀ p c, X p → c < 40 → Ch k f s g p c → X c) (hXn : ∀ p, X p → p < n) {nj : Nat → Nat} {na : Nat} (hj : NJ nj na) (hn : na ≤ 6) {at9 at9' : Nat → Nat → Prop} {tx tx' : Nat → Prop} {e e' : Nat → Nat → Prop} (h9 : ∀ p, X p → k p = 9 → (∀ j, at9 p j → j < na ∧ at9' p (nj j)) ∧ ∀ a, at9' p a → ∃ j, j < na ∧ a = nj j ∧ at9 p j) (htx : ∀ i, i < 6 → (tx i ↔ tx' i)) (he : ∀ p, X p → k p = 3 ∨ k p = 8 → ∀ i, i < 6 → (e p i ↔ e' p i)) : ∀ d p, X p → H p < d → ∀ A z, A < 2 ^ na → (SM k f s g at9 tx e p A z ↔ SM k f s g at9' tx' e' p (ph nj A na) z) := by
  intro d
  induction d with
  | zero => intro p _ h; exact absurd h (by omega)
  | succ d ih =>
    intro p hXp hd A z hA
    have hp := hXn p hXp
    have if_ : (k p = 4 ∨ k p = 5 ∨ k p = 6 ∨ k p = 7) → ∀ A z, A < 2 ^ na → (SM k f s g at9 tx e (ot f p) A z ↔ SM k f s g at9' tx' e' (ot f p) (ph nj A na) z) := fun q => ih _ (hX p _ hXp (Ch_f hW hp q).1 (Ch_f hW hp q).2.2) (by have := (c_fn hW hH q hp).2; omega)
    have is_ : (k p = 4 ∨ k p = 5 ∨ k p = 6 ∨ k p = 9) → ∀ A z, A < 2 ^ na → (SM k f s g at9 tx e (ot s p) A z ↔ SM k f s g at9' tx' e' (ot s p) (ph nj A na) z) := fun q => ih _ (hX p _ hXp (Ch_s hW hp q).1 (Ch_s hW hp q).2.2) (by have := (c_sn hW hH q hp).2; omega)
    rw [SM_un hW hH at9 tx e hp, SM_un hW hH at9' tx' e' hp]
    rcases kd_all hW hH hk hp with q | q | q | q | q | q | q | q | q | q | q
    · rw [bM_0 q, bM_0 q, ph_0 hj hA]
    · rw [bM_1 q, bM_1 q]
    · rw [bM_2 q, bM_2 q, ph_0 hj hA]
      exact and_congr_right fun _ => and_congr_right fun _ => ⟨fun h i hi hb => (htx i hi).mp (h i hi hb), fun h i hi hb => (htx i hi).mpr (h i hi hb)⟩
    · rw [bM_3 q, bM_3 q, ph_0 hj hA]
      exact and_congr_right fun _ => exists_congr fun i => and_congr_right fun hi => and_congr_right fun _ => he p hXp (Or.inl q) i hi
    · rw [bM_4 q, bM_4 q]
      exact Gp_ph hj hn (if_ (Or.inl q)) (is_ (Or.inl q)) hA
    · rw [bM_5 q, bM_5 q]
      exact Gp_ph hj hn (if_ (Or.inr (Or.inl q))) (is_ (Or.inr (Or.inl q))) hA
    · rw [bM_6 q, bM_6 q, if_ (Or.inr (Or.inr (Or.inl q))) A z hA, is_ (Or.inr (Or.inr (Or.inl q))) A z hA]
    · rw [bM_7 q, bM_7 q]
      exact Mo_ph hj hn (if_ (Or.inr (Or.inr (Or.inr q)))) hA
    · rw [bM_8 q, bM_8 q, ph_0 hj hA]
      exact and_congr_right fun _ => exists_congr fun i => and_congr_right fun hi => and_congr_right fun _ => he p hXp (Or.inr q) i hi
    · rw [bM_9 q, bM_9 q]
      obtain ⟨r1, r2⟩ := h9 p hXp q
      refine and_congr_right fun _ => ⟨?_, ?_⟩
      · rintro ⟨j, h1, h2, h3⟩
        obtain ⟨h4, h5⟩ := r1 j h3
        exact ⟨nj j, hj.1 j h4, by rw [h2, ph_2 h4], h5⟩
      · rintro ⟨a, h1, h2, h3⟩
        obtain ⟨j, h4, rfl, h5⟩ := r2 a h3
        refine ⟨j, by omega, ?_, h5⟩
        have e2 := ps_ph hj hA
        rw [h2, ← ph_2 h4, ps_ph hj (Nat.pow_lt_pow_right (by decide) h4)] at e2
        exact e2.symm
    · rw [bM_10 q, bM_10 q]
      refine exists_congr fun c => and_congr_right fun h1 => and_congr_right fun h2 => ?_
      have := c_gn hW hH q hp h1 h2
      exact ih c (hX p c hXp h1 (Ch_g hW hp h1 q h2)) (by omega) A z hA
