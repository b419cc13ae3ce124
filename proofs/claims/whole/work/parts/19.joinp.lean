/-! what append and join do to the rows, bit by bit -/
theorem m2_bit (i : Nat) (h : i < 64) : lb (-2) i = decide (0 < i) := by
  have e : ∀ i, i < 64 → lb (-2) i = decide (0 < i) := by decide +kernel
  exact e i h
theorem m2_shl {k j : Nat} (hk : k < 64) (hj : j < 64) : lb ((-2 : Int64) <<< ((nI k).toInt64 &&& 63)) j = decide (k < j) := by
  rw [lb_shl _ hk hj]
  by_cases h : k ≤ j
  · rw [decide_eq_true h, Bool.true_and, m2_bit _ (by omega)]
    exact decide_eq_decide.mpr (by omega)
  · rw [decide_eq_false h, Bool.false_and, decide_eq_false (by omega)]
/-- the lowest bit -/
theorem low_bit {x : Int64} (h : x ≠ 0) : ∃ r, r < 64 ∧ lb x r = true ∧ (∀ j, j < r → lb x j = false) ∧ (x &&& -x) - 1 = lN (2 ^ r - 1) := by
  have hex : ∃ r, lb x r = true := by
    rcases Classical.em (∃ r, lb x r = true) with h1 | h1
    · exact h1
    · exact absurd (lb_ext fun j _ => by rw [lb_0]; exact ts_nt fun q => h1 ⟨j, q⟩) h
  obtain ⟨r, hr, hmin⟩ := pk_least (fun r => lb x r = true) hex
  have hr64 : r < 64 := by
    rcases Nat.lt_or_ge r 64 with q | q
    · exact q
    · exact absurd hr (by rw [lb_ge x q]; decide)
  refine ⟨r, hr64, hr, fun j hj => ts_nt (hmin j hj), ?_⟩
  have e1 : (x &&& -x).toBitVec = BitVec.twoPow 64 r := by
    apply BitVec.eq_of_getLsbD_eq
    intro i hi
    rw [Int64.toBitVec_and, Int64.toBitVec_neg, BitVec.getLsbD_and, BitVec.getLsbD_neg, BitVec.getLsbD_twoPow]
    have hi2 : x.toBitVec.getLsbD i = lb x i := rfl
    by_cases h1 : i = r
    · subst h1
      have hn : ¬ (∃ j, j < i ∧ x.toBitVec.getLsbD j = true) := fun q => by
        obtain ⟨j, hj, q2⟩ := q
        exact hmin j hj q2
      rw [decide_eq_false hn, hi2, hr]
      simp [hi]
    · rcases Nat.lt_or_ge i r with h2 | h2
      · rw [hi2, ts_nt (hmin i h2)]
        simp [Ne.symm h1]
      · have hy : ∃ j, j < i ∧ x.toBitVec.getLsbD j = true := ⟨r, by omega, hr⟩
        rw [decide_eq_true hy]
        cases hb : x.toBitVec.getLsbD i <;> simp [Ne.symm h1, hi]
  apply wb_inj
  rw [Int64.toBitVec_sub, e1, wb_tb]
  apply BitVec.eq_of_toNat_eq
  have hp : 0 < 2 ^ r := Nat.two_pow_pos r
  have hlt : 2 ^ r < 2 ^ 64 := Nat.pow_lt_pow_right (by decide) hr64
  show (BitVec.twoPow 64 r - 1#64).toNat = _
  rw [BitVec.toNat_sub, BitVec.toNat_twoPow, BitVec.toNat_ofNat, BitVec.toNat_ofNat, Nat.mod_eq_of_lt hlt, Nat.mod_eq_of_lt (show 2 ^ r - 1 < 2 ^ 64 by omega)]
  show (2 ^ 64 - 1 % 2 ^ 64 + 2 ^ r) % 2 ^ 64 = 2 ^ r - 1
  omega
section AP
variable {R : Nat → Int64} {p a r s : Nat} {m : Int64}
theorem ap_other {i q c : Nat} (ha : a < 8) (hi : i ≤ 8) (hq : q ≠ p) (hc : c < 8) : apR R p a r s m i (q * 8 + c) = R (q * 8 + c) := by
  induction i with
  | zero => rfl
  | succ i ih =>
    by_cases h : a &&& i = 0
    · rw [apR_t h]
      have h8 := (bt8 a ha i (by omega)).2.2.2
      unfold vp_updL
      rw [if_neg (by omega)]
      exact ih (by omega)
    · rw [apR_f h]
      exact ih (by omega)
theorem ap_bit {i A z : Nat} (ha : a < 8) (hi : i ≤ 8) (hsp : s ≠ p) (hr : r < 64) (hA : A < 8) (hz : z < 64) :
    lb (apR R p a r s m i (p * 8 + A)) z = true ↔ lb (R (p * 8 + A)) z = true ∨ ∃ o, o < i ∧ a &&& o = 0 ∧ A = a ||| o ∧ r ≤ z ∧ lb (R (s * 8 + o)) (z - r) = true ∧ lb m (z - r) = true := by
  induction i with
  | zero =>
    constructor
    · intro h; exact Or.inl h
    · rintro (h | ⟨o, ho, -⟩)
      · exact h
      · omega
  | succ i ih =>
    have ih := ih (by omega)
    by_cases h : a &&& i = 0
    · rw [apR_t h]
      unfold vp_updL
      by_cases hx : A = a ||| i
      · rw [if_pos (by rw [hx]), lb_or, ← hx, ap_other ha (by omega) hsp (by omega : i < 8), lb_shl _ hr hz, lb_and, Bool.or_eq_true, ih]
        constructor
        · rintro ((h1 | ⟨o, ho, q⟩) | h2)
          · exact Or.inl h1
          · exact Or.inr ⟨o, by omega, q⟩
          · rw [Bool.and_eq_true, Bool.and_eq_true, decide_eq_true_eq] at h2
            exact Or.inr ⟨i, by omega, h, hx, h2.1, h2.2.1, h2.2.2⟩
        · rintro (h1 | ⟨o, ho, q1, q2, q3, q4, q5⟩)
          · exact Or.inl (Or.inl h1)
          · rcases Nat.lt_or_ge o i with h3 | h3
            · exact Or.inl (Or.inr ⟨o, h3, q1, q2, q3, q4, q5⟩)
            · have e : o = i := by omega
              subst e
              exact Or.inr (by rw [Bool.and_eq_true, Bool.and_eq_true, decide_eq_true_eq]; exact ⟨q3, q4, q5⟩)
      · rw [if_neg (by omega), ih]
        constructor
        · rintro (h1 | ⟨o, ho, q⟩)
          · exact Or.inl h1
          · exact Or.inr ⟨o, by omega, q⟩
        · rintro (h1 | ⟨o, ho, q1, q2, q⟩)
          · exact Or.inl h1
          · rcases Nat.lt_or_ge o i with h3 | h3
            · exact Or.inr ⟨o, h3, q1, q2, q⟩
            · have e : o = i := by omega
              subst e
              exact absurd q2 hx
    · rw [apR_f h, ih]
      constructor
      · rintro (h1 | ⟨o, ho, q⟩)
        · exact Or.inl h1
        · exact Or.inr ⟨o, by omega, q⟩
      · rintro (h1 | ⟨o, ho, q1, q⟩)
        · exact Or.inl h1
        · rcases Nat.lt_or_ge o i with h3 | h3
          · exact Or.inr ⟨o, h3, q1, q⟩
          · have e : o = i := by omega
            subst e
            exact absurd q1 h
end AP
/-- what (a, x) gives together with the rows of s -/
def jnC (S s : Nat) (rm R0 : Nat → Int64) (a x : Nat) (D : Nat → Nat → Prop) : Prop := ∀ o, o < S → a &&& o = 0 → ∀ y, lb (R0 (s * 8 + o)) y = true → lb (rm x) y = true → x + y < 64 → D (a ||| o) (x + y)
def jnF (R0 : Nat → Int64) (p f : Nat) (D : Nat → Nat → Prop) (a x : Nat) : Prop := (f = p ∧ D a x) ∨ (f ≠ p ∧ lb (R0 (f * 8 + a)) x = true)
def jn1 (p : Nat) (R0 R : Nat → Int64) : Prop := ∀ q c, q ≠ p → c < 8 → R (q * 8 + c) = R0 (q * 8 + c)
def jn2 (p : Nat) (R0 R : Nat → Int64) : Prop := ∀ A z, A < 8 → z < 64 → lb (R0 (p * 8 + A)) z = true → lb (R (p * 8 + A)) z = true
def jn3 (S p f s : Nat) (rm R0 : Nat → Int64) (P : Nat → Nat → Prop) (R : Nat → Int64) : Prop := ∀ a x, P a x → a < S → x < 64 → lb (R (f * 8 + a)) x = true → jnC S s rm R0 a x (fun A z => lb (R (p * 8 + A)) z = true)
def jn4 (S p f s : Nat) (rm R0 : Nat → Int64) (R : Nat → Int64) : Prop := ∀ D : Nat → Nat → Prop, (∀ A z, A < 8 → z < 64 → lb (R0 (p * 8 + A)) z = true → D A z) → (∀ a x, a < S → x < 64 → jnF R0 p f D a x → jnC S s rm R0 a x D) → ∀ A z, A < 8 → z < 64 → lb (R (p * 8 + A)) z = true → D A z
def JI (S p f s : Nat) (rm R0 : Nat → Int64) (a x0 : Nat) (R : Nat → Int64) : Prop := jn1 p R0 R ∧ jn2 p R0 R ∧ jn3 S p f s rm R0 (fun a' x' => a' < a ∨ (a' = a ∧ x' < x0)) R ∧ jn4 S p f s rm R0 R
section JIs
variable {S p f s : Nat} {rm R0 R : Nat → Int64} {a x0 : Nat}
theorem JI_0 : JI S p f s rm R0 0 0 R0 := ⟨fun _ _ _ _ => rfl, fun _ _ _ _ h => h, fun a x h => by omega, fun D h1 _ A z hA hz h => h1 A z hA hz h⟩
theorem JI_next (h : JI S p f s rm R0 a x0 R) (hz : ∀ z, x0 ≤ z → z < 64 → lb (R (f * 8 + a)) z = false) : JI S p f s rm R0 (a + 1) 0 R := by
  refine ⟨h.1, h.2.1, fun a' x' hp ha' hx' hb => ?_, h.2.2.2⟩
  rcases Nat.lt_or_ge a' a with q | q
  · exact h.2.2.1 a' x' (Or.inl q) ha' hx' hb
  · have e : a' = a := by omega
    subst e
    rcases Nat.lt_or_ge x' x0 with q2 | q2
    · exact h.2.2.1 a' x' (Or.inr ⟨rfl, q2⟩) ha' hx' hb
    · rw [hz x' q2 hx'] at hb
      cases hb
theorem or_ge8 : ∀ a, a < 8 → ∀ o, o < 8 → a ≤ a ||| o ∧ (a &&& o = 0 → a ||| o = a → o = 0) := by decide +kernel
theorem JI_step (hS8 : S ≤ 8) (hsp : s ≠ p) (h : JI S p f s rm R0 a x0 R) {x : Nat} (ha : a < S) (hx0 : x0 ≤ x) (hx : x < 64) (hb : lb (R (f * 8 + a)) x = true) (hz : ∀ z, x0 ≤ z → z < x → lb (R (f * 8 + a)) z = false) : JI S p f s rm R0 a (x + 1) (apR R p a x s (rm x) S) := by
  obtain ⟨h1, h2, h3, h4⟩ := h
  have hs : ∀ o, o < 8 → R (s * 8 + o) = R0 (s * 8 + o) := fun o ho => h1 s o hsp ho
  have key : ∀ A z, A < 8 → z < 64 → (lb (apR R p a x s (rm x) S (p * 8 + A)) z = true ↔ lb (R (p * 8 + A)) z = true ∨ ∃ o, o < S ∧ a &&& o = 0 ∧ A = a ||| o ∧ x ≤ z ∧ lb (R (s * 8 + o)) (z - x) = true ∧ lb (rm x) (z - x) = true) := fun A z hA hz => ap_bit (by omega) hS8 hsp hx hA hz
  have h1' : jn1 p R0 (apR R p a x s (rm x) S) := fun q c hq hc => by rw [ap_other (by omega) hS8 hq hc]; exact h1 q c hq hc
  have up : ∀ A z, A < 8 → z < 64 → lb (R (p * 8 + A)) z = true → lb (apR R p a x s (rm x) S (p * 8 + A)) z = true := fun A z hA hz hb => (key A z hA hz).mpr (Or.inl hb)
  have got : jnC S s rm R0 a x (fun A z => lb (apR R p a x s (rm x) S (p * 8 + A)) z = true) := by
    intro o ho hd y hy hm hxy
    have h8 := (bt8 a (by omega) o (by omega)).2.2.2
    refine (key _ _ h8 hxy).mpr (Or.inr ⟨o, ho, hd, rfl, by omega, ?_, ?_⟩)
    · rw [hs o (by omega), show x + y - x = y by omega]; exact hy
    · rw [show x + y - x = y by omega]; exact hm
  refine ⟨h1', fun A z hA hz hb => up A z hA hz (h2 A z hA hz hb), fun a' x' hp ha' hx' hb' => ?_, fun D d1 d2 A z hA hz hbz => ?_⟩
  · -- a row of first that is there now, at a place that has been gone through
    by_cases he : a' = a ∧ x' = x
    · obtain ⟨rfl, rfl⟩ := he
      exact got
    · have old : lb (R (f * 8 + a')) x' = true := by
        by_cases hfp : f = p
        · subst hfp
          rcases (key a' x' (by omega) hx').mp hb' with q | ⟨o, ho, hd, e, hxx, hb1, hb2⟩
          · exact q
          · exfalso
            have hg := or_ge8 a (by omega) o (by omega)
            rcases hp with q | ⟨q, q2⟩
            · omega
            · exact he ⟨q, by omega⟩
        · rw [ap_other (by omega) hS8 hfp (by omega)] at hb'
          exact hb'
      have hp' : a' < a ∨ (a' = a ∧ x' < x0) := by
        rcases hp with q | ⟨q, q2⟩
        · exact Or.inl q
        · refine Or.inr ⟨q, ?_⟩
          rcases Nat.lt_or_ge x' x0 with q3 | q3
          · exact q3
          · exfalso
            rw [q] at old
            have hlt : x' < x := by
              rcases Nat.lt_or_ge x' x with q4 | q4
              · exact q4
              · exact absurd ⟨q, by omega⟩ he
            rw [hz x' q3 hlt] at old
            cases old
      intro o ho hd y hy hm hxy
      have h8 := (bt8 a' (by omega) o (by omega)).2.2.2
      exact up _ _ h8 hxy (h3 a' x' hp' ha' hx' old o ho hd y hy hm hxy)
  · rcases (key A z hA hz).mp hbz with q | ⟨o, ho, hd, e, hxx, hb1, hb2⟩
    · exact h4 D d1 d2 A z hA hz q
    · have hF : jnF R0 p f D a x := by
        by_cases hfp : f = p
        · refine Or.inl ⟨hfp, ?_⟩
          rw [hfp] at hb
          exact h4 D d1 d2 a x (by omega) hx hb
        · refine Or.inr ⟨hfp, ?_⟩
          rw [← h1 f a hfp (by omega)]
          exact hb
      rw [hs o (by omega)] at hb1
      have := d2 a x ha hx hF o ho hd (z - x) hb1 hb2 (by omega)
      rw [show x + (z - x) = z by omega, ← e] at this
      exact this
end JIs
