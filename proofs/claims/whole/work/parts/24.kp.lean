/-! what weighPattern does to the rows, kind by kind -/
def Rb (R : Nat → Int64) (q A z : Nat) : Prop := lb (R (q * 8 + A)) z = true
def GrpS (S : Nat) (rm : Nat → Int64) (X Y : Nat → Nat → Prop) (A z : Nat) : Prop := ∃ a b x y, a < S ∧ b < S ∧ a &&& b = 0 ∧ A = a ||| b ∧ z = x + y ∧ x < 64 ∧ y < 64 ∧ X a x ∧ Y b y ∧ lb (rm x) y = true
def kQT (σ : sg) (k p : Nat) : Nat → Prop := fun i => σ.1 (k + 4) i = -1 ∧ σ.1 3 p ≤ σ.1 (k + 5) i ∧ σ.1 (k + 5) i ≤ σ.1 4 p
def kQE (σ : sg) (cd : Nat → Option Nat) (p q : Nat) : Nat → Prop := fun i => ∃ t, cd i = some t ∧ (σ.1 3 p = 6 ∨ σ.1 3 p = σ.1 (11 + 6 * t) 0) ∧ lb (σ.2 (11 + 6 * t) 8) q = true
def kQA (σ : sg) (k p q : Nat) : Nat → Prop := fun i => (σ.1 3 p = 6 ∨ σ.1 3 p = σ.1 (k + 1) i) ∧ lb (σ.2 (k + 3) i) q = true
def KP (σ : sg) (k na nc S : Nat) (cd : Nat → Option Nat) (p : Nat) (R R' : Nat → Int64) (kn : Nat) : Prop := match kn with
  | 0 => ∀ A z, A < S → z < 64 → (Rb R' p A z ↔ A = 0 ∧ z = 0)
  | 1 => ∀ A z, A < S → z < 64 → (Rb R' p A z ↔ False)
  | 2 => ∀ A z, A < S → z < 64 → (Rb R' p A z ↔ A = 0 ∧ lb (rT (σ.1 (k + 4)) nc) z = true)
  | 3 => ∀ A z, A < S → z < 64 → (Rb R' p A z ↔ A = 0 ∧ lb (rO (kQT σ k p) nc) z = true)
  | 4 => ∃ f s, f < 40 ∧ s < 40 ∧ σ.1 3 p = nI f ∧ σ.1 4 p = nI s ∧ ∀ A z, A < S → z < 64 → (Rb R' p A z ↔ GrpS S (σ.2 109) (Rb R f) (Rb R s) A z)
  | 5 => ∃ f s, f < 40 ∧ s < 40 ∧ σ.1 3 p = nI f ∧ σ.1 4 p = nI s ∧ ∀ A z, A < S → z < 64 → (Rb R' p A z ↔ GrpS S (σ.2 108) (Rb R f) (Rb R s) A z)
  | 6 => ∃ f s, f < 40 ∧ s < 40 ∧ σ.1 3 p = nI f ∧ σ.1 4 p = nI s ∧ ∀ A z, A < S → z < 64 → (Rb R' p A z ↔ Rb R f A z ∨ Rb R s A z)
  | 7 => ∃ f, f < 40 ∧ σ.1 3 p = nI f ∧ (∀ A z, A < S → z < 64 → (Rb R f A z ∨ GrpS S (σ.2 109) (Rb R' p) (Rb R f) A z) → Rb R' p A z) ∧ ∀ D : Nat → Nat → Prop, (∀ A z, A < S → z < 64 → (Rb R f A z ∨ GrpS S (σ.2 109) D (Rb R f) A z) → D A z) → ∀ A z, A < S → z < 64 → Rb R' p A z → D A z
  | 8 => ∃ q, q < 40 ∧ σ.1 4 p = nI q ∧ ∀ A z, A < S → z < 64 → (Rb R' p A z ↔ A = 0 ∧ lb (rO (kQE σ cd p q) nc) z = true)
  | 9 => ∃ q, q < 40 ∧ σ.1 4 p = nI q ∧ ∀ A z, A < S → z < 64 → (Rb R' p A z ↔ z = 0 ∧ ∃ i, i < na ∧ A = 2 ^ i ∧ kQA σ k p q i)
  | _ => ∃ d, d < 4 ∧ σ.1 3 p = nI d ∧ ((σ.1 6 d = -1 ∧ ∀ A z, A < S → z < 64 → (Rb R' p A z ↔ False)) ∨ ∃ c, c < 40 ∧ σ.1 6 d = nI c ∧ ∀ A z, A < S → z < 64 → (Rb R' p A z ↔ Rb R c A z))
def KS (σ : sg) (k na nc S : Nat) (cd : Nat → Option Nat) (p : Nat) (R R' : Nat → Int64) : Prop := jn1 p R R' ∧ ∃ kn, kn ≤ 10 ∧ σ.1 2 p = nI kn ∧ KP σ k na nc S cd p R R' kn
section KPs
variable {R : Nat → Int64} {p S : Nat}
theorem wp_j : jn1 p R (wpR R p S) ∨ 8 < S := by
  rcases Nat.lt_or_ge 8 S with h | h
  · exact Or.inr h
  · refine Or.inl fun q c hq hc => ?_
    unfold wpR
    rw [if_neg (by omega)]
theorem wp_1 (h : S ≤ 8) : jn1 p R (wpR R p S) := wp_j.resolve_right (by omega)
theorem wp_in {A : Nat} (h : A < S) : wpR R p S (p * 8 + A) = 0 := by
  unfold wpR
  rw [if_pos (by omega)]
theorem wp_b {A z : Nat} (h : A < S) : Rb (wpR R p S) p A z ↔ False := by
  unfold Rb
  rw [wp_in h, lb_0]
  exact ⟨fun q => (by cases q), False.elim⟩
theorem jn1_t {R1 R2 : Nat → Int64} (h1 : jn1 p R R1) (h2 : jn1 p R1 R2) : jn1 p R R2 := fun q c hq hc => (h2 q c hq hc).trans (h1 q c hq hc)
theorem up0_j {R1 : Nat → Int64} {x : Int64} : jn1 p R1 (vp_updL R1 (p * 8) x) := fun q c hq hc => pk_uLn (by omega)
theorem up0_b {x : Int64} (hS8 : S ≤ 8) {A z : Nat} (hA : A < S) : Rb (vp_updL (wpR R p S) (p * 8) x) p A z ↔ A = 0 ∧ lb x z = true := by
  unfold Rb
  rcases Nat.eq_zero_or_pos A with h | h
  · subst h
    rw [show p * 8 + 0 = p * 8 by omega, pk_uLs]
    exact ⟨fun q => ⟨rfl, q⟩, fun q => q.2⟩
  · rw [pk_uLn (by omega), wp_in hA, lb_0]
    exact ⟨fun q => (by cases q), fun q => (by omega)⟩
theorem ic_j {R1 : Nat → Int64} {q : Nat} (hS8 : S ≤ 8) : jn1 p R1 (icR R1 p q S) := fun x c hx hc => by
  unfold icR
  rw [if_neg (by omega)]
theorem ic_b {R1 : Nat → Int64} {q A z : Nat} (hA : A < S) : Rb (icR R1 p q S) p A z ↔ Rb R1 p A z ∨ Rb R1 q A z := by
  unfold Rb icR
  rw [if_pos (by omega), lb_or, Bool.or_eq_true, show p * 8 + A - p * 8 = A by omega]
theorem jn1_b {R1 R2 : Nat → Int64} (h : jn1 p R1 R2) {q A z : Nat} (hq : q ≠ p) (hA : A < 8) : Rb R2 q A z ↔ Rb R1 q A z := by
  unfold Rb
  rw [h q A hq hA]
theorem GrpS_congr {rm : Nat → Int64} {X X' Y Y' : Nat → Nat → Prop} {A z : Nat} (hx : ∀ a x, a < S → x < 64 → (X a x ↔ X' a x)) (hy : ∀ a x, a < S → x < 64 → (Y a x ↔ Y' a x)) : GrpS S rm X Y A z ↔ GrpS S rm X' Y' A z := by
  constructor
  · rintro ⟨a, b, x, y, h1, h2, h3, h4, h5, h6, h7, h8, h9, h10⟩
    exact ⟨a, b, x, y, h1, h2, h3, h4, h5, h6, h7, (hx a x h1 h6).mp h8, (hy b y h2 h7).mp h9, h10⟩
  · rintro ⟨a, b, x, y, h1, h2, h3, h4, h5, h6, h7, h8, h9, h10⟩
    exact ⟨a, b, x, y, h1, h2, h3, h4, h5, h6, h7, (hx a x h1 h6).mpr h8, (hy b y h2 h7).mpr h9, h10⟩
/-- sets below a power of two stay below it -/
def p2S (S : Nat) : Prop := S = 1 ∨ S = 2 ∨ S = 4 ∨ S = 8
theorem p2_or : ∀ S, S < 9 → p2S S → ∀ a, a < S → ∀ b, b < S → a ||| b < S := by
  intro S _ h
  rcases h with rfl | rfl | rfl | rfl <;> decide +kernel
theorem JI_grp {f s : Nat} {rm R1 R2 : Nat → Int64} (hp2 : p2S S) (hfp : f ≠ p) (h0 : ∀ A z, A < S → z < 64 → (Rb R1 p A z ↔ False)) (h : JI S p f s rm R1 S 0 R2) {A z : Nat} (hA : A < S) (hz : z < 64) : Rb R2 p A z ↔ GrpS S rm (Rb R1 f) (Rb R1 s) A z := by
  have hS8 : S ≤ 8 := by rcases hp2 with h | h | h | h <;> omega
  obtain ⟨h1, h2, h3, h4⟩ := h
  constructor
  · intro hb
    refine (h4 (fun A z => S ≤ A ∨ GrpS S rm (Rb R1 f) (Rb R1 s) A z) (fun A z hA hz hb => ?_) (fun a x ha hx hF o ho hd y hy hm hxy => ?_) A z (by omega) hz hb).resolve_left (by omega)
    · rcases Nat.lt_or_ge A S with q | q
      · exact ((h0 A z q hz).mp hb).elim
      · exact Or.inl q
    · rcases hF with ⟨e, -⟩ | ⟨-, hb⟩
      · exact absurd e hfp
      · refine Or.inr ⟨a, o, x, y, ha, ho, hd, rfl, rfl, hx, by omega, hb, hy, hm⟩
  · rintro ⟨a, b, x, y, h5, h6, h7, h8, h9, h10, h11, h12, h13, h14⟩
    have hb : lb (R2 (f * 8 + a)) x = true := by rw [h1 f a hfp (by omega)]; exact h12
    have := h3 a x (Or.inl h5) h5 h10 hb b h6 h7 y h13 h14 (by omega)
    unfold Rb
    rw [h8, h9]
    exact this
theorem JI_more {f : Nat} {rm R1 R2 : Nat → Int64} (hp2 : p2S S) (hfp : f ≠ p) (h0 : ∀ A z, A < S → z < 64 → (Rb R1 p A z ↔ Rb R1 f A z)) (h : JI S p p f rm R1 S 0 R2) : (∀ A z, A < S → z < 64 → (Rb R1 f A z ∨ GrpS S rm (Rb R2 p) (Rb R1 f) A z) → Rb R2 p A z) ∧ ∀ D : Nat → Nat → Prop, (∀ A z, A < S → z < 64 → (Rb R1 f A z ∨ GrpS S rm D (Rb R1 f) A z) → D A z) → ∀ A z, A < S → z < 64 → Rb R2 p A z → D A z := by
  have hS8 : S ≤ 8 := by rcases hp2 with h | h | h | h <;> omega
  obtain ⟨h1, h2, h3, h4⟩ := h
  constructor
  · rintro A z hA hz (hb | ⟨a, b, x, y, h5, h6, h7, h8, h9, h10, h11, h12, h13, h14⟩)
    · exact h2 A z (by omega) hz ((h0 A z hA hz).mpr hb)
    · have := h3 a x (Or.inl h5) h5 h10 h12 b h6 h7 y h13 h14 (by omega)
      unfold Rb
      rw [h8, h9]
      exact this
  · intro D hD A z hA hz hb
    refine (h4 (fun A z => S ≤ A ∨ D A z) (fun A z hA hz hb => ?_) (fun a x ha hx hF o ho hd y hy hm hxy => ?_) A z (by omega) hz hb).resolve_left (by omega)
    · rcases Nat.lt_or_ge A S with q | q
      · exact Or.inr (hD A z q hz (Or.inl ((h0 A z q hz).mp hb)))
      · exact Or.inl q
    · rcases hF with ⟨-, e⟩ | ⟨e, -⟩
      · refine Or.inr (hD _ _ (p2_or S (by omega) hp2 a ha o ho) hxy (Or.inr ⟨a, o, x, y, ha, ho, hd, rfl, rfl, hx, by omega, e.resolve_left (by omega), hy, hm⟩))
      · exact absurd rfl e
theorem mA_bit {R1 : Nat → Int64} {q : Nat → Prop} : ∀ (n : Nat), n ≤ 3 → jn1 p R1 (mA R1 p q n) ∧ ∀ A z, A < 8 → (Rb (mA R1 p q n) p A z ↔ ((∃ i, i < n ∧ A = 2 ^ i ∧ q i) ∧ z = 0) ∨ ((¬ ∃ i, i < n ∧ A = 2 ^ i ∧ q i) ∧ Rb R1 p A z)) := by
  intro n
  induction n with
  | zero =>
    intro _
    refine ⟨fun _ _ _ _ => rfl, fun A z hA => ⟨fun h => Or.inr ⟨by rintro ⟨i, hi, -⟩; omega, h⟩, ?_⟩⟩
    rintro (⟨⟨i, hi, -⟩, -⟩ | h)
    · omega
    · exact h.2
  | succ n ih =>
    intro hn
    obtain ⟨i1, i2⟩ := ih (by omega)
    have hp := p2_3 n (by omega)
    by_cases hq : q n
    · rw [mA_t hq]
      have h0 := Nat.two_pow_pos n
      refine ⟨jn1_t i1 (fun x c hx hc => pk_uLn (by generalize 2 ^ n = t at hp h0 ⊢; omega)), fun A z hA => ?_⟩
      by_cases hA2 : A = 2 ^ n
      · unfold Rb
        rw [hA2, pk_uLs, lb_1, decide_eq_true_eq]
        constructor
        · intro h
          exact Or.inl ⟨⟨n, by omega, rfl, hq⟩, h⟩
        · rintro (h | h)
          · exact h.2
          · exact absurd ⟨n, by omega, rfl, hq⟩ h.1
      · have e : Rb (vp_updL (mA R1 p q n) (p * 8 + 2 ^ n) 1) p A z ↔ Rb (mA R1 p q n) p A z := by
          unfold Rb
          rw [pk_uLn (by omega)]
        have hex : (∃ i, i < n + 1 ∧ A = 2 ^ i ∧ q i) ↔ ∃ i, i < n ∧ A = 2 ^ i ∧ q i := by
          constructor
          · rintro ⟨i, h1, h2, h3⟩
            rcases Nat.lt_or_ge i n with y | y
            · exact ⟨i, y, h2, h3⟩
            · rw [show i = n by omega] at h2
              exact absurd h2 hA2
          · rintro ⟨i, h1, h2⟩
            exact ⟨i, by omega, h2⟩
        rw [e, i2 A z hA, hex]
    · rw [mA_f hq]
      refine ⟨i1, fun A z hA => ?_⟩
      have hex : (∃ i, i < n + 1 ∧ A = 2 ^ i ∧ q i) ↔ ∃ i, i < n ∧ A = 2 ^ i ∧ q i := by
        constructor
        · rintro ⟨i, h1, h2, h3⟩
          rcases Nat.lt_or_ge i n with y | y
          · exact ⟨i, y, h2, h3⟩
          · rw [show i = n by omega] at h3
            exact absurd h3 hq
        · rintro ⟨i, h1, h2⟩
          exact ⟨i, by omega, h2⟩
      rw [i2 A z hA, hex]
theorem rO_congr {q q' : Nat → Prop} : ∀ n, (∀ i, i < n → (q i ↔ q' i)) → rO q n = rO q' n := by
  intro n
  induction n with
  | zero => intro _; rfl
  | succ n ih =>
    intro h
    have e := ih (fun i hi => h i (by omega))
    by_cases hq : q n
    · rw [rO_t hq, rO_t ((h n (by omega)).mp hq), e]
    · rw [rO_f hq, rO_f (fun z => hq ((h n (by omega)).mpr z)), e]
end KPs
