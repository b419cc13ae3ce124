/-! documents, and what the class's nodes say of them -/
abbrev Dc : Type := (Nat → Int32) × (Nat → Nat → Option Int32) × (Nat → Nat) × (Nat → Nat → Option Nat) × (Nat → Nat → Int32)
def WD (D : Dc) (nd : Nat) : Prop := nd ≤ 16 ∧ ∀ t, t < nd → D.2.2.1 t ≤ 6 ∧ ∀ i, i < D.2.2.1 t → ∀ u, D.2.2.2.1 t i = some u → t < u ∧ u < nd
def mk (D : Dc) (t : Nat) : Nat → Nat
  | 0 => 0
  | a + 1 => if D.2.1 t a ≠ none then mk D t a ||| 2 ^ a else mk D t a
theorem mk_b (D : Dc) (t x : Nat) : ∀ n, (mk D t n).testBit x = true ↔ x < n ∧ D.2.1 t x ≠ none := by
  intro n
  induction n with
  | zero => exact ⟨fun h => (by rw [show mk D t 0 = 0 from rfl, Nat.zero_testBit] at h; cases h), fun ⟨h, _⟩ => absurd h (by omega)⟩
  | succ n ih =>
    unfold mk
    by_cases h : D.2.1 t n ≠ none
    · rw [if_pos h, Nat.testBit_or, Bool.or_eq_true, ih, Nat.testBit_two_pow, decide_eq_true_eq]
      constructor
      · rintro (⟨h1, h2⟩ | rfl)
        · exact ⟨by omega, h2⟩
        · exact ⟨by omega, h⟩
      · rintro ⟨h1, h2⟩
        rcases Nat.lt_or_ge x n with y | y
        · exact Or.inl ⟨y, h2⟩
        · exact Or.inr (by omega)
    · rw [if_neg h, ih]
      constructor
      · rintro ⟨h1, h2⟩
        exact ⟨by omega, h2⟩
      · rintro ⟨h1, h2⟩
        rcases Nat.lt_or_ge x n with y | y
        · exact ⟨y, h2⟩
        · rw [show x = n by omega] at h2
          exact absurd h2 h
section DSEM
variable (k f s g : Nat → Int32) (D : Dc)
def eV (v : Int32) (p : Nat) : Prop := k p = 2 ∨ (k p = 3 ∧ f p ≤ v ∧ v ≤ s p)
def eN (F : Nat → Nat → Prop) (u p : Nat) : Prop := k p = 8 ∧ (f p = 6 ∨ f p = D.1 u) ∧ F u (ot s p)
def at9D (t p a : Nat) : Prop := (f p = 6 ∨ f p = nI a) ∧ ∃ v, D.2.1 t a = some v ∧ a < 6 ∧ S1 k f s g (eV k f s v) (ot s p)
def txD (t i : Nat) : Prop := i < D.2.2.1 t ∧ D.2.2.2.1 t i = none
def eD (F : Nat → Nat → Prop) (t p i : Nat) : Prop := i < D.2.2.1 t ∧ ((k p = 3 ∧ D.2.2.2.1 t i = none ∧ f p ≤ D.2.2.2.2 t i ∧ D.2.2.2.2 t i ≤ s p) ∨ (k p = 8 ∧ ∃ u, D.2.2.2.1 t i = some u ∧ (f p = 6 ∨ f p = D.1 u) ∧ F u (ot s p)))
def MD (F : Nat → Nat → Prop) (t : Nat) : Nat → Nat → Nat → Prop := SM k f s g (at9D k f s g D t) (txD D t) (eD k f s D F t)
def Fu : Nat → Nat → Nat → Prop
  | 0, _, _ => False
  | d + 1, t, q => MD k f s g D (Fu d) t q (mk D t 6) (2 ^ D.2.2.1 t - 1)
def FU : Nat → Nat → Prop := Fu k f s g D 17
end DSEM
theorem eD_cg {k f s : Nat → Int32} {D : Dc} {F F' : Nat → Nat → Prop} {t : Nat} (h : ∀ i u, i < D.2.2.1 t → D.2.2.2.1 t i = some u → F u = F' u) : eD k f s D F t = eD k f s D F' t := by
  funext p i
  unfold eD
  refine propext (and_congr_right fun hi => or_congr Iff.rfl (and_congr_right fun _ => exists_congr fun u => and_congr_right fun hu => and_congr_right fun _ => ?_))
  rw [h i u hi hu]
theorem Fu_eq {k f s g : Nat → Int32} {D : Dc} {nd : Nat} (hD : WD D nd) : ∀ d d' t, t < nd → nd ≤ t + d → nd ≤ t + d' → Fu k f s g D d t = Fu k f s g D d' t := by
  intro d
  induction d with
  | zero => intro d' t ht h; omega
  | succ d ih =>
    intro d' t ht h h'
    obtain ⟨d2, rfl⟩ : ∃ d2, d' = d2 + 1 := ⟨d' - 1, by omega⟩
    funext q
    unfold Fu MD
    rw [eD_cg (F' := Fu k f s g D d2) (fun i u hi hu => ?_)]
    have := (hD.2 t ht).2 i hi u hu
    exact ih d2 u this.2 (by omega) (by omega)
theorem FU_un {k f s g : Nat → Int32} {D : Dc} {nd : Nat} (hD : WD D nd) {t : Nat} (ht : t < nd) (q : Nat) : FU k f s g D t q ↔ MD k f s g D (FU k f s g D) t q (mk D t 6) (2 ^ D.2.2.1 t - 1) := by
  have hd := hD.1
  unfold FU
  rw [Fu_eq hD 17 18 t ht (by omega) (by omega)]
  exact Iff.rfl
theorem S1_tr {k f s g : Nat → Int32} {n : Nat} {H : Nat → Nat} (hW : WG k f s g n H) (hH : ∀ q, q < n → H q ≤ 32) (hk : ∀ p, p < n → ∃ kn, kn ≤ 10 ∧ k p = nI kn) {X : Nat → Prop} (hX : ∀ p c, X p → c < 40 → Ch k f s g p c → X c) (hXn : ∀ p, X p → p < n) {e e' : Nat → Prop} (he : ∀ p, X p → k p = 2 ∨ k p = 3 ∨ k p = 8 → (e p ↔ e' p)) : ∀ d p, X p → H p < d → (S1 k f s g e p ↔ S1 k f s g e' p) := by
  intro d
  induction d with
  | zero => intro p _ h; exact absurd h (by omega)
  | succ d ih =>
    intro p hXp hd
    have hp := hXn p hXp
    have if_ : (k p = 4 ∨ k p = 5 ∨ k p = 6 ∨ k p = 7) → (S1 k f s g e (ot f p) ↔ S1 k f s g e' (ot f p)) := fun q => ih _ (hX p _ hXp (Ch_f hW hp q).1 (Ch_f hW hp q).2.2) (by have := (c_fn hW hH q hp).2; omega)
    have is_ : (k p = 4 ∨ k p = 5 ∨ k p = 6 ∨ k p = 9) → (S1 k f s g e (ot s p) ↔ S1 k f s g e' (ot s p)) := fun q => ih _ (hX p _ hXp (Ch_s hW hp q).1 (Ch_s hW hp q).2.2) (by have := (c_sn hW hH q hp).2; omega)
    rw [S1_un hW hH e hp, S1_un hW hH e' hp]
    rcases kd_all hW hH hk hp with q | q | q | q | q | q | q | q | q | q | q
    · rw [b1_0 q, b1_0 q]
    · rw [b1_1 q, b1_1 q]
    · rw [b1_2 q, b1_2 q, he p hXp (Or.inl q)]
    · rw [b1_3 q, b1_3 q, he p hXp (Or.inr (Or.inl q))]
    · rw [b1_4 q, b1_4 q, if_ (Or.inl q), is_ (Or.inl q)]
    · rw [b1_5 q, b1_5 q, if_ (Or.inr (Or.inl q)), is_ (Or.inr (Or.inl q))]
    · rw [b1_6 q, b1_6 q, if_ (Or.inr (Or.inr (Or.inl q))), is_ (Or.inr (Or.inr (Or.inl q)))]
    · rw [b1_7 q, b1_7 q, if_ (Or.inr (Or.inr (Or.inr q)))]
    · rw [b1_8 q, b1_8 q, he p hXp (Or.inr (Or.inr q))]
    · rw [b1_9 q, b1_9 q]
    · rw [b1_10 q, b1_10 q]
      refine exists_congr fun c => and_congr_right fun h1 => and_congr_right fun h2 => ?_
      have := c_gn hW hH q hp h1 h2
      exact ih c (hX p c hXp h1 (Ch_g hW hp h1 q h2)) (by omega)
/-- q is listed -/
def lst (σ : sg) (m q : Nat) : Prop := ∃ i, i < m ∧ ot (σ.1 7) i = q
theorem lst_X {σ : sg} {n p0 m : Nat} (hL : Li σ n p0 m) : ∀ p c, lst σ m p → c < 40 → Ch (σ.1 2) (σ.1 3) (σ.1 4) (σ.1 6) p c → lst σ m c := by
  rintro p c ⟨i, hi, rfl⟩ hc hch
  obtain ⟨j, hj, e⟩ := (hL.1.2.1 i hi).2.2 c hc hch
  exact ⟨j, by omega, e⟩
theorem lst_n {σ : sg} {n p0 m : Nat} (hL : Li σ n p0 m) : ∀ p, lst σ m p → p < n := by
  rintro p ⟨i, hi, rfl⟩
  exact (hL.1.2.1 i hi).2.1
/-- the row alone: one child -/
theorem lone_1 {σ : sg} {n p0 m : Nat} {H : Nat → Nat} {cd : Nat → Option Nat} {R : Nat → Int64} {sd : Int64} (hT : BT σ) (hN : Nd σ 111 0 1 cd) (hG : Gr σ n H) (hH : ∀ q, q < n → H q ≤ 32) (hL : Li σ n p0 m) (hO : WO σ 111 0 1 cd m R sd) (e1 : Nat → Prop) (he2 : ∀ p, lst σ m p → σ.1 2 p = 2 → (e1 p ↔ σ.1 115 0 = -1)) (he3 : ∀ p, lst σ m p → σ.1 2 p = 3 → (e1 p ↔ kQT σ 111 p 0)) (he8 : ∀ p, lst σ m p → σ.1 2 p = 8 → (e1 p ↔ kQE σ cd p (ot (σ.1 4) p) 0)) : ∀ q, q < 64 → (lb sd q = true ↔ lst σ m q ∧ S1 (σ.1 2) (σ.1 3) (σ.1 4) (σ.1 6) e1 q) := by
  intro q hq
  have key : ∀ q, lst σ m q → (Rb R q 0 1 ↔ S1 (σ.1 2) (σ.1 3) (σ.1 4) (σ.1 6) e1 q) := by
    intro q hl
    obtain ⟨i, hi, rfl⟩ := hl
    have hn := (hL.1.2.1 i hi).2.1
    rw [KE_sem hT hN hG hH hL hO.1 i hi 0 1 (by decide) (by decide)]
    rw [sm_01 hG.1 hH hG.2 _ _ _ (fun p => (σ.1 2 p = 2 ∧ txC σ 111 1 0) ∨ (¬ σ.1 2 p = 2 ∧ eC σ 111 1 cd p 0)) (fun p _ h => ⟨fun z => z.elim (fun y => y.2) (fun y => absurd h y.1), fun z => Or.inl ⟨h, z⟩⟩) (fun p _ h => ⟨fun z => z.elim (fun y => by rcases h with h | h <;> exact absurd (h.symm.trans y.1) (by decide)) (fun y => y.2), fun z => Or.inr ⟨fun y => by rcases h with h | h <;> exact absurd (h.symm.trans y) (by decide), z⟩⟩) 33 _ hn (by have := hH _ hn; omega)]
    refine S1_tr hG.1 hH hG.2 (lst_X hL) (lst_n hL) (fun p hp h => ?_) 33 _ ⟨i, hi, rfl⟩ (by have := hH _ hn; omega)
    rcases h with h | h | h
    · rw [he2 p hp h]
      exact ⟨fun z => z.elim (fun y => y.2.2) (fun y => absurd h y.1), fun z => Or.inl ⟨h, by decide, z⟩⟩
    · rw [he3 p hp h]
      exact ⟨fun z => z.elim (fun y => absurd (h.symm.trans y.1) (by decide)) (fun y => y.2.2.elim (fun x => x.2) (fun x => absurd (h.symm.trans x.1) (by decide))), fun z => Or.inr ⟨fun y => absurd (h.symm.trans y) (by decide), by decide, Or.inl ⟨h, z⟩⟩⟩
    · rw [he8 p hp h]
      exact ⟨fun z => z.elim (fun y => absurd (h.symm.trans y.1) (by decide)) (fun y => y.2.2.elim (fun x => absurd (h.symm.trans x.1) (by decide)) (fun x => x.2)), fun z => Or.inr ⟨fun y => absurd (h.symm.trans y) (by decide), by decide, Or.inr ⟨h, z⟩⟩⟩
  rw [hO.2 q hq]
  constructor
  · rintro ⟨i, hi, e, hb⟩
    exact ⟨⟨i, hi, e⟩, (key q ⟨i, hi, e⟩).mp hb⟩
  · rintro ⟨⟨i, hi, e⟩, hb⟩
    exact ⟨i, hi, e, (key q ⟨i, hi, e⟩).mpr hb⟩
theorem lone_0 {σ : sg} {n p0 m : Nat} {H : Nat → Nat} {cd : Nat → Option Nat} {R : Nat → Int64} {sd : Int64} (hT : BT σ) (hN : Nd σ 111 0 0 cd) (hG : Gr σ n H) (hH : ∀ q, q < n → H q ≤ 32) (hL : Li σ n p0 m) (hO : WO σ 111 0 0 cd m R sd) : ∀ q, q < 64 → (lb sd q = true ↔ lst σ m q ∧ SN (σ.1 2) (σ.1 3) (σ.1 4) (σ.1 6) q) := by
  intro q hq
  have key : ∀ q, lst σ m q → (Rb R q 0 0 ↔ SN (σ.1 2) (σ.1 3) (σ.1 4) (σ.1 6) q) := by
    intro q hl
    obtain ⟨i, hi, rfl⟩ := hl
    have hn := (hL.1.2.1 i hi).2.1
    rw [KE_sem hT hN hG hH hL hO.1 i hi 0 0 (by decide) (by decide)]
    exact sm_00 hG.1 hH hG.2 _ _ _ 33 _ hn (by have := hH _ hn; omega)
  rw [hO.2 q hq]
  constructor
  · rintro ⟨i, hi, e, hb⟩
    exact ⟨⟨i, hi, e⟩, (key q ⟨i, hi, e⟩).mp hb⟩
  · rintro ⟨⟨i, hi, e⟩, hb⟩
    exact ⟨i, hi, e, (key q ⟨i, hi, e⟩).mpr hb⟩
/-- what the weighing leaves alone -/
def FrW (σ τ : sg) : Prop := (∀ j, j ≠ 107 → j ≠ 111 → j ≠ 115 → j ≠ 116 → τ.1 j = σ.1 j) ∧ ∀ j, j ≠ 110 → j ≠ 111 → (∀ t, t < 16 → j ≠ 11 + 6 * t ∧ j ≠ 11 + 6 * t + 3) → τ.2 j = σ.2 j
theorem FrW_rf {σ : sg} : FrW σ σ := ⟨fun _ _ _ _ _ => rfl, fun _ _ _ _ => rfl⟩
theorem FrW_tr {σ τ υ : sg} (h1 : FrW σ τ) (h2 : FrW τ υ) : FrW σ υ := ⟨fun j a b c d => (h2.1 j a b c d).trans (h1.1 j a b c d), fun j a b c => (h2.2 j a b c).trans (h1.2 j a b c)⟩
theorem FrW_BT {σ τ : sg} (h : FrW σ τ) (hT : BT σ) : BT τ := fun x y hx hy => by
  rw [h.2 108 (by decide) (by decide) (fun t ht => by omega), h.2 109 (by decide) (by decide) (fun t ht => by omega)]
  exact hT x y hx hy
theorem FrW_Gr {σ τ : sg} {n : Nat} {H : Nat → Nat} (h : FrW σ τ) (hG : Gr σ n H) : Gr τ n H := by
  unfold Gr
  rw [h.1 2 (by decide) (by decide) (by decide) (by decide), h.1 3 (by decide) (by decide) (by decide) (by decide), h.1 4 (by decide) (by decide) (by decide) (by decide), h.1 6 (by decide) (by decide) (by decide) (by decide)]
  exact hG
theorem FrW_Li {σ τ : sg} {n p m : Nat} (h : FrW σ τ) (hL : Li σ n p m) : Li τ n p m := by
  unfold Li
  rw [h.1 1 (by decide) (by decide) (by decide) (by decide), h.1 2 (by decide) (by decide) (by decide) (by decide), h.1 3 (by decide) (by decide) (by decide) (by decide), h.1 4 (by decide) (by decide) (by decide) (by decide), h.1 6 (by decide) (by decide) (by decide) (by decide), h.1 7 (by decide) (by decide) (by decide) (by decide)]
  exact hL
theorem FrW_lst {σ τ : sg} {m q : Nat} (h : FrW σ τ) : lst τ m q ↔ lst σ m q := by
  unfold lst
  rw [h.1 7 (by decide) (by decide) (by decide) (by decide)]
theorem FrW_Nd {σ τ : sg} {t na nc : Nat} {cd : Nat → Option Nat} (ht : t < 16) (h : FrW σ τ) (hN : Nd σ (11 + 6 * t) na nc cd) : Nd τ (11 + 6 * t) na nc cd := by
  unfold Nd
  rw [h.1 (11 + 6 * t) (by omega) (by omega) (by omega) (by omega), h.1 (11 + 6 * t + 4) (by omega) (by omega) (by omega) (by omega)]
  exact hN
def s_lt (σ : sg) (x y : Int32) : sg := s_addC (s_begin σ 111 0) 111 0 x y
theorem FrW_begin {σ : sg} {x : Int32} : FrW σ (s_begin σ 111 x) := ⟨fun j _ b _ _ => s_begin_ne b, fun _ _ _ _ => rfl⟩
theorem FrW_lt {σ : sg} {x y : Int32} : FrW σ (s_lt σ x y) := ⟨fun j a b c d => (s_addC_ne b c d).trans (s_begin_ne b), fun _ _ _ _ => rfl⟩
theorem s_lt_2 {σ : sg} {x y : Int32} : (s_lt σ x y).2 = σ.2 := rfl
theorem s_lt_at {σ : sg} {x y : Int32} : (s_lt σ x y).1 111 4 = nI 0 ∧ (s_lt σ x y).1 111 7 = nI 1 ∧ (s_lt σ x y).1 115 0 = x ∧ (s_lt σ x y).1 116 0 = y := by
  refine ⟨?_, ?_, ?_, ?_⟩ <;> rfl
theorem s_begin_at {σ : sg} : (s_begin σ 111 0).1 111 4 = nI 0 ∧ (s_begin σ 111 0).1 111 7 = nI 0 := by
  refine ⟨?_, ?_⟩ <;> rfl
theorem FrW_w {σ : sg} {k na : Nat} {R : Nat → Int64} {sd : Int64} (hk : k = 111 ∨ ∃ t, t < 16 ∧ k = 11 + 6 * t) : FrW σ (s_w σ k na R sd) := by
  refine ⟨fun j a b c d => ?_, fun j a b c => ?_⟩
  · show (sI σ 107 _).1 j = _
    exact sI_ne _ a
  · unfold s_w
    have hne : j ≠ k := by
      rcases hk with rfl | ⟨t, ht, rfl⟩
      · exact b
      · exact (c t ht).1
    rw [sL_ne _ hne, sL_ne _ a]
    rfl
theorem s_w_at {σ : sg} {k na : Nat} {R : Nat → Int64} {sd : Int64} : (s_w σ k na R sd).2 k 8 = sd := by
  unfold s_w
  rw [sL_at]
  exact pk_uLs
theorem s_w_ne {σ : sg} {k na j : Nat} {R : Nat → Int64} {sd : Int64} (h1 : j ≠ k) (h2 : j ≠ 110) : (s_w σ k na R sd).2 j = σ.2 j := by
  unfold s_w
  rw [sL_ne _ h1, sL_ne _ h2]
  rfl
theorem s_w_R {σ : sg} {k na : Nat} {R : Nat → Int64} {sd : Int64} (h : k ≠ 110) : (s_w σ k na R sd).2 110 = R := by
  unfold s_w
  rw [sL_ne _ (fun e => h e.symm), sL_at]
theorem s_w_S {σ : sg} {k na : Nat} {R : Nat → Int64} {sd : Int64} : (s_w σ k na R sd).1 107 5 = nI (2 ^ na) := by
  show (sI σ 107 (upd (σ.1 107) 5 (nI (2 ^ na)))).1 107 5 = _
  rw [sI_at]
  exact pk_us
/-- a lone text -/
theorem lone_t {τ : sg} {v : Int32} {n p0 m : Nat} {H : Nat → Nat} {R : Nat → Int64} {sd : Int64} (hT : BT τ) (hG : Gr τ n H) (hH : ∀ q, q < n → H q ≤ 32) (hL : Li τ n p0 m) (hO : WO (s_lt τ (-1) v) 111 0 1 (fun _ => none) m R sd) : ∀ q, q < 64 → (lb sd q = true ↔ lst τ m q ∧ S1 (τ.1 2) (τ.1 3) (τ.1 4) (τ.1 6) (eV (τ.1 2) (τ.1 3) (τ.1 4) v) q) := by
  have hf : FrW τ (s_lt τ (-1) v) := FrW_lt
  have hN : Nd (s_lt τ (-1) v) 111 0 1 (fun _ => none) := ⟨s_lt_at.1, by decide, s_lt_at.2.1, by decide, fun i hi => Or.inl ⟨rfl, by rw [show i = 0 by omega]; exact s_lt_at.2.2.1⟩⟩
  intro q hq
  have := lone_1 (FrW_BT hf hT) hN (FrW_Gr hf hG) hH (FrW_Li hf hL) hO (eV (τ.1 2) (τ.1 3) (τ.1 4) v) (fun p _ h => ⟨fun _ => s_lt_at.2.2.1, fun _ => Or.inl h⟩) (fun p _ h => ⟨fun z => ⟨s_lt_at.2.2.1, by
    have z2 := z.resolve_left (fun y => absurd (h.symm.trans y) (by decide))
    rw [show (s_lt τ (-1) v).1 (111 + 5) 0 = v from rfl]
    exact z2.2⟩, fun z => Or.inr ⟨h, by
    have z2 := z.2
    rw [show (s_lt τ (-1) v).1 (111 + 5) 0 = v from rfl] at z2
    exact z2⟩⟩) (fun p _ h => ⟨fun z => z.elim (fun z => absurd (h.symm.trans z) (by decide)) (fun z => absurd (h.symm.trans z.1) (by decide)), fun ⟨t, z, _⟩ => by cases z⟩) q hq
  exact this
/-- a lone node -/
theorem lone_n {τ : sg} {t : Nat} (ht : t < 16) {n p0 m : Nat} {H : Nat → Nat} {R : Nat → Int64} {sd : Int64} (D : Dc) (F : Nat → Nat → Prop) (hnm : τ.1 (11 + 6 * t) 0 = D.1 t) (hF : ∀ p, lst τ m p → τ.1 2 p = 8 → (lb (τ.2 (11 + 6 * t) 8) (ot (τ.1 4) p) = true ↔ F t (ot (τ.1 4) p))) (hT : BT τ) (hG : Gr τ n H) (hH : ∀ q, q < n → H q ≤ 32) (hL : Li τ n p0 m) (hO : WO (s_lt τ (nI t) 0) 111 0 1 (fun _ => some t) m R sd) : ∀ q, q < 64 → (lb sd q = true ↔ lst τ m q ∧ S1 (τ.1 2) (τ.1 3) (τ.1 4) (τ.1 6) (eN (τ.1 2) (τ.1 3) (τ.1 4) D F t) q) := by
  have hf : FrW τ (s_lt τ (nI t) 0) := FrW_lt
  have hN : Nd (s_lt τ (nI t) 0) 111 0 1 (fun _ => some t) := ⟨s_lt_at.1, by decide, s_lt_at.2.1, by decide, fun i hi => Or.inr ⟨t, rfl, ht, by rw [show i = 0 by omega]; exact s_lt_at.2.2.1⟩⟩
  have h0 : (s_lt τ (nI t) 0).1 115 0 ≠ -1 := by rw [s_lt_at.2.2.1]; exact nI_nm1 (by omega)
  intro q hq
  refine lone_1 (FrW_BT hf hT) hN (FrW_Gr hf hG) hH (FrW_Li hf hL) hO (eN (τ.1 2) (τ.1 3) (τ.1 4) D F t) (fun p _ h => ⟨fun z => absurd (h.symm.trans z.1) (by decide), fun z => absurd z h0⟩) (fun p _ h => ⟨fun z => absurd (h.symm.trans z.1) (by decide), fun z => absurd z.1 h0⟩) (fun p hp h => ?_) q hq
  have e : (s_lt τ (nI t) 0).1 (11 + 6 * t) 0 = D.1 t := by rw [hf.1 _ (by omega) (by omega) (by omega) (by omega)]; exact hnm
  constructor
  · rintro ⟨-, z2, z3⟩
    exact ⟨t, rfl, by rw [e]; exact z2, (hF p hp h).mpr z3⟩
  · rintro ⟨u, z1, z2, z3⟩
    cases z1
    rw [e] at z2
    exact ⟨h, z2, (hF p hp h).mp z3⟩
