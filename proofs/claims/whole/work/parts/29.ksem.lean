/-! the rows that weighing finds are what patterns mean -/
theorem or_0 {a b : Nat} (h : 0 = a ||| b) : a = 0 ∧ b = 0 := Nat.or_eq_zero_iff.mp h.symm
theorem or_le {a b : Nat} : a ≤ a ||| b ∧ b ≤ a ||| b := ⟨Nat.left_le_or, Nat.right_le_or⟩
theorem Gp_00 {cut : Bool} {X Y : Nat → Nat → Prop} : Gp cut X Y 0 0 ↔ X 0 0 ∧ Y 0 0 := by
  constructor
  · rintro ⟨a, b, x, y, -, -, -, -, -, h1, -, h2, -, h3, h4⟩
    obtain ⟨rfl, rfl⟩ := or_0 h1
    obtain ⟨rfl, rfl⟩ := or_0 h2
    exact ⟨h3, h4⟩
  · rintro ⟨h1, h2⟩
    exact ⟨0, 0, 0, 0, by decide, by decide, by decide, by decide, rfl, rfl, rfl, rfl, fun _ => by decide, h1, h2⟩
theorem Mo_00 {X : Nat → Nat → Prop} : Mo X 0 0 ↔ X 0 0 := by
  refine ⟨fun h => ?_, Mo_of⟩
  refine h (fun A z => A = 0 → z = 0 → X 0 0) (fun A z h e1 e2 => by rw [e1, e2] at h; exact h) (fun A z h e1 e2 => ?_) rfl rfl
  rw [e1, e2] at h
  exact (Gp_00.mp h).2
theorem one_or {x y : Nat} (h : 1 = x ||| y) (h2 : x &&& y = 0) : (x = 0 ∧ y = 1) ∨ (x = 1 ∧ y = 0) := by
  have h3 : x ≤ 1 := by rw [h]; exact or_le.1
  have h4 : y ≤ 1 := by rw [h]; exact or_le.2
  rcases (show x = 0 ∨ x = 1 by omega) with rfl | rfl <;> rcases (show y = 0 ∨ y = 1 by omega) with rfl | rfl
  · exact absurd h (by decide)
  · exact Or.inl ⟨rfl, rfl⟩
  · exact Or.inr ⟨rfl, rfl⟩
  · exact absurd h2 (by decide)
theorem Gp_01 {cut : Bool} {X Y : Nat → Nat → Prop} : Gp cut X Y 0 1 ↔ (X 0 1 ∧ Y 0 0) ∨ (X 0 0 ∧ Y 0 1) := by
  constructor
  · rintro ⟨a, b, x, y, -, -, -, -, -, h1, h5, h2, -, h3, h4⟩
    obtain ⟨rfl, rfl⟩ := or_0 h1
    rcases one_or h2 h5 with ⟨rfl, rfl⟩ | ⟨rfl, rfl⟩
    · exact Or.inr ⟨h3, h4⟩
    · exact Or.inl ⟨h3, h4⟩
  · rintro (⟨h1, h2⟩ | ⟨h1, h2⟩)
    · exact ⟨0, 0, 1, 0, by decide, by decide, by decide, by decide, rfl, rfl, rfl, rfl, fun _ => by decide, h1, h2⟩
    · exact ⟨0, 0, 0, 1, by decide, by decide, by decide, by decide, rfl, rfl, rfl, rfl, fun _ => by decide, h1, h2⟩
theorem Mo_01 {X : Nat → Nat → Prop} : Mo X 0 1 ↔ X 0 1 := by
  refine ⟨fun h => ?_, Mo_of⟩
  refine h (fun A z => A = 0 → z = 1 → X 0 1) (fun A z h e1 e2 => by rw [e1, e2] at h; exact h) (fun A z h e1 e2 => ?_) rfl rfl
  rw [e1, e2] at h
  rcases Gp_01.mp h with ⟨q, -⟩ | ⟨-, q⟩
  · exact q rfl rfl
  · exact q
section SEM
variable (k f s g : Nat → Int32)
def SN : Nat → Prop := fx False (bN k f s g) 33
def S1 (e : Nat → Prop) : Nat → Prop := fx False (b1 k f s g (SN k f s g) e) 33
def SM (at9 : Nat → Nat → Prop) (tx : Nat → Prop) (e : Nat → Nat → Prop) : Nat → Nat → Nat → Prop := fx (fun _ _ => False) (bM k f s g at9 tx e) 33
end SEM
section SEML
variable {k f s g : Nat → Int32} {n : Nat} {H : Nat → Nat}
theorem SN_un (hW : WG k f s g n H) (hH : ∀ q, q < n → H q ≤ 32) {p : Nat} (hp : p < n) : SN k f s g p ↔ bN k f s g (SN k f s g) p := by
  have := fx_un (bot := False) hW hH (bN_cg hW) hp
  unfold SN
  rw [this]
theorem S1_un (hW : WG k f s g n H) (hH : ∀ q, q < n → H q ≤ 32) (e : Nat → Prop) {p : Nat} (hp : p < n) : S1 k f s g e p ↔ b1 k f s g (SN k f s g) e (S1 k f s g e) p := by
  have := fx_un (bot := False) hW hH (b1_cg (SN k f s g) e hW) hp
  unfold S1
  rw [this]
theorem SM_un (hW : WG k f s g n H) (hH : ∀ q, q < n → H q ≤ 32) (at9 : Nat → Nat → Prop) (tx : Nat → Prop) (e : Nat → Nat → Prop) {p : Nat} (hp : p < n) {A z : Nat} : SM k f s g at9 tx e p A z ↔ bM k f s g at9 tx e (SM k f s g at9 tx e) p A z := by
  have := fx_un (bot := fun _ _ => False) hW hH (bM_cg at9 tx e hW) hp
  unfold SM
  rw [this]
theorem kd_all (hW : WG k f s g n H) (hH : ∀ q, q < n → H q ≤ 32) (hk : ∀ p, p < n → ∃ kn, kn ≤ 10 ∧ k p = nI kn) {p : Nat} (hp : p < n) : k p = 0 ∨ k p = 1 ∨ k p = 2 ∨ k p = 3 ∨ k p = 4 ∨ k p = 5 ∨ k p = 6 ∨ k p = 7 ∨ k p = 8 ∨ k p = 9 ∨ k p = 10 := by
  obtain ⟨kn, h1, h2⟩ := hk p hp
  rw [h2]
  rcases (show kn = 0 ∨ kn = 1 ∨ kn = 2 ∨ kn = 3 ∨ kn = 4 ∨ kn = 5 ∨ kn = 6 ∨ kn = 7 ∨ kn = 8 ∨ kn = 9 ∨ kn = 10 by omega) with rfl | rfl | rfl | rfl | rfl | rfl | rfl | rfl | rfl | rfl | rfl <;> decide
theorem c_fn {p : Nat} (hW : WG k f s g n H) (hH : ∀ q, q < n → H q ≤ 32) (h : k p = 4 ∨ k p = 5 ∨ k p = 6 ∨ k p = 7) (hp : p < n) : ot f p < n ∧ H (ot f p) < H p := Ch_Hg hW hp (Ch_f hW hp h).1 (Ch_f hW hp h).2.2
theorem c_sn {p : Nat} (hW : WG k f s g n H) (hH : ∀ q, q < n → H q ≤ 32) (h : k p = 4 ∨ k p = 5 ∨ k p = 6 ∨ k p = 9) (hp : p < n) : ot s p < n ∧ H (ot s p) < H p := Ch_Hg hW hp (Ch_s hW hp h).1 (Ch_s hW hp h).2.2
theorem c_gn {p : Nat} (hW : WG k f s g n H) (hH : ∀ q, q < n → H q ≤ 32) (h : k p = 10) (hp : p < n) {c : Nat} (hc : c < 40) (hg : g (ot f p) = nI c) : c < n ∧ H c < H p := Ch_Hg hW hp hc (Ch_g hW hp hc h hg)
theorem sm_00 (hW : WG k f s g n H) (hH : ∀ q, q < n → H q ≤ 32) (hk : ∀ p, p < n → ∃ kn, kn ≤ 10 ∧ k p = nI kn) (at9 : Nat → Nat → Prop) (tx : Nat → Prop) (e : Nat → Nat → Prop) : ∀ d p, p < n → H p < d → (SM k f s g at9 tx e p 0 0 ↔ SN k f s g p) := by
  intro d
  induction d with
  | zero => intro p _ h; exact absurd h (by omega)
  | succ d ih =>
    intro p hp hd
    have if_ : (k p = 4 ∨ k p = 5 ∨ k p = 6 ∨ k p = 7) → (SM k f s g at9 tx e (ot f p) 0 0 ↔ SN k f s g (ot f p)) := fun q => ih _ (c_fn hW hH q hp).1 (by have := (c_fn hW hH q hp).2; omega)
    have is_ : (k p = 4 ∨ k p = 5 ∨ k p = 6 ∨ k p = 9) → (SM k f s g at9 tx e (ot s p) 0 0 ↔ SN k f s g (ot s p)) := fun q => ih _ (c_sn hW hH q hp).1 (by have := (c_sn hW hH q hp).2; omega)
    rw [SM_un hW hH at9 tx e hp, SN_un hW hH hp]
    rcases kd_all hW hH hk hp with q | q | q | q | q | q | q | q | q | q | q
    · rw [bM_0 q, bN_0 q]; exact ⟨fun _ => trivial, fun _ => ⟨rfl, rfl⟩⟩
    · rw [bM_1 q, bN_1 q]
    · rw [bM_2 q, bN_2 q]
      refine ⟨fun _ => trivial, fun _ => ⟨rfl, by decide, fun i _ h => ?_⟩⟩
      rw [Nat.zero_testBit] at h
      cases h
    · rw [bM_3 q, bN_3 q]
      refine ⟨fun h => ?_, False.elim⟩
      obtain ⟨-, i, -, h, -⟩ := h
      exact absurd h.symm (Nat.ne_of_gt (Nat.two_pow_pos i))
    · rw [bM_4 q, bN_4 q, Gp_00, if_ (Or.inl q), is_ (Or.inl q)]
    · rw [bM_5 q, bN_5 q, Gp_00, if_ (Or.inr (Or.inl q)), is_ (Or.inr (Or.inl q))]
    · rw [bM_6 q, bN_6 q, if_ (Or.inr (Or.inr (Or.inl q))), is_ (Or.inr (Or.inr (Or.inl q)))]
    · rw [bM_7 q, bN_7 q, Mo_00, if_ (Or.inr (Or.inr (Or.inr q)))]
    · rw [bM_8 q, bN_8 q]
      refine ⟨fun h => ?_, False.elim⟩
      obtain ⟨-, i, -, h, -⟩ := h
      exact absurd h.symm (Nat.ne_of_gt (Nat.two_pow_pos i))
    · rw [bM_9 q, bN_9 q]
      refine ⟨fun h => ?_, False.elim⟩
      obtain ⟨-, i, -, h, -⟩ := h
      exact absurd h.symm (Nat.ne_of_gt (Nat.two_pow_pos i))
    · rw [bM_10 q, bN_10 q]
      refine exists_congr fun c => and_congr_right fun h1 => and_congr_right fun h2 => ?_
      have := c_gn hW hH q hp h1 h2
      exact ih c this.1 (by omega)
theorem p2_one (hW : WG k f s g n H) (hH : ∀ q, q < n → H q ≤ 32) {i : Nat} (h : 1 = 2 ^ i) : i = 0 := by
  rcases Nat.eq_zero_or_pos i with q | q
  · exact q
  · have := Nat.pow_le_pow_right (n := 2) (by decide) q
    omega
theorem sm_01 (hW : WG k f s g n H) (hH : ∀ q, q < n → H q ≤ 32) (hk : ∀ p, p < n → ∃ kn, kn ≤ 10 ∧ k p = nI kn) (at9 : Nat → Nat → Prop) (tx : Nat → Prop) (e : Nat → Nat → Prop) (e1 : Nat → Prop) (he2 : ∀ p, p < n → k p = 2 → (e1 p ↔ tx 0)) (he3 : ∀ p, p < n → k p = 3 ∨ k p = 8 → (e1 p ↔ e p 0)) : ∀ d p, p < n → H p < d → (SM k f s g at9 tx e p 0 1 ↔ S1 k f s g e1 p) := by
  intro d
  induction d with
  | zero => intro p _ h; exact absurd h (by omega)
  | succ d ih =>
    intro p hp hd
    have if_ : (k p = 4 ∨ k p = 5 ∨ k p = 6 ∨ k p = 7) → (SM k f s g at9 tx e (ot f p) 0 1 ↔ S1 k f s g e1 (ot f p)) := fun q => ih _ (c_fn hW hH q hp).1 (by have := (c_fn hW hH q hp).2; omega)
    have is_ : (k p = 4 ∨ k p = 5 ∨ k p = 6 ∨ k p = 9) → (SM k f s g at9 tx e (ot s p) 0 1 ↔ S1 k f s g e1 (ot s p)) := fun q => ih _ (c_sn hW hH q hp).1 (by have := (c_sn hW hH q hp).2; omega)
    have jf_ : (k p = 4 ∨ k p = 5 ∨ k p = 6 ∨ k p = 7) → (SM k f s g at9 tx e (ot f p) 0 0 ↔ SN k f s g (ot f p)) := fun q => sm_00 hW hH hk at9 tx e 33 _ (c_fn hW hH q hp).1 (by have := hH _ (c_fn hW hH q hp).1; omega)
    have js_ : (k p = 4 ∨ k p = 5 ∨ k p = 6 ∨ k p = 9) → (SM k f s g at9 tx e (ot s p) 0 0 ↔ SN k f s g (ot s p)) := fun q => sm_00 hW hH hk at9 tx e 33 _ (c_sn hW hH q hp).1 (by have := hH _ (c_sn hW hH q hp).1; omega)
    rw [SM_un hW hH at9 tx e hp, S1_un hW hH e1 hp]
    rcases kd_all hW hH hk hp with q | q | q | q | q | q | q | q | q | q | q
    · rw [bM_0 q, b1_0 q]; exact ⟨fun h => absurd h.2 (by decide), False.elim⟩
    · rw [bM_1 q, b1_1 q]
    · rw [bM_2 q, b1_2 q, he2 p hp q]
      refine ⟨fun h => h.2.2 0 (by decide) (by decide), fun h => ⟨rfl, by decide, fun i hi hb => ?_⟩⟩
      have : i = 0 := by
        rcases Nat.eq_zero_or_pos i with y | y
        · exact y
        · rw [Nat.testBit_lt_two_pow (Nat.lt_of_lt_of_le (by decide : 1 < 2 ^ 1) (Nat.pow_le_pow_right (by decide) y))] at hb
          cases hb
      rw [this]
      exact h
    · rw [bM_3 q, b1_3 q, he3 p hp (Or.inl q)]
      refine ⟨fun h => ?_, fun h => ⟨rfl, 0, by decide, rfl, h⟩⟩
      obtain ⟨-, i, -, h1, h2⟩ := h
      rw [p2_one hW hH h1] at h2
      exact h2
    · rw [bM_4 q, b1_4 q, Gp_01, if_ (Or.inl q), is_ (Or.inl q), jf_ (Or.inl q), js_ (Or.inl q)]
    · rw [bM_5 q, b1_5 q, Gp_01, if_ (Or.inr (Or.inl q)), is_ (Or.inr (Or.inl q)), jf_ (Or.inr (Or.inl q)), js_ (Or.inr (Or.inl q))]
    · rw [bM_6 q, b1_6 q, if_ (Or.inr (Or.inr (Or.inl q))), is_ (Or.inr (Or.inr (Or.inl q)))]
    · rw [bM_7 q, b1_7 q, Mo_01, if_ (Or.inr (Or.inr (Or.inr q)))]
    · rw [bM_8 q, b1_8 q, he3 p hp (Or.inr q)]
      refine ⟨fun h => ?_, fun h => ⟨rfl, 0, by decide, rfl, h⟩⟩
      obtain ⟨-, i, -, h1, h2⟩ := h
      rw [p2_one hW hH h1] at h2
      exact h2
    · rw [bM_9 q, b1_9 q]
      exact ⟨fun h => absurd h.1 (by decide), False.elim⟩
    · rw [bM_10 q, b1_10 q]
      refine exists_congr fun c => and_congr_right fun h1 => and_congr_right fun h2 => ?_
      have := c_gn hW hH q hp h1 h2
      exact ih c this.1 (by omega)
end SEML
/-- the tables of rows beside and behind -/
def BT (σ : sg) : Prop := ∀ x y, x < 64 → y < 64 → (lb (σ.2 108 x) y = true ↔ x &&& y = 0) ∧ (lb (σ.2 109 x) y = true ↔ bf x y)
theorem tb_ge {x i : Nat} (hx : x < 64) (hi : ¬ i < 6) : x.testBit i = false := Nat.testBit_lt_two_pow (Nat.lt_of_lt_of_le hx (show 2 ^ 6 ≤ 2 ^ i from Nat.pow_le_pow_right (by decide) (by omega)))
theorem bf_dj {x y : Nat} (hx : x < 64) (h : bf x y) : x &&& y = 0 := by
  refine Nat.eq_of_testBit_eq fun i => ?_
  rw [Nat.testBit_and, Nat.zero_testBit]
  by_cases hi : i < 6
  · by_cases h1 : x.testBit i = true
    · by_cases h2 : y.testBit i = true
      · exact absurd (h i hi i hi h1 h2) (by omega)
      · rw [ts_nt h2, Bool.and_false]
    · rw [ts_nt h1, Bool.false_and]
  · rw [tb_ge hx hi, Bool.false_and]
theorem add_or : ∀ x, x < 64 → ∀ y, y < 64 → x &&& y = 0 → x + y = x ||| y := by decide +kernel
theorem GG {S : Nat} {rm : Nat → Int64} {cut : Bool} {X X' Y Y' : Nat → Nat → Prop} {A z : Nat} (hS8 : S ≤ 8) (hr : ∀ x y, x < 64 → y < 64 → (lb (rm x) y = true ↔ x &&& y = 0 ∧ (cut = true → bf x y))) (hx : ∀ a x, a < S → x < 64 → (X a x ↔ X' a x)) (hy : ∀ a x, a < S → x < 64 → (Y a x ↔ Y' a x)) (hA : A < S) (hz : z < 64) : GrpS S rm X Y A z ↔ Gp cut X' Y' A z := by
  constructor
  · rintro ⟨a, b, x, y, h1, h2, h3, h4, h5, h6, h7, h8, h9, h10⟩
    obtain ⟨q1, q2⟩ := (hr x y h6 h7).mp h10
    exact ⟨a, b, x, y, by omega, by omega, h6, h7, h3, h4, q1, by rw [h5]; exact add_or x h6 y h7 q1, q2, (hx a x h1 h6).mp h8, (hy b y h2 h7).mp h9⟩
  · rintro ⟨a, b, x, y, h1, h2, h3, h4, h5, h6, h7, h8, h9, h10, h11⟩
    have ha : a < S := Nat.lt_of_le_of_lt (by rw [h6]; exact or_le.1) hA
    have hb : b < S := Nat.lt_of_le_of_lt (by rw [h6]; exact or_le.2) hA
    exact ⟨a, b, x, y, ha, hb, h5, h6, by rw [h8]; exact (add_or x h3 y h4 h7).symm, h3, h4, (hx a x ha h3).mpr h10, (hy b y hb h4).mpr h11, (hr x y h3 h4).mpr ⟨h7, h9⟩⟩
theorem tb_a1 : ∀ n, n < 6 → ∀ z, z < 64 → z < 2 ^ n → z.testBit n = false ∧ z < 2 ^ (n + 1) := by decide +kernel
theorem tb_a2 : ∀ n, n < 6 → ∀ z, z < 64 → 2 ^ n ≤ z → z < 2 ^ (n + 1) → z.testBit n = true ∧ z - 2 ^ n < 2 ^ n := by decide +kernel
theorem tb_a3 : ∀ n, n < 6 → ∀ z, z < 64 → 2 ^ n ≤ z → z < 2 ^ (n + 1) → ∀ i, i < n → z.testBit i = (z - 2 ^ n).testBit i := by decide +kernel
theorem tb_a4 : ∀ n, n < 6 → ∀ z, z < 64 → 2 ^ n ≤ z → z - 2 ^ n < 2 ^ n → z < 2 ^ (n + 1) := by decide +kernel
theorem rT_b {cn : Nat → Int32} : ∀ n, n ≤ 6 → ∀ z, z < 64 → (lb (rT cn n) z = true ↔ z < 2 ^ n ∧ ∀ i, i < n → z.testBit i = true → cn i = -1) := by
  intro n
  induction n with
  | zero =>
    intro _ z hz
    show lb 1 z = true ↔ _
    rw [lb_1, decide_eq_true_eq]
    exact ⟨fun h => ⟨by rw [h]; decide, fun i hi => absurd hi (by omega)⟩, fun h => by have := h.1; omega⟩
  | succ n ih =>
    intro hn z hz
    have t1 := tb_a1 n (by omega) z hz
    have t2 : 2 ^ n ≤ z → z < 2 ^ (n + 1) → z.testBit n = true ∧ z - 2 ^ n < 2 ^ n ∧ ∀ i, i < n → z.testBit i = (z - 2 ^ n).testBit i := fun a b => ⟨(tb_a2 n (by omega) z hz a b).1, (tb_a2 n (by omega) z hz a b).2, tb_a3 n (by omega) z hz a b⟩
    have t3 := tb_a4 n (by omega) z hz
    have h64 : 2 ^ n < 64 := Nat.lt_of_lt_of_le (Nat.pow_lt_pow_right (a := 2) (by decide) (show n < 6 by omega)) (by decide)
    by_cases hc : cn n = -1
    · rw [rT_t hc, lb_or, Bool.or_eq_true, lb_shl _ h64 hz, Bool.and_eq_true, decide_eq_true_eq, ih (by omega) z hz, ih (by omega) (z - 2 ^ n) (Nat.lt_of_le_of_lt (Nat.sub_le _ _) hz)]
      constructor
      · rintro (⟨h1, h2⟩ | ⟨h1, h2, h3⟩)
        · exact ⟨(t1 h1).2, lt_s h2 (fun _ => hc)⟩
        · have q := t3 h1 h2
          exact ⟨q, lt_s (fun i hi hb => h3 i hi (by rw [← (t2 h1 q).2.2 i hi]; exact hb)) (fun _ => hc)⟩
      · rintro ⟨h1, h2⟩
        rcases Nat.lt_or_ge z (2 ^ n) with q | q
        · exact Or.inl ⟨q, fun i hi => h2 i (by omega)⟩
        · obtain ⟨r1, r2, r3⟩ := t2 q h1
          exact Or.inr ⟨q, r2, fun i hi hb => h2 i (by omega) (by rw [r3 i hi]; exact hb)⟩
    · rw [rT_f hc, ih (by omega) z hz]
      constructor
      · rintro ⟨h1, h2⟩
        exact ⟨(t1 h1).2, lt_s h2 (fun h => by rw [(t1 h1).1] at h; cases h)⟩
      · rintro ⟨h1, h2⟩
        rcases Nat.lt_or_ge z (2 ^ n) with q | q
        · exact ⟨q, fun i hi => h2 i (by omega)⟩
        · exact absurd (h2 n (by omega) (t2 q h1).1) hc
theorem rO_b {q : Nat → Prop} : ∀ n, n ≤ 6 → ∀ z, z < 64 → (lb (rO q n) z = true ↔ ∃ i, i < n ∧ z = 2 ^ i ∧ q i) := by
  intro n
  induction n with
  | zero =>
    intro _ z hz
    show lb 0 z = true ↔ _
    rw [lb_0]
    exact ⟨fun h => (by cases h), fun ⟨i, hi, _⟩ => absurd hi (by omega)⟩
  | succ n ih =>
    intro hn z hz
    have h64 : 2 ^ n < 64 := Nat.lt_of_lt_of_le (Nat.pow_lt_pow_right (a := 2) (by decide) (show n < 6 by omega)) (by decide)
    by_cases hc : q n
    · rw [rO_t hc, lb_or, Bool.or_eq_true, lb_one_shl h64 hz, decide_eq_true_eq, ih (by omega) z hz]
      constructor
      · rintro (⟨i, h1, h2⟩ | h)
        · exact ⟨i, by omega, h2⟩
        · exact ⟨n, by omega, h, hc⟩
      · rintro ⟨i, h1, h2, h3⟩
        rcases Nat.lt_or_ge i n with y | y
        · exact Or.inl ⟨i, y, h2, h3⟩
        · rw [show i = n by omega] at h2
          exact Or.inr h2
    · rw [rO_f hc, ih (by omega) z hz]
      constructor
      · rintro ⟨i, h1, h2⟩
        exact ⟨i, by omega, h2⟩
      · rintro ⟨i, h1, h2, h3⟩
        rcases Nat.lt_or_ge i n with y | y
        · exact ⟨i, y, h2, h3⟩
        · rw [show i = n by omega] at h3
          exact absurd h3 hc
/-- what a node of the class gives to the meaning -/
def at9C (σ : sg) (k na p j : Nat) : Prop := j < na ∧ kQA σ k p (ot (σ.1 4) p) j
def txC (σ : sg) (k nc i : Nat) : Prop := i < nc ∧ σ.1 (k + 4) i = -1
def eC (σ : sg) (k nc : Nat) (cd : Nat → Option Nat) (p i : Nat) : Prop := i < nc ∧ ((σ.1 2 p = 3 ∧ kQT σ k p i) ∨ (σ.1 2 p = 8 ∧ kQE σ cd p (ot (σ.1 4) p) i))
theorem tb_hi : ∀ z, z < 64 → ∀ n, n ≤ 6 → (z < 2 ^ n ↔ ∀ i, i < 6 → z.testBit i = true → i < n) := by decide +kernel
theorem KE_sem {σ : sg} {k na nc n p0 m : Nat} {H : Nat → Nat} {cd : Nat → Option Nat} {R : Nat → Int64} (hT : BT σ) (hN : Nd σ k na nc cd) (hG : Gr σ n H) (hH : ∀ q, q < n → H q ≤ 32) (hL : Li σ n p0 m) (hK : ∀ i, i < m → KE σ k na nc (2 ^ na) cd (ot (σ.1 7) i) R) : ∀ i, i < m → ∀ A z, A < 2 ^ na → z < 64 → (Rb R (ot (σ.1 7) i) A z ↔ SM (σ.1 2) (σ.1 3) (σ.1 4) (σ.1 6) (at9C σ k na) (txC σ k nc) (eC σ k nc cd) (ot (σ.1 7) i) A z) := by
  obtain ⟨hp2, hS8, hS0⟩ := p2_of na hN.2.1
  have hna := hN.2.1
  have hc6 := hN.2.2.2.1
  have hcut : ∀ x y, x < 64 → y < 64 → (lb (σ.2 109 x) y = true ↔ x &&& y = 0 ∧ (true = true → bf x y)) := fun x y hx hy => ((hT x y hx hy).2).trans ⟨fun h => ⟨bf_dj hx h, fun _ => h⟩, fun h => h.2 rfl⟩
  have hany : ∀ x y, x < 64 → y < 64 → (lb (σ.2 108 x) y = true ↔ x &&& y = 0 ∧ (false = true → bf x y)) := fun x y hx hy => ((hT x y hx hy).1).trans ⟨fun h => ⟨h, fun q => by cases q⟩, fun h => h.1⟩
  obtain ⟨⟨l1, l2, l3, l4, l5⟩, -⟩ := hL
  intro i
  induction i using Nat.strongRecOn with
  | ind i ih =>
    intro hi A z hA hz
    obtain ⟨kn, h10, hkn, hP⟩ := hK i hi
    obtain ⟨-, hpn, hch⟩ := l2 i hi
    generalize ot (σ.1 7) i = p at hkn hP hpn hch ⊢
    have ihc : ∀ c, c < 40 → Ch (σ.1 2) (σ.1 3) (σ.1 4) (σ.1 6) p c → ∀ A z, A < 2 ^ na → z < 64 → (Rb R c A z ↔ SM (σ.1 2) (σ.1 3) (σ.1 4) (σ.1 6) (at9C σ k na) (txC σ k nc) (eC σ k nc cd) c A z) := fun c hc h => by
      obtain ⟨j, hj, e⟩ := hch c hc h
      rw [← e]
      exact ih j hj (by omega)
    rw [SM_un hG.1 hH _ _ _ hpn]
    rcases (show kn = 0 ∨ kn = 1 ∨ kn = 2 ∨ kn = 3 ∨ kn = 4 ∨ kn = 5 ∨ kn = 6 ∨ kn = 7 ∨ kn = 8 ∨ kn = 9 ∨ kn = 10 by omega) with rfl | rfl | rfl | rfl | rfl | rfl | rfl | rfl | rfl | rfl | rfl
    · rw [bM_0 hkn]; exact hP A z hA hz
    · rw [bM_1 hkn]; exact hP A z hA hz
    · rw [bM_2 hkn, hP A z hA hz, rT_b nc hc6 z hz, tb_hi z hz nc hc6]
      refine and_congr_right fun _ => ⟨fun h => ⟨hz, fun i hi hb => ⟨h.1 i hi hb, h.2 i (h.1 i hi hb) hb⟩⟩, fun h => ⟨fun i hi hb => (h.2 i hi hb).1, fun i hi hb => (h.2 i (by omega) hb).2⟩⟩
    · rw [bM_3 hkn, hP A z hA hz, rO_b nc hc6 z hz]
      refine and_congr_right fun _ => exists_congr fun i => ⟨fun h => ⟨by omega, h.2.1, h.1, Or.inl ⟨hkn, h.2.2⟩⟩, fun h => ⟨h.2.2.1, h.2.1, h.2.2.2.elim (fun q => q.2) (fun q => absurd (hkn.symm.trans q.1) (by decide))⟩⟩
    · rw [bM_4 hkn]
      obtain ⟨f, s, hf, hs, ef, es, h⟩ := hP
      rw [h A z hA hz, ot_e hf ef, ot_e hs es]
      exact GG hS8 hcut (ihc f hf (Or.inl ⟨Or.inl hkn, ef⟩)) (ihc s hs (Or.inr (Or.inl ⟨Or.inl hkn, by rw [hkn]; decide, es⟩))) hA hz
    · rw [bM_5 hkn]
      obtain ⟨f, s, hf, hs, ef, es, h⟩ := hP
      rw [h A z hA hz, ot_e hf ef, ot_e hs es]
      exact GG hS8 hany (ihc f hf (Or.inl ⟨Or.inr (Or.inl hkn), ef⟩)) (ihc s hs (Or.inr (Or.inl ⟨Or.inr (Or.inl hkn), by rw [hkn]; decide, es⟩))) hA hz
    · rw [bM_6 hkn]
      obtain ⟨f, s, hf, hs, ef, es, h⟩ := hP
      rw [h A z hA hz, ot_e hf ef, ot_e hs es]
      exact or_congr (ihc f hf (Or.inl ⟨Or.inr (Or.inr (Or.inl hkn)), ef⟩) A z hA hz) (ihc s hs (Or.inr (Or.inl ⟨Or.inr (Or.inr (Or.inl hkn)), by rw [hkn]; decide, es⟩)) A z hA hz)
    · rw [bM_7 hkn]
      obtain ⟨f, hf, ef, u1, u2⟩ := hP
      have ihf := ihc f hf (Or.inl ⟨Or.inr (Or.inr (Or.inr hkn)), ef⟩)
      rw [ot_e hf ef]
      constructor
      · intro hb
        refine u2 (fun A z => Mo (SM (σ.1 2) (σ.1 3) (σ.1 4) (σ.1 6) (at9C σ k na) (txC σ k nc) (eC σ k nc cd) f) A z) (fun A z hA hz h => ?_) A z hA hz hb
        rcases h with h | h
        · exact Mo_of ((ihf A z hA hz).mp h)
        · exact Mo_l ((GG hS8 hcut (fun _ _ _ _ => Iff.rfl) ihf hA hz).mp h)
      · intro h
        refine h (fun A z => A < 2 ^ na → z < 64 → Rb R p A z) (fun A z h hA hz => u1 A z hA hz (Or.inl ((ihf A z hA hz).mpr h))) (fun A z h hA hz => u1 A z hA hz (Or.inr ?_)) hA hz
        obtain ⟨a, b, x, y, h1, h2, h3, h4, h5, h6, h7, h8, h9, h10, h11⟩ := h
        have ha : a < 2 ^ na := Nat.lt_of_le_of_lt (by rw [h6]; exact or_le.1) hA
        have hb : b < 2 ^ na := Nat.lt_of_le_of_lt (by rw [h6]; exact or_le.2) hA
        exact ⟨a, b, x, y, ha, hb, h5, h6, by rw [h8]; exact (add_or x h3 y h4 h7).symm, h3, h4, h10 ha h3, (ihf b y hb h4).mpr h11, (hcut x y h3 h4).mpr ⟨h7, h9⟩⟩
    · rw [bM_8 hkn]
      obtain ⟨q, hq, eq, h⟩ := hP
      rw [h A z hA hz, rO_b nc hc6 z hz]
      refine and_congr_right fun _ => exists_congr fun i => ⟨fun h => ⟨by omega, h.2.1, h.1, Or.inr ⟨hkn, by rw [ot_e hq eq]; exact h.2.2⟩⟩, fun h => ⟨h.2.2.1, h.2.1, h.2.2.2.elim (fun q => absurd (hkn.symm.trans q.1) (by decide)) (fun z => by have := z.2; rw [ot_e hq eq] at this; exact this)⟩⟩
    · rw [bM_9 hkn]
      obtain ⟨q, hq, eq, h⟩ := hP
      rw [h A z hA hz]
      refine and_congr_right fun _ => exists_congr fun i => ⟨fun h => ⟨by omega, h.2.1, h.1, by rw [ot_e hq eq]; exact h.2.2⟩, fun h => ⟨h.2.2.1, h.2.1, by have := h.2.2.2; rw [ot_e hq eq] at this; exact this⟩⟩
    · rw [bM_10 hkn]
      obtain ⟨d, hd, ef, h⟩ := hP
      rw [ot_e (by omega) ef]
      rcases h with ⟨g1, g2⟩ | ⟨c, hc, g1, g2⟩
      · rw [g2 A z hA hz]
        refine ⟨False.elim, fun ⟨c, hc, e, _⟩ => ?_⟩
        exact absurd (e.symm.trans g1) (nI_nm1 (by omega))
      · rw [g2 A z hA hz, ihc c hc (Or.inr (Or.inr ⟨hkn, d, hd, ef, g1⟩)) A z hA hz]
        constructor
        · intro h
          exact ⟨c, hc, g1, h⟩
        · rintro ⟨c2, hc2, e, h⟩
          rw [g1] at e
          cases nI_i hc hc2 e
          exact h
