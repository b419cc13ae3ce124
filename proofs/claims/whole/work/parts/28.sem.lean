/-! what patterns mean -/
/-- every child of x stands before every child of y -/
abbrev bf (x y : Nat) : Prop := ∀ i, i < 6 → ∀ j, j < 6 → x.testBit i = true → y.testBit j = true → i < j
def Gp (cut : Bool) (X Y : Nat → Nat → Prop) (A z : Nat) : Prop := ∃ a b x y, a < 64 ∧ b < 64 ∧ x < 64 ∧ y < 64 ∧ a &&& b = 0 ∧ A = a ||| b ∧ x &&& y = 0 ∧ z = x ||| y ∧ (cut = true → bf x y) ∧ X a x ∧ Y b y
def Mo (X : Nat → Nat → Prop) (A z : Nat) : Prop := ∀ D : Nat → Nat → Prop, (∀ A z, X A z → D A z) → (∀ A z, Gp true D X A z → D A z) → D A z
theorem Gp_mono {cut : Bool} {X X' Y Y' : Nat → Nat → Prop} {A z : Nat} (hx : ∀ a x, a < 64 → x < 64 → X a x → X' a x) (hy : ∀ a x, a < 64 → x < 64 → Y a x → Y' a x) : Gp cut X Y A z → Gp cut X' Y' A z := by
  rintro ⟨a, b, x, y, h1, h2, h3, h4, h5, h6, h7, h8, h9, h10, h11⟩
  exact ⟨a, b, x, y, h1, h2, h3, h4, h5, h6, h7, h8, h9, hx a x h1 h3 h10, hy b y h2 h4 h11⟩
theorem or_64 {a b : Nat} (h1 : a < 64) (h2 : b < 64) : a ||| b < 64 := Nat.or_lt_two_pow (n := 6) h1 h2
theorem and0_or {a b c : Nat} (h1 : a &&& c = 0) (h2 : b &&& c = 0) : (a ||| b) &&& c = 0 := by rw [Nat.and_or_distrib_right, h1, h2]; rfl
theorem and0_l {a b c : Nat} (h : (a ||| b) &&& c = 0) : a &&& c = 0 ∧ b &&& c = 0 := by
  rw [Nat.and_or_distrib_right] at h
  exact Nat.or_eq_zero_iff.mp h
theorem and0_c {a b : Nat} (h : a &&& b = 0) : b &&& a = 0 := by rw [Nat.and_comm]; exact h
theorem bf_l {x y w : Nat} (h : bf (x ||| y) w) : bf x w ∧ bf y w := ⟨fun i hi j hj h1 h2 => h i hi j hj (by rw [Nat.testBit_or, h1, Bool.true_or]) h2, fun i hi j hj h1 h2 => h i hi j hj (by rw [Nat.testBit_or, h1, Bool.or_true]) h2⟩
theorem bf_r {x y w : Nat} (h : bf w (x ||| y)) : bf w x ∧ bf w y := ⟨fun i hi j hj h1 h2 => h i hi j hj h1 (by rw [Nat.testBit_or, h2, Bool.true_or]), fun i hi j hj h1 h2 => h i hi j hj h1 (by rw [Nat.testBit_or, h2, Bool.or_true])⟩
theorem bf_lm {x y w : Nat} (h1 : bf x w) (h2 : bf y w) : bf (x ||| y) w := fun i hi j hj h3 h4 => by
  rw [Nat.testBit_or, Bool.or_eq_true] at h3
  exact h3.elim (fun z => h1 i hi j hj z h4) (fun z => h2 i hi j hj z h4)
theorem bf_rm {x y w : Nat} (h1 : bf w x) (h2 : bf w y) : bf w (x ||| y) := fun i hi j hj h3 h4 => by
  rw [Nat.testBit_or, Bool.or_eq_true] at h4
  exact h4.elim (fun z => h1 i hi j hj h3 z) (fun z => h2 i hi j hj h3 z)
theorem Mo_of {X : Nat → Nat → Prop} {A z : Nat} (h : X A z) : Mo X A z := fun _ h1 _ => h1 A z h
theorem Mo_l {X : Nat → Nat → Prop} {A z : Nat} (h : Gp true (Mo X) X A z) : Mo X A z := fun D h1 h2 => h2 A z (Gp_mono (fun a x _ _ q => q D h1 h2) (fun _ _ _ _ q => q) h)
/-- one of X before many -/
theorem Mo_r {X : Nat → Nat → Prop} {A z : Nat} (h : Gp true X (Mo X) A z) : Mo X A z := by
  obtain ⟨a, b, x, y, ha, hb, hx, hy, hd, rfl, he, rfl, hc, h1, h2⟩ := h
  have := h2 (fun b y => ∀ a x, a < 64 → b < 64 → x < 64 → y < 64 → a &&& b = 0 → x &&& y = 0 → bf x y → X a x → Mo X (a ||| b) (x ||| y)) (fun b y hY a x ha hb hx hy hd he hc hX => Mo_l ⟨a, b, x, y, ha, hb, hx, hy, hd, rfl, he, rfl, fun _ => hc, Mo_of hX, hY⟩) (by
    rintro B w ⟨b, c, y, w, q1, q2, q3, q4, q5, rfl, q6, rfl, q7, q8, q9⟩ a x ha hb hx hy hd he hc hX
    have hd2 := and0_l (and0_c hd)
    have he2 := and0_l (and0_c he)
    have hc2 := bf_r hc
    rw [← Nat.or_assoc, ← Nat.or_assoc]
    exact Mo_l ⟨a ||| b, c, x ||| y, w, or_64 ha q1, q2, or_64 hx q3, q4, and0_or (and0_c hd2.2) q5, rfl, and0_or (and0_c he2.2) q6, rfl, fun _ => bf_lm hc2.2 (q7 rfl), q8 a x ha q1 hx q3 (and0_c hd2.1) (and0_c he2.1) hc2.1 hX, q9⟩)
  exact this a x ha hb hx hy hd he (hc rfl) h1
/-- whatever takes one, and one before what it takes, takes many -/
theorem Mo_ri {X D : Nat → Nat → Prop} (hX : ∀ A z, X A z → A < 64 ∧ z < 64) (h1 : ∀ A z, X A z → D A z) (h2 : ∀ A z, Gp true X D A z → D A z) {A z : Nat} (h : Mo X A z) : D A z := by
  have := h (fun a x => (a < 64 ∧ x < 64) ∧ D a x ∧ ∀ b y, b < 64 → y < 64 → a &&& b = 0 → x &&& y = 0 → bf x y → D b y → D (a ||| b) (x ||| y)) (fun a x hx => ⟨hX a x hx, h1 a x hx, fun b y hb hy hd he hc hD => h2 _ _ ⟨a, b, x, y, (hX a x hx).1, hb, (hX a x hx).2, hy, hd, rfl, he, rfl, fun _ => hc, hx, hD⟩⟩) (by
    rintro A z ⟨a, b, x, y, q1, q2, q3, q4, q5, rfl, q6, rfl, q7, ⟨-, q8, q9⟩, q10⟩
    refine ⟨⟨or_64 q1 q2, or_64 q3 q4⟩, q9 b y q2 q4 q5 q6 (q7 rfl) (h1 b y q10), fun c w hc hw hd he hcc hD => ?_⟩
    have hd2 := and0_l hd
    have he2 := and0_l he
    have hc2 := bf_l hcc
    rw [Nat.or_assoc, Nat.or_assoc]
    refine q9 (b ||| c) (y ||| w) (or_64 q2 hc) (or_64 q4 hw) (and0_c (and0_or (and0_c q5) (and0_c hd2.1))) (and0_c (and0_or (and0_c q6) (and0_c he2.1))) (bf_rm (q7 rfl) hc2.1) (h2 _ _ ⟨b, c, y, w, q2, hc, q4, hw, hd2.2, rfl, he2.2, rfl, fun _ => hc2.2, q10, hD⟩))
  exact this.2.1
section BODY
variable (k f s g : Nat → Int32)
def bN (F : Nat → Prop) (p : Nat) : Prop := k p = 0 ∨ k p = 2 ∨ ((k p = 4 ∨ k p = 5) ∧ F (ot f p) ∧ F (ot s p)) ∨ (k p = 6 ∧ (F (ot f p) ∨ F (ot s p))) ∨ (k p = 7 ∧ F (ot f p)) ∨ (k p = 10 ∧ ∃ c, c < 40 ∧ g (ot f p) = nI c ∧ F c)
def b1 (N e : Nat → Prop) (F : Nat → Prop) (p : Nat) : Prop := ((k p = 2 ∨ k p = 3 ∨ k p = 8) ∧ e p) ∨ ((k p = 4 ∨ k p = 5) ∧ ((F (ot f p) ∧ N (ot s p)) ∨ (N (ot f p) ∧ F (ot s p)))) ∨ (k p = 6 ∧ (F (ot f p) ∨ F (ot s p))) ∨ (k p = 7 ∧ F (ot f p)) ∨ (k p = 10 ∧ ∃ c, c < 40 ∧ g (ot f p) = nI c ∧ F c)
def bM (at9 : Nat → Nat → Prop) (tx : Nat → Prop) (e : Nat → Nat → Prop) (F : Nat → Nat → Nat → Prop) (p A z : Nat) : Prop :=
  (k p = 0 ∧ A = 0 ∧ z = 0) ∨ (k p = 2 ∧ A = 0 ∧ z < 64 ∧ ∀ i, i < 6 → z.testBit i = true → tx i) ∨ ((k p = 3 ∨ k p = 8) ∧ A = 0 ∧ ∃ i, i < 6 ∧ z = 2 ^ i ∧ e p i) ∨ (k p = 4 ∧ Gp true (F (ot f p)) (F (ot s p)) A z) ∨ (k p = 5 ∧ Gp false (F (ot f p)) (F (ot s p)) A z) ∨ (k p = 6 ∧ (F (ot f p) A z ∨ F (ot s p) A z)) ∨ (k p = 7 ∧ Mo (F (ot f p)) A z) ∨ (k p = 9 ∧ z = 0 ∧ ∃ a, a < 6 ∧ A = 2 ^ a ∧ at9 p a) ∨ (k p = 10 ∧ ∃ c, c < 40 ∧ g (ot f p) = nI c ∧ F c A z)
end BODY
def fx {X : Type} (bot : X) (B : (Nat → X) → Nat → X) : Nat → Nat → X
  | 0, _ => bot
  | d + 1, p => B (fx bot B d) p
section FX
variable {k f s g : Nat → Int32} {n : Nat} {H : Nat → Nat}
theorem Ch_Hg (hW : WG k f s g n H) {p c : Nat} (hp : p < n) (hc : c < 40) (h : Ch k f s g p c) : c < n ∧ H c < H p := Ch_H (σ := (fun j => if j = 2 then k else if j = 3 then f else if j = 4 then s else g, fun _ _ => 0)) hW hp hc h
theorem ot_e {f : Nat → Int32} {p c : Nat} (hc : c < 40) (h : f p = nI c) : ot f p = c := by unfold ot; rw [h]; exact nI_clamp (by omega)
theorem Ch_f (hW : WG k f s g n H) {p : Nat} (hp : p < n) (h : k p = 4 ∨ k p = 5 ∨ k p = 6 ∨ k p = 7) : ot f p < 40 ∧ f p = nI (ot f p) ∧ Ch k f s g p (ot f p) := by
  obtain ⟨c, h1, h2, h3⟩ := (hW.2 p hp).1 h
  have hn := hW.1
  rw [ot_e (by omega) h2]
  exact ⟨by omega, h2, Or.inl ⟨h, h2⟩⟩
theorem Ch_s (hW : WG k f s g n H) {p : Nat} (hp : p < n) (h : k p = 4 ∨ k p = 5 ∨ k p = 6 ∨ k p = 9) : ot s p < 40 ∧ s p = nI (ot s p) ∧ Ch k f s g p (ot s p) := by
  have h' : k p = 4 ∨ k p = 5 ∨ k p = 6 ∨ k p = 8 ∨ k p = 9 := h.imp id (Or.imp id (Or.imp id Or.inr))
  obtain ⟨c, h1, h2, h3⟩ := (hW.2 p hp).2.1 h'
  have hn := hW.1
  rw [ot_e (by omega) h2]
  exact ⟨by omega, h2, Or.inr (Or.inl ⟨h', by rcases h with h | h | h | h <;> rw [h] <;> decide, h2⟩)⟩
theorem Ch_g (hW : WG k f s g n H) {p c : Nat} (hp : p < n) (hc : c < 40) (h : k p = 10) (hg : g (ot f p) = nI c) : Ch k f s g p c := by
  obtain ⟨d, h1, h2, h3⟩ := (hW.2 p hp).2.2 h
  rw [ot_e (by omega) h2] at hg
  exact Or.inr (Or.inr ⟨h, d, h1, h2, hg⟩)
theorem fx_eq {X : Type} {bot : X} {B : (Nat → X) → Nat → X} (hW : WG k f s g n H) (hB : ∀ p, p < n → ∀ F F' : Nat → X, (∀ c, c < 40 → Ch k f s g p c → F c = F' c) → B F p = B F' p) : ∀ d d' p, p < n → H p < d → H p < d' → fx bot B d p = fx bot B d' p := by
  intro d
  induction d with
  | zero => intro d' p hp h; exact absurd h (by omega)
  | succ d ih =>
    intro d' p hp h h'
    obtain ⟨d2, rfl⟩ : ∃ d2, d' = d2 + 1 := ⟨d' - 1, by omega⟩
    refine hB p hp _ _ (fun c hc hch => ?_)
    obtain ⟨h1, h2⟩ := Ch_Hg hW hp hc hch
    exact ih d2 c h1 (by omega) (by omega)
theorem fx_un {X : Type} {bot : X} {B : (Nat → X) → Nat → X} (hW : WG k f s g n H) (hH : ∀ q, q < n → H q ≤ 32) (hB : ∀ p, p < n → ∀ F F' : Nat → X, (∀ c, c < 40 → Ch k f s g p c → F c = F' c) → B F p = B F' p) {p : Nat} (hp : p < n) : fx bot B 33 p = B (fx bot B 33) p := by
  rw [fx_eq hW hB 33 34 p hp (by have := hH p hp; omega) (by have := hH p hp; omega)]
  rfl
theorem bN_cg (hW : WG k f s g n H) : ∀ p, p < n → ∀ F F' : Nat → Prop, (∀ c, c < 40 → Ch k f s g p c → F c = F' c) → bN k f s g F p = bN k f s g F' p := by
  intro p hp F F' h
  have hf : (k p = 4 ∨ k p = 5 ∨ k p = 6 ∨ k p = 7) → F (ot f p) = F' (ot f p) := fun q => h _ (Ch_f hW hp q).1 (Ch_f hW hp q).2.2
  have hs : (k p = 4 ∨ k p = 5 ∨ k p = 6 ∨ k p = 9) → F (ot s p) = F' (ot s p) := fun q => h _ (Ch_s hW hp q).1 (Ch_s hW hp q).2.2
  have hg : k p = 10 → (∃ c, c < 40 ∧ g (ot f p) = nI c ∧ F c) = (∃ c, c < 40 ∧ g (ot f p) = nI c ∧ F' c) := fun q => propext (exists_congr fun c => and_congr_right fun h1 => and_congr_right fun h2 => by rw [h c h1 (Ch_g hW hp h1 q h2)])
  unfold bN
  refine propext (or_congr Iff.rfl (or_congr Iff.rfl (or_congr (and_congr_right fun q => ?_) (or_congr (and_congr_right fun q => ?_) (or_congr (and_congr_right fun q => ?_) (and_congr_right fun q => ?_))))))
  · rw [hf (q.imp id Or.inl), hs (q.imp id Or.inl)]
  · rw [hf (Or.inr (Or.inr (Or.inl q))), hs (Or.inr (Or.inr (Or.inl q)))]
  · rw [hf (Or.inr (Or.inr (Or.inr q)))]
  · rw [hg q]
theorem b1_cg (N e : Nat → Prop) (hW : WG k f s g n H) : ∀ p, p < n → ∀ F F' : Nat → Prop, (∀ c, c < 40 → Ch k f s g p c → F c = F' c) → b1 k f s g N e F p = b1 k f s g N e F' p := by
  intro p hp F F' h
  have hf : (k p = 4 ∨ k p = 5 ∨ k p = 6 ∨ k p = 7) → F (ot f p) = F' (ot f p) := fun q => h _ (Ch_f hW hp q).1 (Ch_f hW hp q).2.2
  have hs : (k p = 4 ∨ k p = 5 ∨ k p = 6 ∨ k p = 9) → F (ot s p) = F' (ot s p) := fun q => h _ (Ch_s hW hp q).1 (Ch_s hW hp q).2.2
  have hg : k p = 10 → (∃ c, c < 40 ∧ g (ot f p) = nI c ∧ F c) = (∃ c, c < 40 ∧ g (ot f p) = nI c ∧ F' c) := fun q => propext (exists_congr fun c => and_congr_right fun h1 => and_congr_right fun h2 => by rw [h c h1 (Ch_g hW hp h1 q h2)])
  unfold b1
  refine propext (or_congr Iff.rfl (or_congr (and_congr_right fun q => ?_) (or_congr (and_congr_right fun q => ?_) (or_congr (and_congr_right fun q => ?_) (and_congr_right fun q => ?_)))))
  · rw [hf (q.imp id Or.inl), hs (q.imp id Or.inl)]
  · rw [hf (Or.inr (Or.inr (Or.inl q))), hs (Or.inr (Or.inr (Or.inl q)))]
  · rw [hf (Or.inr (Or.inr (Or.inr q)))]
  · rw [hg q]
theorem bM_cg (at9 : Nat → Nat → Prop) (tx : Nat → Prop) (e : Nat → Nat → Prop) (hW : WG k f s g n H) : ∀ p, p < n → ∀ F F' : Nat → Nat → Nat → Prop, (∀ c, c < 40 → Ch k f s g p c → F c = F' c) → bM k f s g at9 tx e F p = bM k f s g at9 tx e F' p := by
  intro p hp F F' h
  have hf : (k p = 4 ∨ k p = 5 ∨ k p = 6 ∨ k p = 7) → F (ot f p) = F' (ot f p) := fun q => h _ (Ch_f hW hp q).1 (Ch_f hW hp q).2.2
  have hs : (k p = 4 ∨ k p = 5 ∨ k p = 6 ∨ k p = 9) → F (ot s p) = F' (ot s p) := fun q => h _ (Ch_s hW hp q).1 (Ch_s hW hp q).2.2
  funext A z
  have hg : k p = 10 → (∃ c, c < 40 ∧ g (ot f p) = nI c ∧ F c A z) = (∃ c, c < 40 ∧ g (ot f p) = nI c ∧ F' c A z) := fun q => propext (exists_congr fun c => and_congr_right fun h1 => and_congr_right fun h2 => by rw [h c h1 (Ch_g hW hp h1 q h2)])
  unfold bM
  refine propext (or_congr Iff.rfl (or_congr Iff.rfl (or_congr Iff.rfl (or_congr (and_congr_right fun q => ?_) (or_congr (and_congr_right fun q => ?_) (or_congr (and_congr_right fun q => ?_) (or_congr (and_congr_right fun q => ?_) (or_congr Iff.rfl (and_congr_right fun q => ?_)))))))))
  · rw [hf (Or.inl q), hs (Or.inl q)]
  · rw [hf (Or.inr (Or.inl q)), hs (Or.inr (Or.inl q))]
  · rw [hf (Or.inr (Or.inr (Or.inl q))), hs (Or.inr (Or.inr (Or.inl q)))]
  · rw [hf (Or.inr (Or.inr (Or.inr q)))]
  · rw [hg q]
end FX
section KINDS
variable {k f s g : Nat → Int32} {p A z : Nat}
theorem bN_0 {F : Nat → Prop} (h : k p = 0) : bN k f s g F p ↔ (True) := by
  unfold bN
  rw [h]
  simp (decide := true) only [true_and, false_and, or_false, false_or, true_or, or_true]
theorem b1_0 {N e F : Nat → Prop} (h : k p = 0) : b1 k f s g N e F p ↔ (False) := by
  unfold b1
  rw [h]
  simp (decide := true) only [true_and, false_and, or_false, false_or, true_or, or_true]
theorem bM_0 {at9 : Nat → Nat → Prop} {tx : Nat → Prop} {e : Nat → Nat → Prop} {F : Nat → Nat → Nat → Prop} (h : k p = 0) : bM k f s g at9 tx e F p A z ↔ (A = 0 ∧ z = 0) := by
  unfold bM
  rw [h]
  simp (decide := true) only [true_and, false_and, or_false, false_or, true_or, or_true]
theorem bN_1 {F : Nat → Prop} (h : k p = 1) : bN k f s g F p ↔ (False) := by
  unfold bN
  rw [h]
  simp (decide := true) only [true_and, false_and, or_false, false_or, true_or, or_true]
theorem b1_1 {N e F : Nat → Prop} (h : k p = 1) : b1 k f s g N e F p ↔ (False) := by
  unfold b1
  rw [h]
  simp (decide := true) only [true_and, false_and, or_false, false_or, true_or, or_true]
theorem bM_1 {at9 : Nat → Nat → Prop} {tx : Nat → Prop} {e : Nat → Nat → Prop} {F : Nat → Nat → Nat → Prop} (h : k p = 1) : bM k f s g at9 tx e F p A z ↔ (False) := by
  unfold bM
  rw [h]
  simp (decide := true) only [true_and, false_and, or_false, false_or, true_or, or_true]
theorem bN_2 {F : Nat → Prop} (h : k p = 2) : bN k f s g F p ↔ (True) := by
  unfold bN
  rw [h]
  simp (decide := true) only [true_and, false_and, or_false, false_or, true_or, or_true]
theorem b1_2 {N e F : Nat → Prop} (h : k p = 2) : b1 k f s g N e F p ↔ (e p) := by
  unfold b1
  rw [h]
  simp (decide := true) only [true_and, false_and, or_false, false_or, true_or, or_true]
theorem bM_2 {at9 : Nat → Nat → Prop} {tx : Nat → Prop} {e : Nat → Nat → Prop} {F : Nat → Nat → Nat → Prop} (h : k p = 2) : bM k f s g at9 tx e F p A z ↔ (A = 0 ∧ z < 64 ∧ ∀ i, i < 6 → z.testBit i = true → tx i) := by
  unfold bM
  rw [h]
  simp (decide := true) only [true_and, false_and, or_false, false_or, true_or, or_true]
theorem bN_3 {F : Nat → Prop} (h : k p = 3) : bN k f s g F p ↔ (False) := by
  unfold bN
  rw [h]
  simp (decide := true) only [true_and, false_and, or_false, false_or, true_or, or_true]
theorem b1_3 {N e F : Nat → Prop} (h : k p = 3) : b1 k f s g N e F p ↔ (e p) := by
  unfold b1
  rw [h]
  simp (decide := true) only [true_and, false_and, or_false, false_or, true_or, or_true]
theorem bM_3 {at9 : Nat → Nat → Prop} {tx : Nat → Prop} {e : Nat → Nat → Prop} {F : Nat → Nat → Nat → Prop} (h : k p = 3) : bM k f s g at9 tx e F p A z ↔ (A = 0 ∧ ∃ i, i < 6 ∧ z = 2 ^ i ∧ e p i) := by
  unfold bM
  rw [h]
  simp (decide := true) only [true_and, false_and, or_false, false_or, true_or, or_true]
theorem bN_4 {F : Nat → Prop} (h : k p = 4) : bN k f s g F p ↔ (F (ot f p) ∧ F (ot s p)) := by
  unfold bN
  rw [h]
  simp (decide := true) only [true_and, false_and, or_false, false_or, true_or, or_true]
theorem b1_4 {N e F : Nat → Prop} (h : k p = 4) : b1 k f s g N e F p ↔ ((F (ot f p) ∧ N (ot s p)) ∨ (N (ot f p) ∧ F (ot s p))) := by
  unfold b1
  rw [h]
  simp (decide := true) only [true_and, false_and, or_false, false_or, true_or, or_true]
theorem bM_4 {at9 : Nat → Nat → Prop} {tx : Nat → Prop} {e : Nat → Nat → Prop} {F : Nat → Nat → Nat → Prop} (h : k p = 4) : bM k f s g at9 tx e F p A z ↔ (Gp true (F (ot f p)) (F (ot s p)) A z) := by
  unfold bM
  rw [h]
  simp (decide := true) only [true_and, false_and, or_false, false_or, true_or, or_true]
theorem bN_5 {F : Nat → Prop} (h : k p = 5) : bN k f s g F p ↔ (F (ot f p) ∧ F (ot s p)) := by
  unfold bN
  rw [h]
  simp (decide := true) only [true_and, false_and, or_false, false_or, true_or, or_true]
theorem b1_5 {N e F : Nat → Prop} (h : k p = 5) : b1 k f s g N e F p ↔ ((F (ot f p) ∧ N (ot s p)) ∨ (N (ot f p) ∧ F (ot s p))) := by
  unfold b1
  rw [h]
  simp (decide := true) only [true_and, false_and, or_false, false_or, true_or, or_true]
theorem bM_5 {at9 : Nat → Nat → Prop} {tx : Nat → Prop} {e : Nat → Nat → Prop} {F : Nat → Nat → Nat → Prop} (h : k p = 5) : bM k f s g at9 tx e F p A z ↔ (Gp false (F (ot f p)) (F (ot s p)) A z) := by
  unfold bM
  rw [h]
  simp (decide := true) only [true_and, false_and, or_false, false_or, true_or, or_true]
theorem bN_6 {F : Nat → Prop} (h : k p = 6) : bN k f s g F p ↔ (F (ot f p) ∨ F (ot s p)) := by
  unfold bN
  rw [h]
  simp (decide := true) only [true_and, false_and, or_false, false_or, true_or, or_true]
theorem b1_6 {N e F : Nat → Prop} (h : k p = 6) : b1 k f s g N e F p ↔ (F (ot f p) ∨ F (ot s p)) := by
  unfold b1
  rw [h]
  simp (decide := true) only [true_and, false_and, or_false, false_or, true_or, or_true]
theorem bM_6 {at9 : Nat → Nat → Prop} {tx : Nat → Prop} {e : Nat → Nat → Prop} {F : Nat → Nat → Nat → Prop} (h : k p = 6) : bM k f s g at9 tx e F p A z ↔ (F (ot f p) A z ∨ F (ot s p) A z) := by
  unfold bM
  rw [h]
  simp (decide := true) only [true_and, false_and, or_false, false_or, true_or, or_true]
theorem bN_7 {F : Nat → Prop} (h : k p = 7) : bN k f s g F p ↔ (F (ot f p)) := by
  unfold bN
  rw [h]
  simp (decide := true) only [true_and, false_and, or_false, false_or, true_or, or_true]
theorem b1_7 {N e F : Nat → Prop} (h : k p = 7) : b1 k f s g N e F p ↔ (F (ot f p)) := by
  unfold b1
  rw [h]
  simp (decide := true) only [true_and, false_and, or_false, false_or, true_or, or_true]
theorem bM_7 {at9 : Nat → Nat → Prop} {tx : Nat → Prop} {e : Nat → Nat → Prop} {F : Nat → Nat → Nat → Prop} (h : k p = 7) : bM k f s g at9 tx e F p A z ↔ (Mo (F (ot f p)) A z) := by
  unfold bM
  rw [h]
  simp (decide := true) only [true_and, false_and, or_false, false_or, true_or, or_true]
theorem bN_8 {F : Nat → Prop} (h : k p = 8) : bN k f s g F p ↔ (False) := by
  unfold bN
  rw [h]
  simp (decide := true) only [true_and, false_and, or_false, false_or, true_or, or_true]
theorem b1_8 {N e F : Nat → Prop} (h : k p = 8) : b1 k f s g N e F p ↔ (e p) := by
  unfold b1
  rw [h]
  simp (decide := true) only [true_and, false_and, or_false, false_or, true_or, or_true]
theorem bM_8 {at9 : Nat → Nat → Prop} {tx : Nat → Prop} {e : Nat → Nat → Prop} {F : Nat → Nat → Nat → Prop} (h : k p = 8) : bM k f s g at9 tx e F p A z ↔ (A = 0 ∧ ∃ i, i < 6 ∧ z = 2 ^ i ∧ e p i) := by
  unfold bM
  rw [h]
  simp (decide := true) only [true_and, false_and, or_false, false_or, true_or, or_true]
theorem bN_9 {F : Nat → Prop} (h : k p = 9) : bN k f s g F p ↔ (False) := by
  unfold bN
  rw [h]
  simp (decide := true) only [true_and, false_and, or_false, false_or, true_or, or_true]
theorem b1_9 {N e F : Nat → Prop} (h : k p = 9) : b1 k f s g N e F p ↔ (False) := by
  unfold b1
  rw [h]
  simp (decide := true) only [true_and, false_and, or_false, false_or, true_or, or_true]
theorem bM_9 {at9 : Nat → Nat → Prop} {tx : Nat → Prop} {e : Nat → Nat → Prop} {F : Nat → Nat → Nat → Prop} (h : k p = 9) : bM k f s g at9 tx e F p A z ↔ (z = 0 ∧ ∃ a, a < 6 ∧ A = 2 ^ a ∧ at9 p a) := by
  unfold bM
  rw [h]
  simp (decide := true) only [true_and, false_and, or_false, false_or, true_or, or_true]
theorem bN_10 {F : Nat → Prop} (h : k p = 10) : bN k f s g F p ↔ ((∃ c, c < 40 ∧ g (ot f p) = nI c ∧ F c)) := by
  unfold bN
  rw [h]
  simp (decide := true) only [true_and, false_and, or_false, false_or, true_or, or_true]
theorem b1_10 {N e F : Nat → Prop} (h : k p = 10) : b1 k f s g N e F p ↔ ((∃ c, c < 40 ∧ g (ot f p) = nI c ∧ F c)) := by
  unfold b1
  rw [h]
  simp (decide := true) only [true_and, false_and, or_false, false_or, true_or, or_true]
theorem bM_10 {at9 : Nat → Nat → Prop} {tx : Nat → Prop} {e : Nat → Nat → Prop} {F : Nat → Nat → Nat → Prop} (h : k p = 10) : bM k f s g at9 tx e F p A z ↔ ((∃ c, c < 40 ∧ g (ot f p) = nI c ∧ F c A z)) := by
  unfold bM
  rw [h]
  simp (decide := true) only [true_and, false_and, or_false, false_or, true_or, or_true]
end KINDS
