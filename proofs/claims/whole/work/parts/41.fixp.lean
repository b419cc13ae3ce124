/-! the least rows -/
def cz (m : Nat → Int64) : Nat → Nat
  | 0 => 0
  | i + 1 => cz m i + (if lb (m (i / 64)) (i % 64) = true then 0 else 1)
theorem cz_mono {m m' : Nat → Int64} (h : ∀ x z, lb (m x) z = true → lb (m' x) z = true) : ∀ N, cz m' N ≤ cz m N := by
  intro N
  induction N with
  | zero => exact Nat.le_refl 0
  | succ i ih =>
    unfold cz
    by_cases q : lb (m (i / 64)) (i % 64) = true
    · rw [if_pos q, if_pos (h _ _ q)]
      omega
    · rw [if_neg q]
      split <;> omega
theorem cz_lt {m m' : Nat → Int64} (h : ∀ x z, lb (m x) z = true → lb (m' x) z = true) {x z : Nat} (hz : z < 64) (h0 : ¬ lb (m x) z = true) (h1 : lb (m' x) z = true) : ∀ N, 64 * x + z < N → cz m' N < cz m N := by
  intro N
  induction N with
  | zero => intro h; omega
  | succ i ih =>
    intro hi
    unfold cz
    by_cases e : i = 64 * x + z
    · rw [show i / 64 = x by omega, show i % 64 = z by omega, if_pos h1, if_neg h0]
      have := cz_mono h i
      omega
    · have := ih (by omega)
      by_cases q : lb (m (i / 64)) (i % 64) = true
      · rw [if_pos q, if_pos (h _ _ q)]
        omega
      · rw [if_neg q]
        split <;> omega
theorem sM_b {m : Nat → Int64} {p A z : Nat} (hz : z < 64) (x w : Nat) : lb (sM_ m p A z x) w = true ↔ lb (m x) w = true ∨ (x = 64 * p + A ∧ w = z) := by
  unfold sM_
  by_cases e : x = 64 * p + A
  · rw [e, pk_uLs, lb_or, Bool.or_eq_true]
    by_cases hw : w < 64
    · rw [lb_one_shl hz hw, decide_eq_true_eq]
      exact or_congr Iff.rfl ⟨fun q => ⟨rfl, q⟩, fun q => q.2⟩
    · rw [lb_ge _ (by omega), lb_ge _ (by omega)]
      exact or_congr Iff.rfl ⟨fun q => (by cases q), fun q => (by omega)⟩
  · rw [pk_uLn e]
    exact ⟨Or.inl, fun q => q.resolve_right (fun y => e y.1)⟩
section FIX
variable {k f s g : Nat → Int32} {n : Nat} {H : Nat → Nat} {at9 : Nat → Nat → Prop} {tx : Nat → Prop} {e : Nat → Nat → Prop} {F F' : Nat → Nat → Nat → Prop} {p A z S K : Nat} {m m0 : Nat → Int64} {ch : Int32} {V V' : Nat → Nat → Nat → Prop}
theorem bW_mb (hA : A < 64) (hz : z < 64) (hF : ∀ c A z, A < 64 → z < 64 → F c A z → F' c A z) : bW k f s g at9 tx e F p A z → bW k f s g at9 tx e F' p A z := by
  rintro (⟨h1, h⟩ | ⟨h7, h | h | h | ⟨h1, h⟩ | ⟨h1, h⟩ | ⟨h1, h⟩ | h | h | ⟨h1, c, c1, c2, c3⟩⟩)
  · exact Or.inl ⟨h1, h.imp (hF _ A z hA hz) (Gp_mono (fun a x ha hx => hF _ a x ha hx) (fun a x ha hx => hF _ a x ha hx))⟩
  · exact Or.inr ⟨h7, Or.inl h⟩
  · exact Or.inr ⟨h7, Or.inr (Or.inl h)⟩
  · exact Or.inr ⟨h7, Or.inr (Or.inr (Or.inl h))⟩
  · exact Or.inr ⟨h7, Or.inr (Or.inr (Or.inr (Or.inl ⟨h1, Gp_mono (fun a x ha hx => hF _ a x ha hx) (fun a x ha hx => hF _ a x ha hx) h⟩)))⟩
  · exact Or.inr ⟨h7, Or.inr (Or.inr (Or.inr (Or.inr (Or.inl ⟨h1, Gp_mono (fun a x ha hx => hF _ a x ha hx) (fun a x ha hx => hF _ a x ha hx) h⟩))))⟩
  · exact Or.inr ⟨h7, Or.inr (Or.inr (Or.inr (Or.inr (Or.inr (Or.inl ⟨h1, h.imp (hF _ A z hA hz) (hF _ A z hA hz)⟩)))))⟩
  · exact absurd h.1 h7
  · exact Or.inr ⟨h7, Or.inr (Or.inr (Or.inr (Or.inr (Or.inr (Or.inr (Or.inr (Or.inl h)))))))⟩
  · exact Or.inr ⟨h7, Or.inr (Or.inr (Or.inr (Or.inr (Or.inr (Or.inr (Or.inr (Or.inr ⟨h1, c, c1, c2, hF c A z hA hz c3⟩)))))))⟩
/-- where rows are asked for -/
def dm (n S K p A z : Nat) : Prop := p < n ∧ A < 64 ∧ A &&& S = A ∧ z < K
def So (W : (Nat → Nat → Nat → Prop) → Nat → Nat → Nat → Prop) (n S K : Nat) (m : Nat → Int64) : Prop := ∀ D : Nat → Nat → Nat → Prop, (∀ p A z, dm n S K p A z → W D p A z → D p A z) → ∀ p A z, A < 64 → z < 64 → Mb m p A z → D p A z
def FI (W : (Nat → Nat → Nat → Prop) → Nat → Nat → Nat → Prop) (n S K : Nat) (m0 : Nat → Int64) (ch : Int32) (m : Nat → Int64) (V : Nat → Nat → Nat → Prop) : Prop := So W n S K m ∧ ((ch = 0 ∧ m = m0 ∧ ∀ p A z, V p A z → W (Mb m) p A z → Mb m p A z) ∨ (ch = 1 ∧ cz m 163840 < cz m0 163840))
theorem FI_sub {W : (Nat → Nat → Nat → Prop) → Nat → Nat → Nat → Prop} (hV : ∀ p A z, V' p A z → V p A z) (h : FI W n S K m0 ch m V) : FI W n S K m0 ch m V' := ⟨h.1, h.2.imp (fun q => ⟨q.1, q.2.1, fun p A z hv => q.2.2 p A z (hV p A z hv)⟩) id⟩
theorem FI_skip {W : (Nat → Nat → Nat → Prop) → Nat → Nat → Nat → Prop} (h : FI W n S K m0 ch m V) (hp : Mb m p A z ∨ ¬ W (Mb m) p A z) : FI W n S K m0 ch m (fun p' A' z' => V p' A' z' ∨ (p' = p ∧ A' = A ∧ z' = z)) := ⟨h.1, h.2.imp (fun q => ⟨q.1, q.2.1, fun p' A' z' hv hw => by
  rcases hv with hv | ⟨rfl, rfl, rfl⟩
  · exact q.2.2 p' A' z' hv hw
  · exact hp.resolve_right (fun y => y hw)⟩) id⟩
theorem FI_say {W : (Nat → Nat → Nat → Prop) → Nat → Nat → Nat → Prop} (hW : ∀ (F F' : Nat → Nat → Nat → Prop) p A z, A < 64 → z < 64 → (∀ c A z, A < 64 → z < 64 → F c A z → F' c A z) → W F p A z → W F' p A z) (hn : n ≤ 40) (hK : K ≤ 64) (h : FI W n S K m0 ch m V) (hd : dm n S K p A z) (h0 : ¬ Mb m p A z) (hw : W (Mb m) p A z) : FI W n S K m0 1 (sM_ m p A z) V' := by
  obtain ⟨d1, d2, d3, d4⟩ := hd
  have hz : z < 64 := by omega
  refine ⟨fun D hD p' A' z' hA' hz' hb => ?_, Or.inr ⟨rfl, ?_⟩⟩
  · rcases (sM_b hz _ _).mp hb with q | ⟨q1, q2⟩
    · exact h.1 D hD p' A' z' hA' hz' q
    · have e1 : p' = p := by omega
      have e2 : A' = A := by omega
      rw [e1, e2, q2]
      exact hD p A z ⟨d1, d2, d3, d4⟩ (hW _ _ p A z d2 hz (fun c A z hA hz => h.1 D hD c A z hA hz) hw)
  · have := cz_lt (m := m) (m' := sM_ m p A z) (fun x w q => (sM_b hz x w).mpr (Or.inl q)) hz h0 ((sM_b hz _ _).mpr (Or.inr ⟨rfl, rfl⟩)) 163840 (by omega)
    rcases h.2 with ⟨-, e, -⟩ | ⟨-, q⟩
    · rw [← e]
      exact this
    · omega
/-- done: the least rows -/
def Fin (W : (Nat → Nat → Nat → Prop) → Nat → Nat → Nat → Prop) (n S K : Nat) (m : Nat → Int64) : Prop := So W n S K m ∧ ∀ p A z, dm n S K p A z → W (Mb m) p A z → Mb m p A z
theorem SM_64 (hW : WG k f s g n H) (hH : ∀ q, q < n → H q ≤ 32) (hk : ∀ p, p < n → ∃ kn, kn ≤ 10 ∧ k p = nI kn) : ∀ d p, p < n → H p < d → ∀ A z, SM k f s g at9 tx e p A z → A < 64 ∧ z < 64 := by
  intro d
  induction d with
  | zero => intro p _ h; exact absurd h (by omega)
  | succ d ih =>
    intro p hp hd A z h
    have if_ : (k p = 4 ∨ k p = 5 ∨ k p = 6 ∨ k p = 7) → ∀ A z, SM k f s g at9 tx e (ot f p) A z → A < 64 ∧ z < 64 := fun q => ih _ (c_fn hW hH q hp).1 (by have := (c_fn hW hH q hp).2; omega)
    have is_ : (k p = 4 ∨ k p = 5 ∨ k p = 6 ∨ k p = 9) → ∀ A z, SM k f s g at9 tx e (ot s p) A z → A < 64 ∧ z < 64 := fun q => ih _ (c_sn hW hH q hp).1 (by have := (c_sn hW hH q hp).2; omega)
    rw [SM_un hW hH at9 tx e hp] at h
    rcases kd_all hW hH hk hp with q | q | q | q | q | q | q | q | q | q | q
    · obtain ⟨rfl, rfl⟩ := (bM_0 q).mp h; decide
    · exact ((bM_1 q).mp h).elim
    · obtain ⟨rfl, h2, -⟩ := (bM_2 q).mp h; exact ⟨by decide, h2⟩
    · obtain ⟨rfl, i, h2, rfl, -⟩ := (bM_3 q).mp h; exact ⟨by decide, p2_6 i h2⟩
    · obtain ⟨a, b, x, y, h1, h2, h3, h4, -, rfl, -, rfl, -⟩ := (bM_4 q).mp h; exact ⟨or_64 h1 h2, or_64 h3 h4⟩
    · obtain ⟨a, b, x, y, h1, h2, h3, h4, -, rfl, -, rfl, -⟩ := (bM_5 q).mp h; exact ⟨or_64 h1 h2, or_64 h3 h4⟩
    · exact ((bM_6 q).mp h).elim (if_ (Or.inr (Or.inr (Or.inl q))) A z) (is_ (Or.inr (Or.inr (Or.inl q))) A z)
    · refine (bM_7 q).mp h (fun A z => A < 64 ∧ z < 64) (fun A z => if_ (Or.inr (Or.inr (Or.inr q))) A z) (fun A z h => ?_)
      obtain ⟨a, b, x, y, h1, h2, h3, h4, -, rfl, -, rfl, -⟩ := h
      exact ⟨or_64 h1 h2, or_64 h3 h4⟩
    · obtain ⟨rfl, i, h2, rfl, -⟩ := (bM_8 q).mp h; exact ⟨by decide, p2_6 i h2⟩
    · obtain ⟨rfl, i, h2, rfl, -⟩ := (bM_9 q).mp h; exact ⟨p2_6 i h2, by decide⟩
    · obtain ⟨c, h1, h2, h3⟩ := (bM_10 q).mp h
      have := c_gn hW hH q hp h1 h2
      exact ih c this.1 (by omega) A z h3
theorem sub_tr {a A S : Nat} (h1 : a &&& A = a) (h2 : A &&& S = A) : a &&& S = a := by rw [← h1, Nat.and_assoc, h2]
theorem or_sub {a b : Nat} : a &&& (a ||| b) = a ∧ b &&& (a ||| b) = b := ⟨tb_eq fun x => by rw [tb_and, tb_or]; exact ⟨fun h => h.1, fun h => ⟨h, Or.inl h⟩⟩, tb_eq fun x => by rw [tb_and, tb_or]; exact ⟨fun h => h.1, fun h => ⟨h, Or.inr h⟩⟩⟩
theorem Fin_SM (hW : WG k f s g n H) (hH : ∀ q, q < n → H q ≤ 32) (hk : ∀ p, p < n → ∃ kn, kn ≤ 10 ∧ k p = nI kn) (hK : K ≤ 64) (h : Fin (bW k f s g at9 tx e) n S K m) : ∀ p A z, dm n S K p A z → (Mb m p A z ↔ SM k f s g at9 tx e p A z) := by
  have snd : ∀ p A z, dm n S K p A z → Mb m p A z → SM k f s g at9 tx e p A z := fun p A z hd hb => by
    refine h.1 (SM k f s g at9 tx e) (fun p A z hd hw => ?_) p A z hd.2.1 (by have := hd.2.2.2; omega) hb
    have hp := hd.1
    by_cases q : k p = 7
    · have e7 : ∀ b y, SM k f s g at9 tx e p b y ↔ Mo (SM k f s g at9 tx e (ot f p)) b y := fun b y => (SM_un hW hH at9 tx e hp).trans (bM_7 q)
      rw [e7]
      rcases (bW_7 q).mp hw with y | y
      · exact Mo_of y
      · exact Mo_r (Gp_mono (fun _ _ _ _ y => y) (fun b y _ _ z => (e7 b y).mp z) y)
    · exact (SM_un hW hH at9 tx e hp).mpr ((bW_n q).mp hw)
  have cpl : ∀ d p, p < n → H p < d → ∀ A z, dm n S K p A z → SM k f s g at9 tx e p A z → Mb m p A z := by
    intro d
    induction d with
    | zero => intro p _ h; exact absurd h (by omega)
    | succ d ih =>
      intro p hp hd A z hdm hs
      obtain ⟨-, d2, d3, d4⟩ := hdm
      have if_ : (k p = 4 ∨ k p = 5 ∨ k p = 6 ∨ k p = 7) → ∀ A z, A < 64 → A &&& S = A → z < K → SM k f s g at9 tx e (ot f p) A z → Mb m (ot f p) A z := fun q A z h1 h2 h3 => ih _ (c_fn hW hH q hp).1 (by have := (c_fn hW hH q hp).2; omega) A z ⟨(c_fn hW hH q hp).1, h1, h2, h3⟩
      have is_ : (k p = 4 ∨ k p = 5 ∨ k p = 6 ∨ k p = 9) → ∀ A z, A < 64 → A &&& S = A → z < K → SM k f s g at9 tx e (ot s p) A z → Mb m (ot s p) A z := fun q A z h1 h2 h3 => ih _ (c_sn hW hH q hp).1 (by have := (c_sn hW hH q hp).2; omega) A z ⟨(c_sn hW hH q hp).1, h1, h2, h3⟩
      have hs' := (SM_un hW hH at9 tx e hp).mp hs
      have grp : ∀ (cut : Bool), k p = 4 ∨ k p = 5 → Gp cut (SM k f s g at9 tx e (ot f p)) (SM k f s g at9 tx e (ot s p)) A z → Gp cut (Mb m (ot f p)) (Mb m (ot s p)) A z := by
        rintro cut q ⟨a, b, x, y, h1, h2, h3, h4, h5, rfl, h7, rfl, h9, h10, h11⟩
        have hx : x < K := Nat.lt_of_le_of_lt or_le.1 d4
        have hy : y < K := Nat.lt_of_le_of_lt or_le.2 d4
        exact ⟨a, b, x, y, h1, h2, h3, h4, h5, rfl, h7, rfl, h9, if_ (q.imp id Or.inl) a x h1 (sub_tr or_sub.1 d3) hx h10, is_ (q.imp id Or.inl) b y h2 (sub_tr or_sub.2 d3) hy h11⟩
      have go : bW k f s g at9 tx e (Mb m) p A z → Mb m p A z := h.2 p A z ⟨hp, d2, d3, d4⟩
      rcases kd_all hW hH hk hp with q | q | q | q | q | q | q | q | q | q | q
      · exact go <| (bW_n (by rw [q]; decide)).mpr ((bM_0 q).mpr ((bM_0 q).mp hs'))
      · exact ((bM_1 q).mp hs').elim
      · exact go <| (bW_n (by rw [q]; decide)).mpr ((bM_2 q).mpr ((bM_2 q).mp hs'))
      · exact go <| (bW_n (by rw [q]; decide)).mpr ((bM_3 q).mpr ((bM_3 q).mp hs'))
      · exact go <| (bW_n (by rw [q]; decide)).mpr ((bM_4 q).mpr (grp true (Or.inl q) ((bM_4 q).mp hs')))
      · exact go <| (bW_n (by rw [q]; decide)).mpr ((bM_5 q).mpr (grp false (Or.inr q) ((bM_5 q).mp hs')))
      · exact go <| (bW_n (by rw [q]; decide)).mpr ((bM_6 q).mpr (((bM_6 q).mp hs').imp (if_ (Or.inr (Or.inr (Or.inl q))) A z d2 d3 d4) (is_ (Or.inr (Or.inr (Or.inl q))) A z d2 d3 d4)))
      · have hf := if_ (Or.inr (Or.inr (Or.inr q)))
        have hfn := (c_fn hW hH (p := p) (Or.inr (Or.inr (Or.inr q))) hp)
        have big : ∀ A z, Mo (SM k f s g at9 tx e (ot f p)) A z → A < 64 → A &&& S = A → z < K → Mb m p A z := by
          intro A z hmo
          refine Mo_ri (D := fun A z => A < 64 → A &&& S = A → z < K → Mb m p A z) (fun A z => SM_64 hW hH hk 33 _ hfn.1 (by have := hH _ hfn.1; omega) A z) (fun A z h1 h2 h3 h4 => h.2 p A z ⟨hp, h2, h3, h4⟩ ((bW_7 q).mpr (Or.inl (hf A z h2 h3 h4 h1)))) (fun A z hg h2 h3 h4 => h.2 p A z ⟨hp, h2, h3, h4⟩ ((bW_7 q).mpr (Or.inr ?_))) hmo
          obtain ⟨a, b, x, y, g1, g2, g3, g4, g5, rfl, g7, rfl, g9, g10, g11⟩ := hg
          have hx : x < K := Nat.lt_of_le_of_lt or_le.1 h4
          have hy : y < K := Nat.lt_of_le_of_lt or_le.2 h4
          exact ⟨a, b, x, y, g1, g2, g3, g4, g5, rfl, g7, rfl, g9, hf a x g1 (sub_tr or_sub.1 h3) hx g10, g11 g2 (sub_tr or_sub.2 h3) hy⟩
        exact big A z ((bM_7 q).mp hs') d2 d3 d4
      · exact go <| (bW_n (by rw [q]; decide)).mpr ((bM_8 q).mpr ((bM_8 q).mp hs'))
      · exact go <| (bW_n (by rw [q]; decide)).mpr ((bM_9 q).mpr ((bM_9 q).mp hs'))
      · obtain ⟨c, h1, h2, h3⟩ := (bM_10 q).mp hs'
        have := c_gn hW hH q hp h1 h2
        exact go <| (bW_n (by rw [q]; decide)).mpr ((bM_10 q).mpr ⟨c, h1, h2, ih c this.1 (by omega) A z ⟨this.1, d2, d3, d4⟩ h3⟩)
  exact fun p A z hd => ⟨snd p A z hd, cpl 33 p hd.1 (by have := hH p hd.1; omega) A z hd⟩
end FIX
