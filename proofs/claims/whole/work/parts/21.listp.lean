/-! the list of patterns: what Grammar.list does, purely -/
def stL (σ : sg) (o : Nat → Int32) (m : Nat) (sn : Int64) : sg := sL (sI (sI σ 7 o) 1 (upd (σ.1 1) 7 (nI m))) 1 (vp_updL (σ.2 1) 8 sn)
section STL
variable (σ : sg) (o : Nat → Int32) (m : Nat) (sn : Int64)
theorem stL_ne {j : Nat} (h1 : j ≠ 1) (h7 : j ≠ 7) : (stL σ o m sn).1 j = σ.1 j := by
  unfold stL
  rw [sL_1, sI_ne _ h1, sI_ne _ h7]
theorem stL_2 {j : Nat} (h1 : j ≠ 1) : (stL σ o m sn).2 j = σ.2 j := by
  unfold stL
  rw [sL_ne _ h1]
  rfl
theorem stL_o : (stL σ o m sn).1 7 = o := by
  unfold stL
  rw [sL_1, sI_ne _ (by decide), sI_at]
theorem stL_1 : (stL σ o m sn).1 1 = upd (σ.1 1) 7 (nI m) := by
  unfold stL
  rw [sL_1, sI_at]
theorem stL_m : (stL σ o m sn).1 1 7 = nI m := by
  rw [stL_1]
  exact pk_us
theorem stL_r : (stL σ o m sn).2 1 = vp_updL (σ.2 1) 8 sn := by
  unfold stL
  rw [sL_at]
theorem stL_s : (stL σ o m sn).2 1 8 = sn := by
  rw [stL_r]
  exact pk_uLs
theorem upd_upd (f : Nat → Int32) (k : Nat) (x y : Int32) : upd (upd f k x) k y = upd f k y := by
  funext j
  unfold upd
  by_cases h : j = k
  · rw [if_pos h, if_pos h]
  · rw [if_neg h, if_neg h, if_neg h]
theorem updL_updL (f : Nat → Int64) (k : Nat) (x y : Int64) : vp_updL (vp_updL f k x) k y = vp_updL f k y := by
  funext j
  unfold vp_updL
  by_cases h : j = k
  · rw [if_pos h, if_pos h]
  · rw [if_neg h, if_neg h, if_neg h]
theorem sI_comm {a b : Nat} (h : a ≠ b) (r r' : Nat → Int32) : sI (sI σ a r) b r' = sI (sI σ b r') a r := by
  unfold sI
  refine Prod.ext ?_ rfl
  funext c
  show (if c = b then r' else (if c = a then r else σ.1 c)) = (if c = a then r else (if c = b then r' else σ.1 c))
  by_cases h1 : c = a
  · have h2 : ¬ c = b := fun e => h (h1.symm.trans e)
    rw [if_neg h2, if_pos h1, if_pos h1]
  · rw [if_neg h1, if_neg h1]
theorem sI_sL (a b : Nat) (r : Nat → Int64) (r' : Nat → Int32) : sI (sL σ a r) b r' = sL (sI σ b r') a r := rfl
theorem stL_seen (x : Int64) : sL (stL σ o m sn) 1 (vp_updL ((stL σ o m sn).2 1) 8 x) = stL σ o m x := by
  rw [stL_r, updL_updL]
  unfold stL
  rw [sL_sL]
theorem stL_ord (o' : Nat → Int32) : sI (stL σ o m sn) 7 o' = stL σ o' m sn := by
  unfold stL
  rw [sI_sL, sI_comm _ (by decide), sI_sI]
theorem stL_list (m' : Nat) : sI (stL σ o m sn) 1 (upd ((stL σ o m sn).1 1) 7 (nI m')) = stL σ o m' sn := by
  rw [stL_1, upd_upd]
  unfold stL
  rw [sI_sL, sI_sI]
end STL
/-- no more different numbers below n than n -/
theorem php : ∀ (n m : Nat) (f : Nat → Nat), (∀ i, i < m → f i < n) → (∀ i j, i < m → j < m → f i = f j → i = j) → m ≤ n := by
  intro n
  induction n with
  | zero =>
    intro m f h _
    rcases Nat.eq_zero_or_pos m with q | q
    · omega
    · exact absurd (h 0 q) (by omega)
  | succ n ih =>
    intro m f h hi
    by_cases hex : ∃ i, i < m ∧ f i = n
    · obtain ⟨i0, h0, e0⟩ := hex
      have hm : m - 1 ≤ n := by
        refine ih (m - 1) (fun i => if i < i0 then f i else f (i + 1)) (fun i hi' => ?_) (fun i j hi' hj' e => ?_)
        · show (if i < i0 then f i else f (i + 1)) < n
          by_cases q : i < i0
          · rw [if_pos q]
            have h1 := h i (by omega)
            have h2 : f i ≠ n := fun z => by have := hi i i0 (by omega) h0 (by rw [z, e0]); omega
            omega
          · rw [if_neg q]
            have h1 := h (i + 1) (by omega)
            have h2 : f (i + 1) ≠ n := fun z => by have := hi (i + 1) i0 (by omega) h0 (by rw [z, e0]); omega
            omega
        · have e : (if i < i0 then f i else f (i + 1)) = (if j < i0 then f j else f (j + 1)) := e
          by_cases q : i < i0 <;> by_cases q2 : j < i0
          · rw [if_pos q, if_pos q2] at e
            exact hi i j (by omega) (by omega) e
          · rw [if_pos q, if_neg q2] at e
            have := hi i (j + 1) (by omega) (by omega) e
            omega
          · rw [if_neg q, if_pos q2] at e
            have := hi (i + 1) j (by omega) (by omega) e
            omega
          · rw [if_neg q, if_neg q2] at e
            have := hi (i + 1) (j + 1) (by omega) (by omega) e
            omega
      omega
    · have := ih m f (fun i hi' => by
        have h1 := h i hi'
        have h2 : f i ≠ n := fun z => hex ⟨i, hi', z⟩
        omega) hi
      omega
/-- c is a part of p, not as an element's content -/
def Ch (k f s g : Nat → Int32) (p c : Nat) : Prop :=
  ((k p = 4 ∨ k p = 5 ∨ k p = 6 ∨ k p = 7) ∧ f p = nI c) ∨ ((k p = 4 ∨ k p = 5 ∨ k p = 6 ∨ k p = 8 ∨ k p = 9) ∧ k p ≠ 8 ∧ s p = nI c) ∨ (k p = 10 ∧ ∃ d, d < 4 ∧ f p = nI d ∧ g d = nI c)
/-- patterns and definitions are as they may be; H falls from a pattern to its parts -/
def WG (k f s g : Nat → Int32) (n : Nat) (H : Nat → Nat) : Prop := n ≤ 40 ∧ ∀ p, p < n →
  ((k p = 4 ∨ k p = 5 ∨ k p = 6 ∨ k p = 7) → ∃ c, c < n ∧ f p = nI c ∧ H c < H p) ∧
  ((k p = 4 ∨ k p = 5 ∨ k p = 6 ∨ k p = 8 ∨ k p = 9) → ∃ c, c < n ∧ s p = nI c ∧ (k p ≠ 8 → H c < H p)) ∧
  (k p = 10 → ∃ d, d < 4 ∧ f p = nI d ∧ (g d = -1 ∨ ∃ c, c < n ∧ g d = nI c ∧ H c < H p))
def Rch (k f s g : Nat → Int32) (p q : Nat) : Prop := ∀ X : Nat → Prop, X p → (∀ a c, X a → c < 40 → Ch k f s g a c → X c) → X q
def ot (o : Nat → Int32) (i : Nat) : Nat := (o i).toNatClampNeg
/-- the list so far: m patterns, all seen, none twice, each behind its parts -/
def ls_I (k f s g : Nat → Int32) (n : Nat) (o : Nat → Int32) (m : Nat) (sn : Int64) : Prop :=
  (∀ i, i < m → o i = nI (ot o i) ∧ ot o i < n ∧ lb sn (ot o i) = true ∧ ∀ c, c < 40 → Ch k f s g (ot o i) c → ∃ j, j < i ∧ ot o j = c) ∧ ∀ i j, i < m → j < m → ot o i = ot o j → i = j
/-- who is seen and not listed yet stands above p -/
def ls_S (n : Nat) (H : Nat → Nat) (o : Nat → Int32) (m : Nat) (sn : Int64) (h : Nat) : Prop := ∀ q, q < n → lb sn q = true → (∃ i, i < m ∧ ot o i = q) ∨ h < H q
/-- what listing p has done -/
def ls_P (k f s g : Nat → Int32) (n : Nat) (H : Nat → Nat) (p : Nat) (o : Nat → Int32) (m : Nat) (sn : Int64) (o' : Nat → Int32) (m' : Nat) (sn' : Int64) : Prop :=
  ls_I k f s g n o' m' sn' ∧ m ≤ m' ∧ (∀ i, i < m → o' i = o i) ∧ (∃ i, i < m' ∧ ot o' i = p) ∧ (∀ q, q < 64 → (lb sn' q = true ↔ lb sn q = true ∨ ∃ i, m ≤ i ∧ i < m' ∧ ot o' i = q)) ∧ (∀ i, m ≤ i → i < m' → H (ot o' i) ≤ H p ∧ Rch k f s g p (ot o' i))
/-- p has been seen, parts of it have been listed -/
def ls_Q (k f s g : Nat → Int32) (n : Nat) (H : Nat → Nat) (p : Nat) (o : Nat → Int32) (m : Nat) (sn : Int64) (o' : Nat → Int32) (m' : Nat) (sn' : Int64) : Prop :=
  ls_I k f s g n o' m' sn' ∧ m ≤ m' ∧ (∀ i, i < m → o' i = o i) ∧ (∀ q, q < 64 → (lb sn' q = true ↔ lb sn q = true ∨ q = p ∨ ∃ i, m ≤ i ∧ i < m' ∧ ot o' i = q)) ∧ (∀ i, m ≤ i → i < m' → H (ot o' i) < H p ∧ Rch k f s g p (ot o' i))
section LLs
variable {k f s g : Nat → Int32} {n p m m' m'' : Nat} {H : Nat → Nat} {o o' o'' : Nat → Int32} {sn sn' sn'' : Int64}
theorem ot_of {i : Nat} (h : o' i = o i) : ot o' i = ot o i := by unfold ot; rw [h]
theorem Rch_step {c q : Nat} (hc : c < 40) (h : Ch k f s g p c) (hr : Rch k f s g c q) : Rch k f s g p q := fun X h0 hs => hr X (hs p c h0 hc h) hs
theorem Rch_rf : Rch k f s g p p := fun _ h _ => h
theorem lsQ_0 (hL : ls_I k f s g n o m sn) (hp : p < 40) (sn1 : Int64) (h1 : ∀ q, q < 64 → lb sn1 q = (lb sn q || decide (q = p))) (hn : n ≤ 40) : ls_Q k f s g n H p o m sn o m sn1 := by
  refine ⟨⟨fun i hi => ?_, hL.2⟩, Nat.le_refl _, fun _ _ => rfl, fun q hq => ?_, fun i h1 h2 => by omega⟩
  · obtain ⟨a, b, c, d⟩ := hL.1 i hi
    exact ⟨a, b, by rw [h1 _ (by omega), c, Bool.true_or], d⟩
  · rw [h1 q hq, Bool.or_eq_true, decide_eq_true_eq]
    constructor
    · rintro (z | z)
      · exact Or.inl z
      · exact Or.inr (Or.inl z)
    · rintro (z | z | ⟨i, z1, z2, -⟩)
      · exact Or.inl z
      · exact Or.inr z
      · omega
theorem lsQ_S (hn : n ≤ 40) (hS : ls_S n H o m sn (H p)) (hQ : ls_Q k f s g n H p o m sn o' m' sn') {c : Nat} (hc : H c < H p) : ls_S n H o' m' sn' (H c) := by
  intro q hq hb
  obtain ⟨-, hm, hpre, hsn, -⟩ := hQ
  rcases (hsn q (by omega)).mp hb with z | z | ⟨i, z1, z2, z3⟩
  · rcases hS q hq z with ⟨i, hi, e⟩ | e
    · exact Or.inl ⟨i, by omega, by rw [ot_of (hpre i hi)]; exact e⟩
    · exact Or.inr (by omega)
  · exact Or.inr (by rw [z]; exact hc)
  · exact Or.inl ⟨i, z2, z3⟩
theorem lsQ_call (hQ : ls_Q k f s g n H p o m sn o' m' sn') {c : Nat} (hc40 : c < 40) (hc : H c < H p) (hch : Ch k f s g p c) (hP : ls_P k f s g n H c o' m' sn' o'' m'' sn'') : ls_Q k f s g n H p o m sn o'' m'' sn'' ∧ (∃ i, i < m'' ∧ ot o'' i = c) ∧ m' ≤ m'' ∧ ∀ i, i < m' → o'' i = o' i := by
  obtain ⟨q1, q2, q3, q4, q5⟩ := hQ
  obtain ⟨p1, p2, p3, p4, p5, p6⟩ := hP
  refine ⟨⟨p1, by omega, fun i hi => (p3 i (by omega)).trans (q3 i hi), fun q hq => ?_, fun i h1 h2 => ?_⟩, p4, p2, p3⟩
  · rw [p5 q hq, q4 q hq]
    constructor
    · rintro ((z | z | ⟨i, z1, z2, z3⟩) | ⟨i, z1, z2, z3⟩)
      · exact Or.inl z
      · exact Or.inr (Or.inl z)
      · exact Or.inr (Or.inr ⟨i, z1, by omega, by rw [ot_of (p3 i z2)]; exact z3⟩)
      · exact Or.inr (Or.inr ⟨i, by omega, z2, z3⟩)
    · rintro (z | z | ⟨i, z1, z2, z3⟩)
      · exact Or.inl (Or.inl z)
      · exact Or.inl (Or.inr (Or.inl z))
      · rcases Nat.lt_or_ge i m' with y | y
        · exact Or.inl (Or.inr (Or.inr ⟨i, z1, y, by rw [← ot_of (p3 i y)]; exact z3⟩))
        · exact Or.inr ⟨i, y, z2, z3⟩
  · rcases Nat.lt_or_ge i m' with y | y
    · rw [ot_of (p3 i y)]
      exact q5 i h1 y
    · obtain ⟨a, b⟩ := p6 i y h2
      exact ⟨by omega, Rch_step hc40 hch b⟩
theorem lsQ_room (hn : n ≤ 40) (hL0 : ls_I k f s g n o m sn) (hp : p < n) (hun : lb sn p = false) (hQ : ls_Q k f s g n H p o m sn o' m' sn') : m' < 40 ∧ ∀ i, i < m' → ot o' i ≠ p := by
  obtain ⟨q1, q2, q3, q4, q5⟩ := hQ
  have hne : ∀ i, i < m' → ot o' i ≠ p := fun i hi e => by
    rcases Nat.lt_or_ge i m with y | y
    · have h1 := (hL0.1 i y).2.2.1
      rw [← ot_of (q3 i y), e, hun] at h1
      cases h1
    · have h1 := (q5 i y hi).1
      rw [e] at h1
      omega
  refine ⟨?_, hne⟩
  have := php n (m' + 1) (fun i => if i < m' then ot o' i else p) (fun i hi => by
      show (if i < m' then ot o' i else p) < n
      by_cases y : i < m'
      · rw [if_pos y]; exact (q1.1 i y).2.1
      · rw [if_neg y]; exact hp) (fun i j hi hj e => by
      have e : (if i < m' then ot o' i else p) = (if j < m' then ot o' j else p) := e
      by_cases y : i < m' <;> by_cases z : j < m'
      · rw [if_pos y, if_pos z] at e; exact q1.2 i j y z e
      · rw [if_pos y, if_neg z] at e; exact absurd e (hne i y)
      · rw [if_neg y, if_pos z] at e; exact absurd e.symm (hne j z)
      · omega)
  omega
theorem lsQ_push (hn : n ≤ 40) (hL0 : ls_I k f s g n o m sn) (hp : p < n) (hun : lb sn p = false) (hQ : ls_Q k f s g n H p o m sn o' m' sn') (hall : ∀ c, c < 40 → Ch k f s g p c → ∃ i, i < m' ∧ ot o' i = c) : ls_P k f s g n H p o m sn (upd o' m' (nI p)) (m' + 1) sn' := by
  obtain ⟨hr, hne⟩ := lsQ_room hn hL0 hp hun hQ
  obtain ⟨q1, q2, q3, q4, q5⟩ := hQ
  have hold : ∀ i, i < m' → upd o' m' (nI p) i = o' i := fun i hi => pk_un (by omega)
  have hnew : upd o' m' (nI p) m' = nI p := pk_us
  have hot : ∀ i, i < m' → ot (upd o' m' (nI p)) i = ot o' i := fun i hi => ot_of (hold i hi)
  have hotn : ot (upd o' m' (nI p)) m' = p := by unfold ot; rw [hnew]; exact nI_clamp (by omega)
  refine ⟨⟨fun i hi => ?_, fun i j hi hj e => ?_⟩, by omega, fun i hi => (hold i (by omega)).trans (q3 i hi), ⟨m', by omega, hotn⟩, fun q hq => ?_, fun i h1 h2 => ?_⟩
  · rcases Nat.lt_or_ge i m' with y | y
    · obtain ⟨a, b, c, d⟩ := q1.1 i y
      rw [hot i y, hold i y]
      refine ⟨a, b, c, fun c0 hc0 hc => ?_⟩
      obtain ⟨j, hj, e⟩ := d c0 hc0 hc
      exact ⟨j, hj, by rw [hot j (by omega)]; exact e⟩
    · have e : i = m' := by omega
      subst e
      rw [hotn, hnew]
      refine ⟨rfl, hp, (q4 p (by omega)).mpr (Or.inr (Or.inl rfl)), fun c0 hc0 hc => ?_⟩
      obtain ⟨j, hj, e⟩ := hall c0 hc0 hc
      exact ⟨j, hj, by rw [hot j hj]; exact e⟩
  · rcases Nat.lt_or_ge i m' with y | y <;> rcases Nat.lt_or_ge j m' with z | z
    · rw [hot i y, hot j z] at e
      exact q1.2 i j y z e
    · have e2 : j = m' := by omega
      subst e2
      rw [hot i y, hotn] at e
      exact absurd e (hne i y)
    · have e2 : i = m' := by omega
      subst e2
      rw [hot j z, hotn] at e
      exact absurd e.symm (hne j z)
    · omega
  · rw [q4 q hq]
    constructor
    · rintro (z | z | ⟨i, z1, z2, z3⟩)
      · exact Or.inl z
      · exact Or.inr ⟨m', q2, by omega, by rw [hotn, z]⟩
      · exact Or.inr ⟨i, z1, by omega, by rw [hot i z2]; exact z3⟩
    · rintro (z | ⟨i, z1, z2, z3⟩)
      · exact Or.inl z
      · rcases Nat.lt_or_ge i m' with y | y
        · exact Or.inr (Or.inr ⟨i, z1, y, by rw [← hot i y]; exact z3⟩)
        · have e2 : i = m' := by omega
          subst e2
          exact Or.inr (Or.inl (by rw [← z3, hotn]))
  · rcases Nat.lt_or_ge i m' with y | y
    · rw [hot i y]
      obtain ⟨a, b⟩ := q5 i h1 y
      exact ⟨by omega, b⟩
    · have e2 : i = m' := by omega
      subst e2
      rw [hotn]
      exact ⟨Nat.le_refl _, Rch_rf⟩
theorem lsP_seen (hL : ls_I k f s g n o m sn) (hS : ls_S n H o m sn (H p)) (hp : p < n) (hb : lb sn p = true) : ls_P k f s g n H p o m sn o m sn := by
  refine ⟨hL, Nat.le_refl _, fun _ _ => rfl, ?_, fun q hq => ⟨Or.inl, ?_⟩, fun i h1 h2 => by omega⟩
  · rcases hS p hp hb with h | h
    · exact h
    · omega
  · rintro (z | ⟨i, z1, z2, -⟩)
    · exact z
    · omega
end LLs
