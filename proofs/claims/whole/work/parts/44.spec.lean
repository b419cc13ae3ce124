/-! what the calls ask and answer: one state of grammar and document for both -/
abbrev Pm : Type := ((Nat → Int32) × (Nat → Int32) × (Nat → Int32) × (Nat → Int32) × (Nat → Int32)) × Nat × Dc × Nat × Nat × (Nat → Nat)
abbrev pK (P : Pm) : Nat → Int32 := P.1.1
abbrev pF (P : Pm) : Nat → Int32 := P.1.2.1
abbrev pS (P : Pm) : Nat → Int32 := P.1.2.2.1
abbrev pE (P : Pm) : Nat → Int32 := P.1.2.2.2.1
abbrev pG (P : Pm) : Nat → Int32 := P.1.2.2.2.2
abbrev pN (P : Pm) : Nat := P.2.1
abbrev pD (P : Pm) : Dc := P.2.2.1
abbrev pd (P : Pm) : Nat := P.2.2.2.1
abbrev pn (P : Pm) : Nat := P.2.2.2.2.1
abbrev pt (P : Pm) : Nat → Nat := P.2.2.2.2.2
/-- the node that was opened last -/
abbrev pT (P : Pm) : Nat := pt P (pn P - 1)
def opn (dn : Nat) (q : Nat → Nat) : Int32 := if dn = 0 then -1 else nI (q (dn - 1))
def PW (P : Pm) : Prop := GW (pK P) (pF P) (pS P) (pE P) (pG P) (pN P) ∧ pn P ≤ 4 ∧ ∀ j, j < pn P → pt P j < pd P
def IC (σ : sg) (P : Pm) : Prop := (σ.1 2 = pK P ∧ σ.1 3 = pF P ∧ σ.1 4 = pS P ∧ σ.1 5 = pE P ∧ σ.1 6 = pG P ∧ σ.1 1 4 = nI (pN P)) ∧ RC σ (pD P) (pd P) ∧ σ.1 8 3 = nI (pn P) ∧ (∀ j, j < pn P → σ.1 10 j = nI (pt P j)) ∧ BT σ
def IM (σ : sg) (P : Pm) : Prop := (σ.1 118 = pK P ∧ σ.1 119 = pF P ∧ σ.1 120 = pS P ∧ σ.1 121 = pE P ∧ σ.1 122 = pG P ∧ σ.1 117 5 = nI (pN P)) ∧ RM σ (pD P) (pd P) ∧ σ.1 117 16 = opn (pn P) (pt P) ∧ (∀ j, j < pn P → σ.1 124 (pt P j) = opn j (pt P) ∧ σ.1 125 (pt P j) = nI (j + 1)) ∧ ∀ x, 2560 ≤ x → σ.2 131 x = 0
/-- the reference leaves the class's cells and 'out' alone; the class leaves the reference's alone -/
def frM (σ τ : sg) : Prop := ∀ j, j < 117 ∨ j = 136 → τ.1 j = σ.1 j ∧ τ.2 j = σ.2 j
def frC (σ τ : sg) : Prop := ∀ j, 117 ≤ j → τ.1 j = σ.1 j ∧ τ.2 j = σ.2 j
theorem frM_rf {σ : sg} : frM σ σ := fun _ _ => ⟨rfl, rfl⟩
theorem frC_rf {σ : sg} : frC σ σ := fun _ _ => ⟨rfl, rfl⟩
theorem frM_tr {σ τ υ : sg} (h1 : frM σ τ) (h2 : frM τ υ) : frM σ υ := fun j hj => ⟨(h2 j hj).1.trans (h1 j hj).1, (h2 j hj).2.trans (h1 j hj).2⟩
theorem frC_tr {σ τ υ : sg} (h1 : frC σ τ) (h2 : frC τ υ) : frC σ υ := fun j hj => ⟨(h2 j hj).1.trans (h1 j hj).1, (h2 j hj).2.trans (h1 j hj).2⟩
theorem RC_eq {σ τ : sg} {D : Dc} {nd : Nat} (h : ∀ j, j < 117 → τ.1 j = σ.1 j) (hC : RC σ D nd) : RC τ D nd := by
  have hnd := hC.1.1
  refine ⟨hC.1, by rw [h 8 (by decide)]; exact hC.2.1, fun t ht => ?_⟩
  obtain ⟨na, nj, q⟩ := hC.2.2 t ht
  refine ⟨na, nj, ?_⟩
  unfold RN
  rw [h (11 + 6 * t) (by omega), h (11 + 6 * t + 1) (by omega), h (11 + 6 * t + 2) (by omega), h (11 + 6 * t + 4) (by omega), h (11 + 6 * t + 5) (by omega)]
  exact q
theorem IC_fr {σ τ : sg} {P : Pm} (h : frM σ τ) (hI : IC σ P) : IC τ P := by
  obtain ⟨h1, h2, h3, h4, h5⟩ := hI
  refine ⟨?_, RC_eq (fun j hj => (h j (Or.inl hj)).1) h2, ?_, ?_, ?_⟩
  · rw [(h 1 (by decide)).1, (h 2 (by decide)).1, (h 3 (by decide)).1, (h 4 (by decide)).1, (h 5 (by decide)).1, (h 6 (by decide)).1]
    exact h1
  · rw [(h 8 (by decide)).1]
    exact h3
  · rw [(h 10 (by decide)).1]
    exact h4
  · unfold BT
    rw [(h 108 (by decide)).2, (h 109 (by decide)).2]
    exact h5
theorem IM_fr {σ τ : sg} {P : Pm} (h : frC σ τ) (hI : IM σ P) : IM τ P := by
  unfold IM RM
  rw [(h 117 (by decide)).1, (h 118 (by decide)).1, (h 119 (by decide)).1, (h 120 (by decide)).1, (h 121 (by decide)).1, (h 122 (by decide)).1, (h 123 (by decide)).1, (h 124 (by decide)).1, (h 125 (by decide)).1, (h 126 (by decide)).1, (h 127 (by decide)).1, (h 128 (by decide)).1, (h 129 (by decide)).1, (h 130 (by decide)).1, (h 131 (by decide)).2]
  exact hI
/-! the calls -/
def dq (dep : Nat → Int32) (x a b : Int32) : Int32 := (if (x = 4 ∨ x = 5 ∨ x = 6 ∨ x = 8 ∨ x = 9) then (if (if (x = 4 ∨ x = 5 ∨ x = 6 ∨ x = 7) then dep a.toNatClampNeg else 0) < dep b.toNatClampNeg then dep b.toNatClampNeg else (if (x = 4 ∨ x = 5 ∨ x = 6 ∨ x = 7) then dep a.toNatClampNeg else 0)) else (if (x = 4 ∨ x = 5 ∨ x = 6 ∨ x = 7) then dep a.toNatClampNeg else 0)) + 1
theorem dq_dp (σ : sg) (x a b : Int32) : dp σ x a b = dq (σ.1 5) x a b := rfl
def alQ (n : Nat) (x a b : Int32) : Prop := (0 ≤ x ∧ x ≤ 3) ∨ ((x = 4 ∨ x = 5 ∨ x = 6) ∧ (0 ≤ a ∧ a < nI n) ∧ (0 ≤ b ∧ b < nI n)) ∨ (x = 7 ∧ (0 ≤ a ∧ a < nI n)) ∨ ((x = 8 ∨ x = 9) ∧ 0 ≤ a ∧ a ≤ 6 ∧ (0 ≤ b ∧ b < nI n)) ∨ (x = 10 ∧ 0 ≤ a ∧ a < 4)
def p_add (P : Pm) (x a b : Int32) : Pm := ((upd (pK P) (pN P) x, upd (pF P) (pN P) a, upd (pS P) (pN P) b, upd (pE P) (pN P) (dq (pE P) x a b), pG P), pN P + 1, P.2.2)
def SpP (P : Pm) (x a b : Int32) (c v : Int32) (P' : Pm) : Prop := (¬ alQ (pN P) x a b ∧ c = 1 ∧ P' = P) ∨ (alQ (pN P) x a b ∧ ¬ (pN P < 40 ∧ dq (pE P) x a b ≤ 5) ∧ c = 2 ∧ P' = P) ∨ (alQ (pN P) x a b ∧ (pN P < 40 ∧ dq (pE P) x a b ≤ 5) ∧ c = 0 ∧ v = nI (pN P) ∧ P' = p_add P x a b)
def p_def (P : Pm) (d : Nat) (p : Int32) : Pm := ((pK P, pF P, pS P, pE P, upd (pG P) d p), P.2)
def SpD (P : Pm) (d p : Int32) (c v : Int32) (P' : Pm) : Prop := (¬ (0 ≤ d ∧ d < 4) ∧ c = 1 ∧ P' = P) ∨ ((0 ≤ d ∧ d < 4) ∧ ¬ (0 ≤ p ∧ p < nI (pN P)) ∧ c = 2 ∧ P' = P) ∨ ((0 ≤ d ∧ d < 4) ∧ (0 ≤ p ∧ p < nI (pN P)) ∧ Cm (pK P) (pF P) (pS P) (pG P) p.toNatClampNeg d ∧ c = 3 ∧ P' = P) ∨ ((0 ≤ d ∧ d < 4) ∧ (0 ≤ p ∧ p < nI (pN P)) ∧ ¬ Cm (pK P) (pF P) (pS P) (pG P) p.toNatClampNeg d ∧ c = 0 ∧ v = bP (pG P d.toNatClampNeg = -1) ∧ P' = p_def P d.toNatClampNeg p)
def dO (D : Dc) (nd dn t : Nat) (nm : Int32) : Dc := (upd D.1 nd nm, fun u a => if u = nd then none else D.2.1 u a, fun u => if u = nd then 0 else if dn ≠ 0 ∧ u = t then D.2.2.1 u + 1 else D.2.2.1 u, fun u i => if dn ≠ 0 ∧ u = t ∧ i = D.2.2.1 t then some nd else D.2.2.2.1 u i, D.2.2.2.2)
def p_open (P : Pm) (nm : Int32) : Pm := (P.1, pN P, dO (pD P) (pd P) (pn P) (pT P) nm, pd P + 1, pn P + 1, fun j => if j = pn P then pd P else pt P j)
def TN (P : Pm) : Prop := (pn P = 0 ∧ pd P = 0) ∨ (pn P ≠ 0 ∧ pd P < 16 ∧ pn P < 4 ∧ (pD P).2.2.1 (pT P) < 6)
def SpO (P : Pm) (nm : Int32) (c v : Int32) (P' : Pm) : Prop := (¬ (0 ≤ nm ∧ nm < 6) ∧ c = 1 ∧ P' = P) ∨ ((0 ≤ nm ∧ nm < 6) ∧ ¬ TN P ∧ c = 2 ∧ P' = P) ∨ ((0 ≤ nm ∧ nm < 6) ∧ TN P ∧ c = 0 ∧ v = nI (pd P) ∧ P' = p_open P nm)
def cA (D : Dc) (t : Nat) : Nat → Nat
  | 0 => 0
  | a + 1 => cA D t a + (if D.2.1 t a ≠ none then 1 else 0)
def dA (D : Dc) (t nm : Nat) (v : Int32) : Dc := (D.1, fun u a => if u = t ∧ a = nm then some v else D.2.1 u a, D.2.2)
def p_att (P : Pm) (nm : Nat) (v : Int32) : Pm := (P.1, pN P, dA (pD P) (pT P) nm v, P.2.2.2)
def TA (P : Pm) (nm : Int32) : Prop := pn P ≠ 0 ∧ (pD P).2.2.1 (pT P) = 0 ∧ (pD P).2.1 (pT P) nm.toNatClampNeg = none ∧ cA (pD P) (pT P) 6 < 3
def SpA (P : Pm) (nm x : Int32) (c v : Int32) (P' : Pm) : Prop := (¬ (0 ≤ nm ∧ nm < 6) ∧ c = 1 ∧ P' = P) ∨ ((0 ≤ nm ∧ nm < 6) ∧ ¬ TA P nm ∧ c = 2 ∧ P' = P) ∨ ((0 ≤ nm ∧ nm < 6) ∧ TA P nm ∧ c = 0 ∧ v = nI (cA (pD P) (pT P) 6 + 1) ∧ P' = p_att P nm.toNatClampNeg x)
def dT (D : Dc) (t : Nat) (x : Int32) : Dc := (D.1, D.2.1, fun u => if u = t then D.2.2.1 u + 1 else D.2.2.1 u, fun u i => if u = t ∧ i = D.2.2.1 t then none else D.2.2.2.1 u i, fun u i => if u = t ∧ i = D.2.2.1 t then x else D.2.2.2.2 u i)
def p_text (P : Pm) (x : Int32) : Pm := (P.1, pN P, dT (pD P) (pT P) x, P.2.2.2)
def TC (P : Pm) : Prop := pn P ≠ 0 ∧ (pD P).2.2.1 (pT P) < 6
def SpT (P : Pm) (x : Int32) (c v : Int32) (P' : Pm) : Prop := (¬ TC P ∧ c = 1 ∧ P' = P) ∨ (TC P ∧ c = 0 ∧ v = nI ((pD P).2.2.1 (pT P) + 1) ∧ P' = p_text P x)
def p_close (P : Pm) : Pm := (P.1, pN P, pD P, pd P, pn P - 1, pt P)
def SpC (P : Pm) (c v : Int32) (P' : Pm) : Prop := (pn P = 0 ∧ c = 1 ∧ P' = P) ∨ (pn P ≠ 0 ∧ c = 0 ∧ v = nI (pT P) ∧ P' = p_close P)
def p_clear (P : Pm) : Pm := (P.1, pN P, pD P, 0, 0, pt P)
def SpR (P : Pm) (v : Int32) (P' : Pm) : Prop := v = nI (pd P) ∧ P' = p_clear P
abbrev pFU (P : Pm) : Nat → Nat → Prop := FU (pK P) (pF P) (pS P) (pG P) (pD P)
abbrev pMD (P : Pm) (t p : Nat) : Nat → Nat → Prop := MD (pK P) (pF P) (pS P) (pG P) (pD P) (pFU P) t p
def pS1 (P : Pm) (t p : Nat) : Prop := S1 (pK P) (pF P) (pS P) (pG P) (eN (pK P) (pF P) (pS P) (pD P) (pFU P) t) p
def kn (P : Pm) (p t : Int32) : Prop := (0 ≤ p ∧ p < nI (pN P)) ∧ (0 ≤ t ∧ t < nI (pd P))
def SpM (P : Pm) (p t : Int32) (c v : Int32) (P' : Pm) : Prop := P' = P ∧ ((¬ kn P p t ∧ c = 1) ∨ (kn P p t ∧ c = 0 ∧ v = bP (pS1 P t.toNatClampNeg p.toNatClampNeg)))
def SpK (P : Pm) (p t : Int32) (c v : Int32) (P' : Pm) : Prop := P' = P ∧ ((¬ kn P p t ∧ c = 1) ∨ (kn P p t ∧ c = 0 ∧ v = bP (pFU P t.toNatClampNeg p.toNatClampNeg)))
def lQ (P : Pm) (p t : Nat) (l : Nat) : Prop := pMD P t p (mk (pD P) t 6) (2 ^ l - 1)
def SpL (P : Pm) (p t : Int32) (c v : Int32) (P' : Pm) : Prop := P' = P ∧ ((¬ kn P p t ∧ c = 1) ∨ (kn P p t ∧ c = 2 ∧ gtP (lQ P p.toNatClampNeg t.toNatClampNeg) ((pD P).2.2.1 t.toNatClampNeg) (-1)) ∨ (kn P p t ∧ c = 0 ∧ v ≠ -1 ∧ gtP (lQ P p.toNatClampNeg t.toNatClampNeg) ((pD P).2.2.1 t.toNatClampNeg) v))
def hs (P : Pm) (p : Int32) : Prop := 0 ≤ p ∧ p < nI (pN P)
def SpF (P : Pm) (p : Int32) (c v : Int32) (P' : Pm) : Prop := P' = P ∧ ((¬ hs P p ∧ c = 1) ∨ (hs P p ∧ c = 2 ∧ lsP (fun t => pS1 P t p.toNatClampNeg) (pd P) (-1)) ∨ (hs P p ∧ c = 0 ∧ v ≠ -1 ∧ lsP (fun t => pS1 P t p.toNatClampNeg) (pd P) v))
def SpN (P : Pm) (p : Int32) (c v : Int32) (P' : Pm) : Prop := P' = P ∧ ((¬ hs P p ∧ c = 1) ∨ (hs P p ∧ c = 0 ∧ v = bP (SN (pK P) (pF P) (pS P) (pG P) p.toNatClampNeg)))
def gcu (g : Nat → Int32) : Nat → Nat
  | 0 => 0
  | i + 1 => gcu g i + (if g i = -1 then 0 else 1)
def SpU (P : Pm) (x : Int32) (c v : Int32) (P' : Pm) : Prop := P' = P ∧ ((x = 0 ∧ c = 0 ∧ v = nI (pN P)) ∨ (x = 1 ∧ c = 0 ∧ v = nI (gcu (pG P) 4)) ∨ (x = 2 ∧ c = 0 ∧ v = nI (pd P)) ∨ (x = 3 ∧ c = 0 ∧ v = nI (pn P)) ∨ (x = 4 ∧ c = 0 ∧ v = if pn P = 0 then -1 else (pD P).1 (pT P)) ∨ (x = 5 ∧ c = 0 ∧ v = opn (pn P) (pt P)) ∨ (¬ (0 ≤ x ∧ x ≤ 5) ∧ c = 1))
/-! one answer each -/
theorem lsP_u {Q : Nat → Prop} {nd : Nat} {u v : Int32} (h1 : lsP Q nd u) (h2 : lsP Q nd v) : u = v := by
  rcases h1 with ⟨i, i1, i2, i3, i4⟩ | ⟨i1, i2⟩ <;> rcases h2 with ⟨j, j1, j2, j3, j4⟩ | ⟨j1, j2⟩
  · rcases Nat.lt_trichotomy i j with q | q | q
    · exact absurd i3 (j4 i q)
    · rw [i2, j2, q]
    · exact absurd j3 (i4 j q)
  · exact absurd i3 (j2 i i1)
  · exact absurd j3 (i2 j j1)
  · rw [i1, j1]
theorem gtP_u {Q : Nat → Prop} {nd : Nat} {u v : Int32} (h1 : gtP Q nd u) (h2 : gtP Q nd v) : u = v := by
  rcases h1 with ⟨i, i1, i2, i3, i4⟩ | ⟨i1, i2⟩ <;> rcases h2 with ⟨j, j1, j2, j3, j4⟩ | ⟨j1, j2⟩
  · rcases Nat.lt_trichotomy i j with q | q | q
    · exact absurd j3 (i4 j q j1)
    · rw [i2, j2, q]
    · exact absurd i3 (j4 i q i1)
  · exact absurd i3 (j2 i i1)
  · exact absurd j3 (i2 j j1)
  · rw [i1, j1]
/-- the same code, the same state behind, and where nothing was thrown the same answer -/
def Sd (S : Int32 → Int32 → Pm → Prop) : Prop := ∀ c v P1 c' v' P2, S c v P1 → S c' v' P2 → c = c' ∧ P1 = P2 ∧ (c = 0 → v = v')
theorem SpP_d (P : Pm) (x a b : Int32) : Sd (SpP P x a b) := by
  intro c v P1 c' v' P2 h1 h2
  unfold SpP at h1 h2
  have k10 : ¬ (1 : Int32) = 0 := by decide
  have k20 : ¬ (2 : Int32) = 0 := by decide
  have k30 : ¬ (3 : Int32) = 0 := by decide
  grind
theorem SpD_d (P : Pm) (x a : Int32) : Sd (SpD P x a) := by
  intro c v P1 c' v' P2 h1 h2
  unfold SpD at h1 h2
  have k10 : ¬ (1 : Int32) = 0 := by decide
  have k20 : ¬ (2 : Int32) = 0 := by decide
  have k30 : ¬ (3 : Int32) = 0 := by decide
  grind
theorem SpO_d (P : Pm) (x : Int32) : Sd (SpO P x) := by
  intro c v P1 c' v' P2 h1 h2
  unfold SpO at h1 h2
  have k10 : ¬ (1 : Int32) = 0 := by decide
  have k20 : ¬ (2 : Int32) = 0 := by decide
  have k30 : ¬ (3 : Int32) = 0 := by decide
  grind
theorem SpA_d (P : Pm) (x a : Int32) : Sd (SpA P x a) := by
  intro c v P1 c' v' P2 h1 h2
  unfold SpA at h1 h2
  have k10 : ¬ (1 : Int32) = 0 := by decide
  have k20 : ¬ (2 : Int32) = 0 := by decide
  have k30 : ¬ (3 : Int32) = 0 := by decide
  grind
theorem SpT_d (P : Pm) (x : Int32) : Sd (SpT P x) := by
  intro c v P1 c' v' P2 h1 h2
  unfold SpT at h1 h2
  have k10 : ¬ (1 : Int32) = 0 := by decide
  have k20 : ¬ (2 : Int32) = 0 := by decide
  have k30 : ¬ (3 : Int32) = 0 := by decide
  grind
theorem SpC_d (P : Pm) : Sd (SpC P) := by
  intro c v P1 c' v' P2 h1 h2
  unfold SpC at h1 h2
  have k10 : ¬ (1 : Int32) = 0 := by decide
  grind
theorem SpM_d (P : Pm) (p t : Int32) : Sd (SpM P p t) := by
  intro c v P1 c' v' P2 h1 h2
  unfold SpM at h1 h2
  have k10 : ¬ (1 : Int32) = 0 := by decide
  have k20 : ¬ (2 : Int32) = 0 := by decide
  grind
theorem SpK_d (P : Pm) (p t : Int32) : Sd (SpK P p t) := by
  intro c v P1 c' v' P2 h1 h2
  unfold SpK at h1 h2
  have k10 : ¬ (1 : Int32) = 0 := by decide
  have k20 : ¬ (2 : Int32) = 0 := by decide
  grind
theorem SpN_d (P : Pm) (p : Int32) : Sd (SpN P p) := by
  intro c v P1 c' v' P2 h1 h2
  unfold SpN at h1 h2
  have k10 : ¬ (1 : Int32) = 0 := by decide
  have k20 : ¬ (2 : Int32) = 0 := by decide
  grind
theorem SpL_d (P : Pm) (p t : Int32) : Sd (SpL P p t) := by
  intro c v P1 c' v' P2 h1 h2
  have k10 : ¬ (1 : Int32) = 0 := by decide
  have k20 : ¬ (2 : Int32) = 0 := by decide
  obtain ⟨rfl, h1⟩ := h1
  obtain ⟨rfl, h2⟩ := h2
  rcases h1 with ⟨a1, rfl⟩ | ⟨a1, rfl, a2⟩ | ⟨a1, rfl, a3, a2⟩ <;> rcases h2 with ⟨b1, rfl⟩ | ⟨b1, rfl, b2⟩ | ⟨b1, rfl, b3, b2⟩
  · exact ⟨rfl, rfl, fun z => absurd z k10⟩
  · exact absurd b1 a1
  · exact absurd b1 a1
  · exact absurd a1 b1
  · exact ⟨rfl, rfl, fun z => absurd z k20⟩
  · exact absurd (gtP_u b2 a2) b3
  · exact absurd a1 b1
  · exact absurd (gtP_u a2 b2) a3
  · exact ⟨rfl, rfl, fun _ => gtP_u a2 b2⟩
theorem SpF_d (P : Pm) (p : Int32) : Sd (SpF P p) := by
  intro c v P1 c' v' P2 h1 h2
  have k10 : ¬ (1 : Int32) = 0 := by decide
  have k20 : ¬ (2 : Int32) = 0 := by decide
  obtain ⟨rfl, h1⟩ := h1
  obtain ⟨rfl, h2⟩ := h2
  rcases h1 with ⟨a1, rfl⟩ | ⟨a1, rfl, a2⟩ | ⟨a1, rfl, a3, a2⟩ <;> rcases h2 with ⟨b1, rfl⟩ | ⟨b1, rfl, b2⟩ | ⟨b1, rfl, b3, b2⟩
  · exact ⟨rfl, rfl, fun z => absurd z k10⟩
  · exact absurd b1 a1
  · exact absurd b1 a1
  · exact absurd a1 b1
  · exact ⟨rfl, rfl, fun z => absurd z k20⟩
  · exact absurd (lsP_u b2 a2) b3
  · exact absurd a1 b1
  · exact absurd (lsP_u a2 b2) a3
  · exact ⟨rfl, rfl, fun _ => lsP_u a2 b2⟩
theorem SpU_d (P : Pm) (x : Int32) : Sd (SpU P x) := by
  intro c v P1 c' v' P2 h1 h2
  obtain ⟨rfl, h1⟩ := h1
  obtain ⟨rfl, h2⟩ := h2
  have k10 : ¬ (1 : Int32) = 0 := by decide
  have r : (x = 0 ∨ x = 1 ∨ x = 2 ∨ x = 3 ∨ x = 4 ∨ x = 5) → 0 ≤ x ∧ x ≤ 5 := by
    rintro (rfl | rfl | rfl | rfl | rfl | rfl) <;> decide
  have e : ∀ a b : Int32, a ≠ b → x = a → x = b → False := fun a b h g k => h (g.symm.trans k)
  rcases h1 with ⟨a1, rfl, a2⟩ | ⟨a1, rfl, a2⟩ | ⟨a1, rfl, a2⟩ | ⟨a1, rfl, a2⟩ | ⟨a1, rfl, a2⟩ | ⟨a1, rfl, a2⟩ | ⟨a1, rfl⟩ <;> rcases h2 with ⟨b1, rfl, b2⟩ | ⟨b1, rfl, b2⟩ | ⟨b1, rfl, b2⟩ | ⟨b1, rfl, b2⟩ | ⟨b1, rfl, b2⟩ | ⟨b1, rfl, b2⟩ | ⟨b1, rfl⟩ <;> first | exact ⟨rfl, rfl, fun _ => a2.trans b2.symm⟩ | exact absurd (a1.symm.trans b1) (by decide) | exact absurd (r (by simp [a1])) b1 | exact absurd (r (by simp [b1])) a1 | exact ⟨rfl, rfl, fun z => absurd z k10⟩
