/-! the equations of a pattern's rows, carried over -/
/-- two states agree in what a pattern's rows at the node k rest on -/
def kAg (k : Nat) (σ τ : sg) : Prop := τ.1 2 = σ.1 2 ∧ τ.1 3 = σ.1 3 ∧ τ.1 4 = σ.1 4 ∧ τ.1 6 = σ.1 6 ∧ τ.1 (k + 1) = σ.1 (k + 1) ∧ τ.1 (k + 4) = σ.1 (k + 4) ∧ τ.1 (k + 5) = σ.1 (k + 5) ∧ τ.2 108 = σ.2 108 ∧ τ.2 109 = σ.2 109 ∧ τ.2 (k + 3) = σ.2 (k + 3) ∧ ∀ t, t < 16 → τ.1 (11 + 6 * t) 0 = σ.1 (11 + 6 * t) 0 ∧ τ.2 (11 + 6 * t) 8 = σ.2 (11 + 6 * t) 8
theorem kAg_rf {k : Nat} {σ : sg} : kAg k σ σ := ⟨rfl, rfl, rfl, rfl, rfl, rfl, rfl, rfl, rfl, rfl, fun _ _ => ⟨rfl, rfl⟩⟩
theorem kAg_sy {k : Nat} {σ τ : sg} (h : kAg k σ τ) : kAg k τ σ := ⟨h.1.symm, h.2.1.symm, h.2.2.1.symm, h.2.2.2.1.symm, h.2.2.2.2.1.symm, h.2.2.2.2.2.1.symm, h.2.2.2.2.2.2.1.symm, h.2.2.2.2.2.2.2.1.symm, h.2.2.2.2.2.2.2.2.1.symm, h.2.2.2.2.2.2.2.2.2.1.symm, fun t ht => ⟨(h.2.2.2.2.2.2.2.2.2.2 t ht).1.symm, (h.2.2.2.2.2.2.2.2.2.2 t ht).2.symm⟩⟩
section KCG
variable {σ τ : sg} {k na nc S p kn : Nat} {cd : Nat → Option Nat} {R1 R2 R3 R4 : Nat → Int64}
theorem KP_cg (ha : kAg k σ τ) (hcd : ∀ i t, i < nc → cd i = some t → t < 16) (hkn : σ.1 2 p = nI kn) (h10 : kn ≤ 10)
    (h1 : ∀ c, c < 40 → Ch (σ.1 2) (σ.1 3) (σ.1 4) (σ.1 6) p c → ∀ A z, A < S → z < 64 → (Rb R1 c A z ↔ Rb R3 c A z)) (h2 : ∀ A z, A < S → z < 64 → (Rb R2 p A z ↔ Rb R4 p A z))
    (h : KP σ k na nc S cd p R1 R2 kn) : KP τ k na nc S cd p R3 R4 kn := by
  obtain ⟨a2, a3, a4, a6, ak1, ak4, ak5, b8, b9, bk3, ct⟩ := ha
  rcases (show kn = 0 ∨ kn = 1 ∨ kn = 2 ∨ kn = 3 ∨ kn = 4 ∨ kn = 5 ∨ kn = 6 ∨ kn = 7 ∨ kn = 8 ∨ kn = 9 ∨ kn = 10 by omega) with rfl | rfl | rfl | rfl | rfl | rfl | rfl | rfl | rfl | rfl | rfl
  · exact fun A z hA hz => (h2 A z hA hz).symm.trans (h A z hA hz)
  · exact fun A z hA hz => (h2 A z hA hz).symm.trans (h A z hA hz)
  · intro A z hA hz
    rw [← h2 A z hA hz, ak4]
    exact h A z hA hz
  · intro A z hA hz
    rw [← h2 A z hA hz, show kQT τ k p = kQT σ k p by unfold kQT; rw [ak4, ak5, a3, a4]]
    exact h A z hA hz
  · obtain ⟨f, s, hf, hs, ef, es, h⟩ := h
    refine ⟨f, s, hf, hs, by rw [a3]; exact ef, by rw [a4]; exact es, fun A z hA hz => ?_⟩
    rw [← h2 A z hA hz, h A z hA hz, b9]
    exact GrpS_congr (h1 f hf (Or.inl ⟨Or.inl hkn, ef⟩)) (h1 s hs (Or.inr (Or.inl ⟨Or.inl hkn, by rw [hkn]; decide, es⟩)))
  · obtain ⟨f, s, hf, hs, ef, es, h⟩ := h
    refine ⟨f, s, hf, hs, by rw [a3]; exact ef, by rw [a4]; exact es, fun A z hA hz => ?_⟩
    rw [← h2 A z hA hz, h A z hA hz, b8]
    exact GrpS_congr (h1 f hf (Or.inl ⟨Or.inr (Or.inl hkn), ef⟩)) (h1 s hs (Or.inr (Or.inl ⟨Or.inr (Or.inl hkn), by rw [hkn]; decide, es⟩)))
  · obtain ⟨f, s, hf, hs, ef, es, h⟩ := h
    refine ⟨f, s, hf, hs, by rw [a3]; exact ef, by rw [a4]; exact es, fun A z hA hz => ?_⟩
    rw [← h2 A z hA hz, h A z hA hz, h1 f hf (Or.inl ⟨Or.inr (Or.inr (Or.inl hkn)), ef⟩) A z hA hz, h1 s hs (Or.inr (Or.inl ⟨Or.inr (Or.inr (Or.inl hkn)), by rw [hkn]; decide, es⟩)) A z hA hz]
  · obtain ⟨f, hf, ef, u1, u2⟩ := h
    have e1 := h1 f hf (Or.inl ⟨Or.inr (Or.inr (Or.inr hkn)), ef⟩)
    refine ⟨f, hf, by rw [a3]; exact ef, fun A z hA hz q => ?_, fun D hD A z hA hz hb => ?_⟩
    · rw [b9] at q
      exact (h2 A z hA hz).mp (u1 A z hA hz (q.imp (e1 A z hA hz).mpr (GrpS_congr h2 e1).mpr))
    · rw [b9] at hD
      exact u2 D (fun A z hA hz q => hD A z hA hz (q.imp (e1 A z hA hz).mp (GrpS_congr (fun _ _ _ _ => Iff.rfl) e1).mp)) A z hA hz ((h2 A z hA hz).mpr hb)
  · obtain ⟨q, hq, eq, h⟩ := h
    refine ⟨q, hq, by rw [a4]; exact eq, fun A z hA hz => ?_⟩
    rw [← h2 A z hA hz, h A z hA hz, rO_congr nc (q := kQE σ cd p q) (q' := kQE τ cd p q) (fun i hi => ?_)]
    unfold kQE
    constructor
    · rintro ⟨t, x1, x2, x3⟩
      have := ct t (hcd i t hi x1)
      exact ⟨t, x1, by rw [a3, this.1]; exact x2, by rw [this.2]; exact x3⟩
    · rintro ⟨t, x1, x2, x3⟩
      have := ct t (hcd i t hi x1)
      rw [a3, this.1] at x2
      rw [this.2] at x3
      exact ⟨t, x1, x2, x3⟩
  · obtain ⟨q, hq, eq, h⟩ := h
    refine ⟨q, hq, by rw [a4]; exact eq, fun A z hA hz => ?_⟩
    rw [← h2 A z hA hz, h A z hA hz]
    have e : kQA τ k p q = kQA σ k p q := by unfold kQA; rw [a3, ak1, bk3]
    rw [e]
  · obtain ⟨d, hd, ef, h⟩ := h
    refine ⟨d, hd, by rw [a3]; exact ef, ?_⟩
    rw [a6]
    rcases h with ⟨g1, g2⟩ | ⟨c, hc, g1, g2⟩
    · exact Or.inl ⟨g1, fun A z hA hz => (h2 A z hA hz).symm.trans (g2 A z hA hz)⟩
    · refine Or.inr ⟨c, hc, g1, fun A z hA hz => ?_⟩
      rw [← h2 A z hA hz, g2 A z hA hz]
      exact h1 c hc (Or.inr (Or.inr ⟨hkn, d, hd, ef, g1⟩)) A z hA hz
end KCG
/-- a pattern's equation over the rows R -/
def KE (σ : sg) (k na nc S : Nat) (cd : Nat → Option Nat) (p : Nat) (R : Nat → Int64) : Prop := ∃ kn, kn ≤ 10 ∧ σ.1 2 p = nI kn ∧ KP σ k na nc S cd p R R kn
section KES
variable {σ τ : sg} {k na nc S p q : Nat} {cd : Nat → Option Nat} {R R' : Nat → Int64} {n : Nat} {H : Nat → Nat}
theorem Ch_H (hW : WG (σ.1 2) (σ.1 3) (σ.1 4) (σ.1 6) n H) (hp : p < n) {c : Nat} (hc : c < 40) (h : Ch (σ.1 2) (σ.1 3) (σ.1 4) (σ.1 6) p c) : c < n ∧ H c < H p := by
  have hn := hW.1
  obtain ⟨w1, w2, w3⟩ := hW.2 p hp
  rcases h with ⟨a, b⟩ | ⟨a, a2, b⟩ | ⟨a, d, hd, b, e⟩
  · obtain ⟨c2, x1, x2, x3⟩ := w1 a
    rw [b] at x2
    cases nI_i hc (by omega) x2
    exact ⟨x1, x3⟩
  · obtain ⟨c2, x1, x2, x3⟩ := w2 a
    rw [b] at x2
    cases nI_i hc (by omega) x2
    exact ⟨x1, x3 a2⟩
  · obtain ⟨d2, y1, y2, y3⟩ := w3 a
    rw [b] at y2
    cases nI_i (by omega) (by omega) y2
    rcases y3 with y3 | ⟨c2, x1, x2, x3⟩
    · exact absurd (e.symm.trans y3) (nI_nm1 (by omega))
    · rw [e] at x2
      cases nI_i hc (by omega) x2
      exact ⟨x1, x3⟩
theorem KE_new (hS8 : S ≤ 8) (hW : WG (σ.1 2) (σ.1 3) (σ.1 4) (σ.1 6) n H) (hp : p < n) (hcd : ∀ i t, i < nc → cd i = some t → t < 16) (h : KS σ k na nc S cd p R R') : KE σ k na nc S cd p R' := by
  obtain ⟨hj, kn, h1, h2, h3⟩ := h
  refine ⟨kn, h1, h2, KP_cg kAg_rf hcd h2 h1 (fun c hc hch A z hA hz => (jn1_b hj (fun e => ?_) (by omega)).symm) (fun _ _ _ _ => Iff.rfl) h3⟩
  have := (Ch_H hW hp hc hch).2
  rw [e] at this
  omega
theorem KE_keep (hS8 : S ≤ 8) (hcd : ∀ i t, i < nc → cd i = some t → t < 16) (hj : jn1 p R R') (hq : q ≠ p) (hch : ∀ c, c < 40 → Ch (σ.1 2) (σ.1 3) (σ.1 4) (σ.1 6) q c → c ≠ p) (h : KE σ k na nc S cd q R) : KE σ k na nc S cd q R' := by
  obtain ⟨kn, h1, h2, h3⟩ := h
  exact ⟨kn, h1, h2, KP_cg kAg_rf hcd h2 h1 (fun c hc hh A z hA hz => (jn1_b hj (hch c hc hh) (by omega)).symm) (fun A z hA hz => (jn1_b hj hq (by omega)).symm) h3⟩
theorem KE_mv (ha : kAg k σ τ) (hcd : ∀ i t, i < nc → cd i = some t → t < 16) (h : KE σ k na nc S cd q R) : KE τ k na nc S cd q R := by
  obtain ⟨kn, h1, h2, h3⟩ := h
  exact ⟨kn, h1, by rw [ha.1]; exact h2, KP_cg ha hcd h2 h1 (fun _ _ _ _ _ _ _ => Iff.rfl) (fun _ _ _ _ => Iff.rfl) h3⟩
theorem KS_mv (ha : kAg k σ τ) (hcd : ∀ i t, i < nc → cd i = some t → t < 16) (h : KS σ k na nc S cd q R R') : KS τ k na nc S cd q R R' := by
  obtain ⟨hj, kn, h1, h2, h3⟩ := h
  exact ⟨hj, kn, h1, by rw [ha.1]; exact h2, KP_cg ha hcd h2 h1 (fun _ _ _ _ _ _ _ => Iff.rfl) (fun _ _ _ _ => Iff.rfl) h3⟩
end KES
