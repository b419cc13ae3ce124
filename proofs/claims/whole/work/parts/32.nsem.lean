/-! a node of the class, and its meaning -/
def RN (σ : sg) (D : Dc) (t na : Nat) (nj : Nat → Nat) : Prop := σ.1 (11 + 6 * t) 0 = D.1 t ∧ NJ nj na ∧ na ≤ 3 ∧ σ.1 (11 + 6 * t) 4 = nI na ∧ (∀ j, j < na → σ.1 (11 + 6 * t + 1) j = nI (nj j) ∧ D.2.1 t (nj j) = some (σ.1 (11 + 6 * t + 2) j)) ∧ (∀ a, a < 6 → D.2.1 t a ≠ none → ∃ j, j < na ∧ nj j = a) ∧ σ.1 (11 + 6 * t) 7 = nI (D.2.2.1 t) ∧ ∀ i, i < D.2.2.1 t → (D.2.2.2.1 t i = none ∧ σ.1 (11 + 6 * t + 4) i = -1 ∧ σ.1 (11 + 6 * t + 5) i = D.2.2.2.2 t i) ∨ ∃ u, D.2.2.2.1 t i = some u ∧ u < 16 ∧ σ.1 (11 + 6 * t + 4) i = nI u
def RC (σ : sg) (D : Dc) (nd : Nat) : Prop := WD D nd ∧ σ.1 8 1 = nI nd ∧ ∀ t, t < nd → ∃ na nj, RN σ D t na nj
theorem RN_fr {σ τ : sg} {D : Dc} {t na : Nat} {nj : Nat → Nat} (ht : t < 16) (h : FrW σ τ) (hR : RN σ D t na nj) : RN τ D t na nj := by
  unfold RN
  rw [h.1 (11 + 6 * t) (by omega) (by omega) (by omega) (by omega), h.1 (11 + 6 * t + 1) (by omega) (by omega) (by omega) (by omega), h.1 (11 + 6 * t + 2) (by omega) (by omega) (by omega) (by omega), h.1 (11 + 6 * t + 4) (by omega) (by omega) (by omega) (by omega), h.1 (11 + 6 * t + 5) (by omega) (by omega) (by omega) (by omega)]
  exact hR
theorem RN_Nd {σ : sg} {D : Dc} {t na nd : Nat} {nj : Nat → Nat} (hD : WD D nd) (ht : t < nd) (h : RN σ D t na nj) : Nd σ (11 + 6 * t) na (D.2.2.1 t) (D.2.2.2.1 t) := ⟨h.2.2.2.1, h.2.2.1, h.2.2.2.2.2.2.1, (hD.2 t ht).1, fun i hi => (h.2.2.2.2.2.2.2 i hi).imp (fun q => ⟨q.1, q.2.1⟩) (fun q => q)⟩
theorem RN_ph {σ : sg} {D : Dc} {t na : Nat} {nj : Nat → Nat} (h : RN σ D t na nj) : ph nj (2 ^ na - 1) na = mk D t 6 := tb_eq fun x => by
  obtain ⟨h1, h2, h3, h4, h5, h6, -⟩ := h
  rw [ph_b, mk_b]
  constructor
  · rintro ⟨j, q1, -, q3⟩
    refine ⟨by rw [← q3]; exact h2.1 j q1, ?_⟩
    rw [← q3, (h5 j q1).2]
    exact fun e => by cases e
  · rintro ⟨q1, q2⟩
    obtain ⟨j, q3, q4⟩ := h6 x q1 q2
    exact ⟨j, q3, by rw [Nat.testBit_two_pow_sub_one, decide_eq_true_eq]; exact q3, q4⟩
/-- values of attributes are weighed -/
def VS (τ : sg) (m t na : Nat) : Prop := ∀ j, j < na → ∀ q, q < 64 → (lb (τ.2 (11 + 6 * t + 3) j) q = true ↔ lst τ m q ∧ S1 (τ.1 2) (τ.1 3) (τ.1 4) (τ.1 6) (eV (τ.1 2) (τ.1 3) (τ.1 4) (τ.1 (11 + 6 * t + 2) j)) q)
/-- nodes from j on are weighed -/
def CS (τ : sg) (D : Dc) (nd m j : Nat) : Prop := ∀ t, j ≤ t → t < nd → ∀ q, lst τ m q → (lb (τ.2 (11 + 6 * t) 8) q = true ↔ FU (τ.1 2) (τ.1 3) (τ.1 4) (τ.1 6) D t q)
theorem N_sem {τ : sg} {D : Dc} {t na nd n p0 m : Nat} {nj : Nat → Nat} {H : Nat → Nat} {R : Nat → Int64} {sd : Int64} (hT : BT τ) (hG : Gr τ n H) (hH : ∀ q, q < n → H q ≤ 32) (hL : Li τ n p0 m) (hD : WD D nd) (ht : t < nd) (hR : RN τ D t na nj) (hnm : ∀ u, u < nd → τ.1 (11 + 6 * u) 0 = D.1 u) (hV : VS τ m t na) (hC : CS τ D nd m (t + 1)) (hO : WO τ (11 + 6 * t) na (D.2.2.1 t) (D.2.2.2.1 t) m R sd) : (∀ q, lst τ m q → ∀ z, z < 64 → (Rb R q (2 ^ na - 1) z ↔ MD (τ.1 2) (τ.1 3) (τ.1 4) (τ.1 6) D (FU (τ.1 2) (τ.1 3) (τ.1 4) (τ.1 6) D) t q (mk D t 6) z)) ∧ ∀ q, lst τ m q → (lb sd q = true ↔ FU (τ.1 2) (τ.1 3) (τ.1 4) (τ.1 6) D t q) := by
  have hn := hG.1.1
  have hc6 := (hD.2 t ht).1
  have hna := hR.2.2.1
  have hp0 := Nat.two_pow_pos na
  have key : ∀ q, lst τ m q → ∀ z, z < 64 → (Rb R q (2 ^ na - 1) z ↔ MD (τ.1 2) (τ.1 3) (τ.1 4) (τ.1 6) D (FU (τ.1 2) (τ.1 3) (τ.1 4) (τ.1 6) D) t q (mk D t 6) z) := by
    intro q hl z hz
    have hqn := lst_n hL q hl
    obtain ⟨i, hi, rfl⟩ := hl
    rw [KE_sem hT (RN_Nd hD ht hR) hG hH hL hO.1 i hi _ z (Nat.sub_lt hp0 (by decide)) hz]
    unfold MD
    rw [← RN_ph hR]
    refine SM_tr hG.1 hH hG.2 (lst_X hL) (lst_n hL) hR.2.1 (by omega) (fun p hp h9 => ?_) (fun i hi6 => ?_) (fun p hp h38 i hi6 => ?_) 33 _ ⟨i, hi, rfl⟩ (by have := hH _ hqn; omega) _ z (Nat.sub_lt hp0 (by decide))
    · have hpn := lst_n hL p hp
      obtain ⟨s1, s2, s3⟩ := Ch_s hG.1 hpn (Or.inr (Or.inr (Or.inr h9)))
      have hls := lst_X hL p _ hp s1 s3
      constructor
      · rintro j ⟨h1, h2, h3⟩
        obtain ⟨e1, e2⟩ := hR.2.2.2.2.1 j h1
        refine ⟨h1, ?_, _, e2, hR.2.1.1 j h1, ((hV j h1 _ (by omega)).mp h3).2⟩
        rw [← e1]
        exact h2
      · rintro a ⟨h1, v, h2, h3, h4⟩
        obtain ⟨j, q1, q2⟩ := hR.2.2.2.2.2.1 a h3 (by rw [h2]; exact fun e => by cases e)
        obtain ⟨e1, e2⟩ := hR.2.2.2.2.1 j q1
        rw [q2] at e1 e2
        rw [h2] at e2
        cases e2
        exact ⟨j, q1, q2.symm, q1, by rw [e1]; exact h1, (hV j q1 _ (by omega)).mpr ⟨hls, h4⟩⟩
    · unfold txC txD
      refine and_congr_right fun h => ?_
      rcases hR.2.2.2.2.2.2.2 i h with ⟨q1, q2, -⟩ | ⟨u, q1, q2, q3⟩
      · exact ⟨fun _ => q1, fun _ => q2⟩
      · exact ⟨fun e => absurd (q3.symm.trans e) (nI_nm1 (by omega)), fun e => by rw [q1] at e; cases e⟩
    · unfold eC eD
      refine and_congr_right fun h => ?_
      refine or_congr (and_congr_right fun h3 => ?_) (and_congr_right fun h8 => ?_)
      · unfold kQT
        rcases hR.2.2.2.2.2.2.2 i h with ⟨q1, q2, q3⟩ | ⟨u, q1, q2, q3⟩
        · rw [q3]
          exact ⟨fun z => ⟨q1, z.2⟩, fun z => ⟨q2, z.2⟩⟩
        · exact ⟨fun e => absurd (q3.symm.trans e.1) (nI_nm1 (by omega)), fun e => by rw [q1] at e; cases e.1⟩
      · unfold kQE
        refine exists_congr fun u => and_congr_right fun hu => ?_
        have hun := (hD.2 t ht).2 i h u hu
        obtain ⟨ip, hip, e⟩ := hp
        have hpn := (hL.1.2.1 ip hip).2.1
        rw [e] at hpn
        obtain ⟨c, c1, c2, -⟩ := (hG.1.2 p hpn).2.1 (Or.inr (Or.inr (Or.inr (Or.inl h8))))
        obtain ⟨j2, j3, j4⟩ := hL.1.2.2.2.2 ip hip (by rw [e]; exact h8) c (by omega) (by rw [e]; exact c2)
        rw [ot_e (by omega) c2]
        exact and_congr (by rw [hnm u hun.2]) (hC u (by omega) hun.2 c ⟨j2, j3, j4⟩)
  refine ⟨key, fun q hl => ?_⟩
  rw [hO.2 q (by have := lst_n hL q hl; omega), FU_un hD ht, ← key q hl _ (p2_64 _ hc6)]
  obtain ⟨i, hi, e⟩ := hl
  exact ⟨fun ⟨_, _, _, h⟩ => h, fun h => ⟨i, hi, e, h⟩⟩
