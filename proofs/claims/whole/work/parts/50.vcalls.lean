/-! the class's calls -/
def VR (Z : vg_Z) (ad : Nat → Nat) (σ : sg) (S : Int32 → Int32 → Pm → Prop) (v : Option Value) (w : va_W) : Prop := ∃ b P' τ, S 0 b P' ∧ v = some (.int b) ∧ IC τ P' ∧ frC σ τ ∧ w = wd Z ad τ
def VX (Z : vg_Z) (ad : Nat → Nat) (σ : sg) (S : Int32 → Int32 → Pm → Prop) (ex : List (String × Int32)) (E : String) (w : va_W) : Prop := ∃ c P' τ, S c 0 P' ∧ (E, c) ∈ ex ∧ IC τ P' ∧ frC σ τ ∧ w = wd Z ad τ
def tt (P : Pm) : Nat := if pn P = 0 then 0 else pT P
def tcn (P : Pm) : Nat := if pn P = 0 then 0 else (pD P).2.2.1 (pT P)
section VRS
variable {Z : vg_Z} {ad : Nat → Nat} {σ τ : sg} {P P' : Pm} {S : Int32 → Int32 → Pm → Prop} {b c : Int32} {ex : List (String × Int32)} {E : String}
theorem VR_i (i : IC τ P') (f : frC σ τ) (s : S 0 b P') : VR Z ad σ S (some (.int b)) (wd Z ad τ) := ⟨b, P', τ, s, rfl, i, f, rfl⟩
theorem VX_i (i : IC σ P) (m : (E, c) ∈ ex) (s : S c 0 P) : VX Z ad σ S ex E (wd Z ad σ) := ⟨c, P, σ, s, m, i, frC_rf, rfl⟩
theorem VX_f (i : IC τ P) (f : frC σ τ) (m : (E, c) ∈ ex) (s : S c 0 P) : VX Z ad σ S ex E (wd Z ad τ) := ⟨c, P, τ, s, m, i, f, rfl⟩
theorem IC_t (hW : PW P) (hI : IC σ P) : (pn P ≠ 0 → σ.1 10 (pn P - 1) = nI (tt P)) ∧ tt P < 16 ∧ (pn P ≠ 0 → tt P = pT P ∧ pT P < pd P) := by
  obtain ⟨-, hC, gd, gp, -⟩ := hI
  have h16 := hC.1.1
  by_cases h : pn P = 0
  · refine ⟨fun q => absurd h q, ?_, fun q => absurd h q⟩
    unfold tt
    rw [if_pos h]
    decide
  · have e : tt P = pT P := if_neg h
    have l : pT P < pd P := hW.2.2 (pn P - 1) (by omega)
    exact ⟨fun _ => by rw [e]; exact gp _ (by omega), by omega, fun _ => ⟨e, l⟩⟩
theorem IC_G (hW : PW P) (h : IC σ P) : Gr σ (pN P) (pH P) ∧ ∀ q, q < pN P → pH P q ≤ 32 := by
  obtain ⟨⟨g1, g2, g3, g4, g5, g6⟩, -⟩ := h
  obtain ⟨a, b, c⟩ := GW_WG hW.1
  unfold Gr
  rw [g1, g2, g3, g5]
  exact ⟨⟨a, c⟩, b⟩
theorem IC_RN (hI : IC σ P) {t : Nat} (ht : t < pd P) : σ.1 (11 + 6 * t) 0 = (pD P).1 t ∧ σ.1 (11 + 6 * t) 7 = nI ((pD P).2.2.1 t) ∧ σ.1 (11 + 6 * t) 4 = nI (cA (pD P) t 6) ∧ cA (pD P) t 6 ≤ 3 ∧ ∀ a, a < 6 → ((∃ i, i < cA (pD P) t 6 ∧ σ.1 (11 + 6 * t + 1) i = nI a) ↔ (pD P).2.1 t a ≠ none) := by
  obtain ⟨na, nj, h⟩ := hI.2.1.2.2 t ht
  have e := RN_na h
  rw [← e]
  exact ⟨h.1, h.2.2.2.2.2.2.1, h.2.2.2.1, h.2.2.1, fun a ha => RN_has h ha⟩
theorem IC_eq {Q : Pm} (h : IC σ P) (e : ∀ j, 1 ≤ j → j ≤ 6 → τ.1 j = σ.1 j) (q1 : Q.1 = P.1) (q2 : Q.2.1 = P.2.1) (hC : RC τ (pD Q) (pd Q)) (hd : τ.1 8 3 = nI (pn Q)) (hp : ∀ j, j < pn Q → τ.1 10 j = nI (pt Q j)) (l : τ.2 108 = σ.2 108 ∧ τ.2 109 = σ.2 109) : IC τ Q := by
  obtain ⟨g, -, -, -, hT⟩ := h
  refine ⟨?_, hC, hd, hp, ?_⟩
  · unfold pK pF pS pE pG pN
    rw [q1, q2, e 1 (by decide) (by decide), e 2 (by decide) (by decide), e 3 (by decide) (by decide), e 4 (by decide) (by decide), e 5 (by decide) (by decide), e 6 (by decide) (by decide)]
    exact g
  · unfold BT
    rw [l.1, l.2]
    exact hT
theorem IC_st {o : Nat → Int32} {m : Nat} {sn : Int64} (h : IC σ P) : IC (stL σ o m sn) P := by
  obtain ⟨g, hC, gd, gp, hT⟩ := h
  refine ⟨?_, RC_st hC, ?_, ?_, BT_st hT⟩
  · rw [stL_ne _ _ _ _ (j := 2) (by decide) (by decide), stL_ne _ _ _ _ (j := 3) (by decide) (by decide), stL_ne _ _ _ _ (j := 4) (by decide) (by decide), stL_ne _ _ _ _ (j := 5) (by decide) (by decide), stL_ne _ _ _ _ (j := 6) (by decide) (by decide), stL_1, pk_un (by decide)]
    exact g
  · rw [stL_ne _ _ _ _ (j := 8) (by decide) (by decide)]
    exact gd
  · rw [stL_ne _ _ _ _ (j := 10) (by decide) (by decide)]
    exact gp
theorem frC_st {o : Nat → Int32} {m : Nat} {sn : Int64} : frC σ (stL σ o m sn) := fun j hj => ⟨stL_ne _ _ _ _ (by omega) (by omega), stL_2 _ _ _ _ (by omega)⟩
theorem IC_W (h : FrW σ τ) (hI : IC σ P) : IC τ P := by
  have hI' := hI
  obtain ⟨g, hC, gd, gp, hT⟩ := hI
  refine IC_eq hI' (fun j h1 h2 => h.1 j (by omega) (by omega) (by omega) (by omega)) rfl rfl (RC_fr h hC) ?_ ?_ ⟨h.2 108 (by decide) (by decide) (fun t ht => by omega), h.2 109 (by decide) (by decide) (fun t ht => by omega)⟩
  · rw [h.1 8 (by decide) (by decide) (by decide) (by decide)]
    exact gd
  · rw [h.1 10 (by decide) (by decide) (by decide) (by decide)]
    exact gp
theorem frC_W (h : FrW σ τ) : frC σ τ := fun j hj => ⟨h.1 j (by omega) (by omega) (by omega) (by omega), h.2 j (by omega) (by omega) (fun t ht => by omega)⟩
theorem IC_add {x a b : Int32} (h : IC σ P) : IC (s_add σ (pN P) x a b) (p_add P x a b) := by
  obtain ⟨⟨g1, g2, g3, g4, g5, g6⟩, hC, gd, gp, hT⟩ := h
  refine ⟨⟨?_, ?_, ?_, ?_, g5, rfl⟩, ?_, gd, gp, hT⟩
  · show upd (σ.1 2) (pN P) x = upd (pK P) (pN P) x
    rw [g1]
  · show upd (σ.1 3) (pN P) a = upd (pF P) (pN P) a
    rw [g2]
  · show upd (σ.1 4) (pN P) b = upd (pS P) (pN P) b
    rw [g3]
  · show upd (σ.1 5) (pN P) (dp σ x a b) = upd (pE P) (pN P) (dq (pE P) x a b)
    rw [dq_dp, g4]
  · have c : ∀ j, 7 ≤ j → (s_add σ (pN P) x a b).1 j = σ.1 j := fun j hj => by
      unfold s_add
      simp (disch := omega) only [sI_ne]
    obtain ⟨w, m1, m2⟩ := hC
    refine ⟨w, by rw [c 8 (by decide)]; exact m1, fun t ht => ?_⟩
    obtain ⟨na, nj, q⟩ := m2 t ht
    exact ⟨na, nj, RN_cg (D := pD P) (fun j hj => c _ (by omega)) rfl rfl rfl (fun _ _ => rfl) (fun _ _ => rfl) q⟩
theorem frC_add {x a b : Int32} {n : Nat} : frC σ (s_add σ n x a b) := fun j hj => by
  unfold s_add
  refine ⟨?_, rfl⟩
  simp (disch := omega) only [sI_ne]
theorem RC_cell {D : Dc} {nd k : Nat} {r : Nat → Int32} (hk : k ≤ 10 ∧ k ≠ 8) (h : RC σ D nd) : RC (sI σ k r) D nd := by
  obtain ⟨w, m1, m2⟩ := h
  refine ⟨w, by rw [sI_ne _ (by omega)]; exact m1, fun t ht => ?_⟩
  obtain ⟨na, nj, q⟩ := m2 t ht
  exact ⟨na, nj, RN_cg (D := D) (fun j hj => sI_ne _ (by omega)) rfl rfl rfl (fun _ _ => rfl) (fun _ _ => rfl) q⟩
theorem IC_def {i : Nat} {p : Int32} (h : IC σ P) : IC (sI σ 6 (upd (σ.1 6) i p)) (p_def P i p) := by
  obtain ⟨⟨g1, g2, g3, g4, g5, g6⟩, hC, gd, gp, hT⟩ := h
  refine ⟨⟨g1, g2, g3, g4, ?_, g6⟩, RC_cell (by decide) hC, gd, gp, hT⟩
  show upd (σ.1 6) i p = upd (pG P) i p
  rw [g5]
theorem frC_sI {k : Nat} {r : Nat → Int32} (hk : k < 117) : frC σ (sI σ k r) := fun j hj => ⟨sI_ne _ (by omega), rfl⟩
theorem so_e (h : pn P ≠ 0 → tt P = pT P ∧ pT P < pd P) {nm : Int32} : s_open σ (pd P) (pn P) (tt P) (tcn P) nm = s_open σ (pd P) (pn P) (pT P) ((pD P).2.2.1 (pT P)) nm := by
  unfold s_open
  by_cases q : pn P = 0
  · rw [if_pos q, if_pos q]
  · rw [if_neg q, if_neg q, (h q).1, show tcn P = (pD P).2.2.1 (pT P) from if_neg q]
theorem so_c {sz dn t c : Nat} {nm : Int32} (hs : sz < 16) (ht : dn ≠ 0 → t < 16) {j : Nat} (h8 : j ≠ 8) (h10 : j ≠ 10) (hj : j < 11 ∨ 107 ≤ j) : (s_open σ sz dn t c nm).1 j = σ.1 j ∧ (s_open σ sz dn t c nm).2 j = σ.2 j := by
  unfold s_open s_node
  by_cases q : dn = 0
  · rw [if_pos q]
    refine ⟨?_, rfl⟩
    rw [sI_ne _ h8, sI_ne _ h10, s_begin_ne (by omega)]
  · rw [if_neg q]
    have := ht q
    refine ⟨?_, rfl⟩
    rw [sI_ne _ h8, sI_ne _ h10, s_begin_ne (by omega), s_addC_ne (by omega) (by omega) (by omega)]
theorem so_8 {sz dn t c : Nat} {nm : Int32} (hs : sz < 16) (ht : dn ≠ 0 → t < 16) : (s_open σ sz dn t c nm).1 8 3 = nI (dn + 1) ∧ (s_open σ sz dn t c nm).1 10 = upd (σ.1 10) dn (nI sz) := by
  unfold s_open s_node
  by_cases q : dn = 0
  · rw [if_pos q]
    refine ⟨by rw [sI_at, pk_un (by decide), pk_us], by rw [sI_ne _ (by decide), sI_at]⟩
  · rw [if_neg q]
    have := ht q
    refine ⟨by rw [sI_at, pk_un (by decide), pk_us], ?_⟩
    rw [sI_ne _ (by decide), sI_at, s_addC_ne (by omega) (by omega) (by omega)]
theorem IC_open {nm : Int32} (hW : PW P) (h : IC σ P) (hT : TN P) : IC (s_open σ (pd P) (pn P) (pT P) ((pD P).2.2.1 (pT P)) nm) (p_open P nm) := by
  have hI := h
  obtain ⟨-, hC, gd, gp, -⟩ := hI
  have h16 := hC.1.1
  have hlt : pn P ≠ 0 → pT P < pd P := fun q => hW.2.2 (pn P - 1) (by omega)
  have hz : pd P < 16 := by rcases hT with z | z <;> omega
  have ht : pn P ≠ 0 → pT P < 16 := fun q => by have := hlt q; omega
  refine IC_eq h (fun j h1 h2 => (so_c hz ht (by omega) (by omega) (by omega)).1) rfl rfl (RC_open hC hz (fun q => ⟨hlt q, by rcases hT with z | z; exact absurd z.1 q; exact z.2.2.2⟩)) (so_8 hz ht).1 (fun j hj => ?_) ⟨(so_c hz ht (by decide) (by decide) (by decide)).2, (so_c hz ht (by decide) (by decide) (by decide)).2⟩
  have hj' : j < pn P + 1 := hj
  rw [(so_8 hz ht).2]
  show upd (σ.1 10) (pn P) (nI (pd P)) j = nI (if j = pn P then pd P else pt P j)
  by_cases q : j = pn P
  · rw [q, pk_us, if_pos rfl]
  · rw [pk_un q, if_neg q]
    exact gp j (by omega)
theorem frC_open {sz dn t c : Nat} {nm : Int32} (hs : sz < 16) (ht : dn ≠ 0 → t < 16) : frC σ (s_open σ sz dn t c nm) := fun j hj => so_c hs ht (by omega) (by omega) (by omega)
theorem IC_text {x : Int32} (h : IC σ P) (ht : pT P < pd P) (hc : (pD P).2.2.1 (pT P) < 6) : IC (s_addC σ (11 + 6 * pT P) ((pD P).2.2.1 (pT P)) (-1) x) (p_text P x) := by
  have hI := h
  obtain ⟨-, hC, gd, gp, -⟩ := hI
  have h16 := hC.1.1
  refine IC_eq h (fun j h1 h2 => s_addC_ne (by omega) (by omega) (by omega)) rfl rfl (RC_text hC ht hc) ?_ ?_ ⟨rfl, rfl⟩
  · rw [s_addC_ne (by omega) (by omega) (by omega)]
    exact gd
  · rw [s_addC_ne (by omega) (by omega) (by omega)]
    exact gp
theorem frC_addC {t c : Nat} {x y : Int32} (ht : t < 16) : frC σ (s_addC σ (11 + 6 * t) c x y) := fun j hj => ⟨s_addC_ne (by omega) (by omega) (by omega), rfl⟩
theorem IC_att {a : Nat} {x : Int32} (h : IC σ P) (ht : pT P < pd P) (ha : a < 6) (hno : (pD P).2.1 (pT P) a = none) (h3 : cA (pD P) (pT P) 6 < 3) : IC (s_addA σ (11 + 6 * pT P) (cA (pD P) (pT P) 6) (nI a) x) (p_att P a x) := by
  have hI := h
  obtain ⟨-, hC, gd, gp, -⟩ := hI
  have h16 := hC.1.1
  refine IC_eq h (fun j h1 h2 => s_addA_ne (by omega) (by omega) (by omega)) rfl rfl (RC_att hC ht ha hno h3) ?_ ?_ ⟨rfl, rfl⟩
  · rw [s_addA_ne (by omega) (by omega) (by omega)]
    exact gd
  · rw [s_addA_ne (by omega) (by omega) (by omega)]
    exact gp
theorem frC_addA {t c : Nat} {x y : Int32} (ht : t < 16) : frC σ (s_addA σ (11 + 6 * t) c x y) := fun j hj => ⟨s_addA_ne (by omega) (by omega) (by omega), rfl⟩
theorem TN_C (hW : PW P) (hI : IC σ P) : ((pn P = 0 ∧ pd P = 0) ∨ (pn P ≠ 0 ∧ pd P < 16 ∧ pn P < 4 ∧ σ.1 (11 + 6 * tt P) 7 < 6)) ↔ TN P := by
  obtain ⟨-, -, h3⟩ := IC_t hW hI
  refine or_congr_right (and_congr_right fun q => and_congr_right fun _ => and_congr_right fun _ => ?_)
  obtain ⟨e, l⟩ := h3 q
  have := (hI.2.1.1.2 _ l).1
  rw [e, (IC_RN hI l).2.1, show (6 : Int32) = nI 6 from rfl, nI_ltJ (by omega) (by decide)]
theorem TC_C (hW : PW P) (hI : IC σ P) : (pn P ≠ 0 ∧ σ.1 (11 + 6 * tt P) 7 < 6) ↔ TC P := by
  obtain ⟨-, -, h3⟩ := IC_t hW hI
  refine and_congr_right fun q => ?_
  obtain ⟨e, l⟩ := h3 q
  have := (hI.2.1.1.2 _ l).1
  rw [e, (IC_RN hI l).2.1, show (6 : Int32) = nI 6 from rfl, nI_ltJ (by omega) (by decide)]
/-- how many attributes the last node has -/
def tna (P : Pm) : Nat := if pn P = 0 then 0 else cA (pD P) (pT P) 6
theorem tna_h (hW : PW P) (hI : IC σ P) : (pn P ≠ 0 → σ.1 (11 + 6 * tt P) 4 = nI (tna P)) ∧ tna P ≤ 3 := by
  obtain ⟨-, -, h3⟩ := IC_t hW hI
  by_cases q : pn P = 0
  · exact ⟨fun z => absurd q z, by unfold tna; rw [if_pos q]; decide⟩
  · obtain ⟨e, l⟩ := h3 q
    have r := IC_RN hI l
    have en : tna P = cA (pD P) (pT P) 6 := if_neg q
    rw [en, e]
    exact ⟨fun _ => r.2.2.1, r.2.2.2.1⟩
theorem TA_C (hW : PW P) (hI : IC σ P) {a : Nat} (ha : a < 6) : (pn P ≠ 0 ∧ σ.1 (11 + 6 * tt P) 7 = 0 ∧ tna P < 3 ∧ ¬ (∃ i, i < tna P ∧ σ.1 (11 + 6 * tt P + 1) i = nI a)) ↔ TA P (nI a) := by
  obtain ⟨-, -, h3⟩ := IC_t hW hI
  refine and_congr_right fun q => ?_
  obtain ⟨e, l⟩ := h3 q
  have := (hI.2.1.1.2 _ l).1
  have r := IC_RN hI l
  rw [e, show tna P = cA (pD P) (pT P) 6 from if_neg q, r.2.1, nI_z (by omega), r.2.2.2.2 a ha, nI_clamp (by omega)]
  constructor
  · rintro ⟨h1, h2, h4⟩
    exact ⟨h1, Classical.not_not.mp h4, h2⟩
  · rintro ⟨h1, h2, h4⟩
    exact ⟨h1, h4, fun z => z h2⟩
theorem gtP_cg {Q R : Nat → Prop} {n : Nat} {v : Int32} (h : ∀ i, i ≤ n → (Q i ↔ R i)) (g : gtP Q n v) : gtP R n v := by
  rcases g with ⟨i, i1, i2, i3, i4⟩ | ⟨i1, i2⟩
  · exact Or.inl ⟨i, i1, i2, (h i i1).mp i3, fun j h1 h2 z => i4 j h1 h2 ((h j h2).mpr z)⟩
  · exact Or.inr ⟨i1, fun j hj z => i2 j hj ((h j hj).mpr z)⟩
theorem lsP_cg {Q R : Nat → Prop} {n : Nat} {v : Int32} (h : ∀ i, i < n → (Q i ↔ R i)) (g : lsP Q n v) : lsP R n v := by
  rcases g with ⟨i, i1, i2, i3, i4⟩ | ⟨i1, i2⟩
  · exact Or.inl ⟨i, i1, i2, (h i i1).mp i3, fun j hj z => i4 j hj ((h j (by omega)).mpr z)⟩
  · exact Or.inr ⟨i1, fun j hj z => i2 j hj ((h j hj).mpr z)⟩
theorem S1N_P (hI : IC σ P) {t p : Nat} : S1N σ (pD P) t p ↔ pS1 P t p := by
  obtain ⟨⟨g1, g2, g3, g4, g5, g6⟩, -⟩ := hI
  unfold S1N pS1
  rw [g1, g2, g3, g5]
/-- what is known once the nodes are weighed -/
theorem WN_P (hW : PW P) (hI : IC σ P) {p i0 : Nat} (h : WN σ τ (pD P) (pd P) (pN P) p i0) : IC τ P ∧ frC σ τ ∧ ∃ m, Li τ (pN P) p m ∧ CS τ (pD P) (pd P) m i0 ∧ lst τ m p ∧ (i0 < pd P → ∃ na nj, RN τ (pD P) i0 na nj ∧ τ.1 107 5 = nI (2 ^ na) ∧ ∀ z, z < 64 → (Rb (τ.2 110) p (2 ^ na - 1) z ↔ pMD P i0 p (mk (pD P) i0 6) z)) := by
  obtain ⟨o, m, sn, hL, hF, hS, hR⟩ := h
  have iτ : IC τ P := IC_W hF (IC_st hI)
  have hLi : Li τ (pN P) p m := FrW_Li hF (Li_st hL)
  have hl : lst τ m p := hLi.1.2.2.2.1
  refine ⟨iτ, frC_tr frC_st (frC_W hF), m, hLi, hS, hl, fun hi => ?_⟩
  obtain ⟨na, nj, a1, a2, a3⟩ := hR hi
  obtain ⟨⟨g1, g2, g3, g4, g5, g6⟩, -⟩ := iτ
  refine ⟨na, nj, a1, a2, fun z hz => ?_⟩
  have := a3 p hl z hz
  rw [g1, g2, g3, g5] at this
  exact this
end VRS
set_option maxHeartbeats 4000000 in
set_option maxRecDepth 100000 in
theorem c_V_pattern (Z : vg_Z) (hZ : vg_ZP Z) (ad : Nat → Nat) (σ : sg) (x a b : Int32) (P : Pm) (hW : PW P) (hI : IC σ P) : vg_TX Z M_V_pattern 1 6 [.ref (ad 0), .int x, .int a, .int b] (wd Z ad σ) (VR Z ad σ (SpP P x a b)) (VX Z ad σ (SpP P x a b) [("java/lang/IllegalArgumentException", 1), ("java/lang/IllegalStateException", 2)]) := by
  have hst := vg_ZP_St hZ
  obtain ⟨⟨g1, g2, g3, g4, g5, g6⟩, hC, gd, gp, hT⟩ := id hI
  have hn := hW.1.1
  have hnd := hC.1.1
  have hpn := hW.2.1
  obtain ⟨htt, ht16, htT⟩ := IC_t hW hI
  refine vg_enterX hst (by decide) rfl (Nat.le_of_ble_eq_true rfl) ?_
  intro G C hne hQ
  show vg_K Z M_V_pattern G 0 0 0 [(0, .ref (ad 0)), (1, .int x), (2, .int a), (3, .int b)] [] (wd Z ad σ)
  refine vg_aload_n C d_V_pattern_0 rfl ?_
  refine wr_get C d_V_pattern_1 f_V_10 rfl rfl rfl rfl ?_
  refine vg_iload_n C d_V_pattern_4 rfl ?_
  refine vg_iload_n C d_V_pattern_5 rfl ?_
  refine vg_iload_n C d_V_pattern_6 rfl ?_
  refine wr_callV (As := [_, _, _]) C (c_G_allows Z hst ad σ x a b) l_V_pattern_G_allows k_V_32 rfl rfl rfl rfl rfl (Nat.le_of_ble_eq_true rfl) d_V_pattern_7 ⟨Nat.le_of_ble_eq_true rfl, Nat.le_of_ble_eq_true rfl⟩ (fun v_7 w_7 h_7 => ?_)
  obtain ⟨rfl, rfl⟩ := h_7
  rw [g6]
  refine vg_if_ne (tgt := 21) C d_V_pattern_10 (by decide) (fun c_10 => ?_) (fun c_10 => ?_)
  · rw [bI_eq] at c_10; simp only [decide_eq_false_iff_not, decide_eq_true_eq, Bool.not_eq_false, Classical.not_not] at c_10
    refine vg_aload_n C d_V_pattern_21 rfl ?_
    refine wr_get C d_V_pattern_22 f_V_10 rfl rfl rfl rfl ?_
    refine vg_iload_n C d_V_pattern_25 rfl ?_
    refine vg_iload_n C d_V_pattern_26 rfl ?_
    refine vg_iload_n C d_V_pattern_27 rfl ?_
    refine wr_callV (As := [_, _, _]) C (c_G_hasRoomFor Z hst ad σ x a b (fun q => al_va hn c_10 ((kF x).mp q)) (fun q => al_vb hn c_10 ((kS x).mp q))) l_V_pattern_G_hasRoomFor k_V_39 rfl rfl rfl rfl rfl (Nat.le_of_ble_eq_true rfl) d_V_pattern_28 ⟨Nat.le_of_ble_eq_true rfl, Nat.le_of_ble_eq_true rfl⟩ (fun v_28 w_28 h_28 => ?_)
    obtain ⟨rfl, rfl⟩ := h_28
    rw [g6, show (40 : Int32) = nI 40 from rfl, dq_dp, g4]
    refine vg_if_ne (tgt := 42) C d_V_pattern_31 (by decide) (fun c_31 => ?_) (fun c_31 => ?_)
    · rw [bI_eq] at c_31; simp only [decide_eq_false_iff_not, decide_eq_true_eq, Bool.not_eq_false, Classical.not_not] at c_31
      refine vg_aload_n C d_V_pattern_42 rfl ?_
      refine wr_get C d_V_pattern_43 f_V_10 rfl rfl rfl rfl ?_
      refine vg_iload_n C d_V_pattern_46 rfl ?_
      refine vg_iload_n C d_V_pattern_47 rfl ?_
      refine vg_iload_n C d_V_pattern_48 rfl ?_
      refine wr_callV (As := [_, _, _]) C (c_G_addPattern Z hst ad σ x a b (pN P) (fun q => al_va hn c_10 ((kF x).mp q)) (fun q => al_vb hn c_10 ((kS x).mp q)) g6 ((nI_ltJ (by omega) (by decide)).mp c_31.1)) l_V_pattern_G_addPattern k_V_45 rfl rfl rfl rfl rfl (Nat.le_of_ble_eq_true rfl) d_V_pattern_49 ⟨Nat.le_of_ble_eq_true rfl, Nat.le_of_ble_eq_true rfl⟩ (fun v_49 w_49 h_49 => ?_)
      obtain ⟨rfl, rfl⟩ := h_49
      exact vg_iretX C hQ d_V_pattern_52 rfl (by first | rfl | assumption) (Nat.le_of_ble_eq_true rfl) (Nat.le_of_ble_eq_true rfl) (VR_i (IC_add hI) frC_add (Or.inr (Or.inr ⟨c_10, ⟨(nI_ltJ (by omega) (by decide)).mp c_31.1, c_31.2⟩, rfl, rfl, rfl⟩)))
    · rw [bI_eq] at c_31; simp only [decide_eq_false_iff_not, decide_eq_true_eq, Bool.not_eq_false, Classical.not_not] at c_31
      exact vg_throw0 C hne hQ hZ tf_S d_V_pattern_34 d_V_pattern_37 d_V_pattern_38 d_V_pattern_41 ⟨Nat.le_of_ble_eq_true rfl, Nat.le_of_ble_eq_true rfl, Nat.le_of_ble_eq_true rfl, Nat.le_of_ble_eq_true rfl⟩ (Nat.le_of_ble_eq_true rfl) (Nat.le_of_ble_eq_true rfl) (VX_i hI (by decide) (Or.inr (Or.inl ⟨c_10, fun z => c_31 ⟨(nI_ltJ (by omega) (by decide)).mpr z.1, z.2⟩, rfl, rfl⟩)))
  · rw [bI_eq] at c_10; simp only [decide_eq_false_iff_not, decide_eq_true_eq, Bool.not_eq_false, Classical.not_not] at c_10
    exact vg_throw0 C hne hQ hZ tf_A d_V_pattern_13 d_V_pattern_16 d_V_pattern_17 d_V_pattern_20 ⟨Nat.le_of_ble_eq_true rfl, Nat.le_of_ble_eq_true rfl, Nat.le_of_ble_eq_true rfl, Nat.le_of_ble_eq_true rfl⟩ (Nat.le_of_ble_eq_true rfl) (Nat.le_of_ble_eq_true rfl) (VX_i hI (by decide) (Or.inl ⟨c_10, rfl, rfl⟩))
set_option maxHeartbeats 4000000 in
set_option maxRecDepth 100000 in
theorem c_V_define (Z : vg_Z) (hZ : vg_ZP Z) (ad : Nat → Nat) (σ : sg) (d p : Int32) (P : Pm) (hW : PW P) (hI : IC σ P) : vg_TX Z M_V_define 1 6 [.ref (ad 0), .int d, .int p] (wd Z ad σ) (VR Z ad σ (SpD P d p)) (VX Z ad σ (SpD P d p) [("java/lang/IllegalArgumentException", 1), ("java/util/NoSuchElementException", 2), ("java/lang/UnsupportedOperationException", 3)]) := by
  have hst := vg_ZP_St hZ
  obtain ⟨⟨g1, g2, g3, g4, g5, g6⟩, hC, gd, gp, hT⟩ := id hI
  have hn := hW.1.1
  have hnd := hC.1.1
  have hpn := hW.2.1
  obtain ⟨htt, ht16, htT⟩ := IC_t hW hI
  refine vg_enterX hst (by decide) rfl (Nat.le_of_ble_eq_true rfl) ?_
  intro G C hne hQ
  show vg_K Z M_V_define G 0 0 0 [(0, .ref (ad 0)), (1, .int d), (2, .int p)] [] (wd Z ad σ)
  refine vg_iload_n C d_V_define_0 rfl ?_
  refine vg_if_lt (tgt := 9) C d_V_define_1 (by decide) (fun c_1 => ?_) (fun c_1 => ?_)
  · skip
    exact vg_throw0 C hne hQ hZ tf_A d_V_define_9 d_V_define_12 d_V_define_13 d_V_define_16 ⟨Nat.le_of_ble_eq_true rfl, Nat.le_of_ble_eq_true rfl, Nat.le_of_ble_eq_true rfl, Nat.le_of_ble_eq_true rfl⟩ (Nat.le_of_ble_eq_true rfl) (Nat.le_of_ble_eq_true rfl) (VX_i hI (by decide) (Or.inl ⟨fun z => by first | exact c_6 z.2 | exact absurd c_1 (Int32.not_lt.mpr z.1), rfl, rfl⟩))
  · skip
    refine vg_iload_n C d_V_define_4 rfl ?_
    refine vg_iconst (v := 4) C d_V_define_5 (by decide) ?_
    refine vg_icmp_lt (tgt := 17) C d_V_define_6 (by decide) (fun c_6 => ?_) (fun c_6 => ?_)
    · skip
      refine vg_aload_n C d_V_define_17 rfl ?_
      refine wr_get C d_V_define_18 f_V_10 rfl rfl rfl rfl ?_
      refine vg_iload_n C d_V_define_21 rfl ?_
      refine wr_callV (As := [_]) C (c_G_has Z hst ad σ p) l_V_define_G_has k_V_49 rfl rfl rfl rfl rfl (Nat.le_of_ble_eq_true rfl) d_V_define_22 ⟨Nat.le_of_ble_eq_true rfl, Nat.le_of_ble_eq_true rfl⟩ (fun v_22 w_22 h_22 => ?_)
      obtain ⟨rfl, rfl⟩ := h_22
      rw [g6]
      refine vg_if_ne (tgt := 36) C d_V_define_25 (by decide) (fun c_25 => ?_) (fun c_25 => ?_)
      · rw [bI_eq] at c_25; simp only [decide_eq_false_iff_not, decide_eq_true_eq, Bool.not_eq_false, Classical.not_not] at c_25
        obtain ⟨i, hi, rfl⟩ := nJ_of (n := 4) (by decide) (Int32.not_lt.mp c_1) c_6
        obtain ⟨q, hq, rfl⟩ := nJ_of (by omega) c_25.1 c_25.2
        refine vg_aload_n C d_V_define_36 rfl ?_
        refine wr_get C d_V_define_37 f_V_10 rfl rfl rfl rfl ?_
        refine vg_iload_n C d_V_define_40 rfl ?_
        refine vg_iload_n C d_V_define_41 rfl ?_
        refine wr_callV (As := [_, _]) C (c_G_comesTo Z hst ad σ (pN P) (pH P) (IC_G hW hI).1.1 (IC_G hW hI).2 q hq (nI i)) l_V_define_G_comesTo k_V_56 rfl rfl rfl rfl rfl (Nat.le_of_ble_eq_true rfl) d_V_define_42 ⟨Nat.le_of_ble_eq_true rfl, Nat.le_of_ble_eq_true rfl⟩ (fun v_42 w_42 h_42 => ?_)
        obtain ⟨rfl, o, m, sn, rfl⟩ := h_42
        refine vg_if_eq (tgt := 56) C d_V_define_45 (by decide) (fun c_45 => ?_) (fun c_45 => ?_)
        · rw [bP_eq] at c_45; (try simp only [Classical.not_not] at c_45)
          refine vg_aload_n C d_V_define_56 rfl ?_
          refine wr_get C d_V_define_57 f_V_10 rfl rfl rfl rfl ?_
          refine vg_iload_n C d_V_define_60 rfl ?_
          refine vg_iload_n C d_V_define_61 rfl ?_
          refine wr_callV (As := [_, _]) C (c_G_give Z hst ad (stL σ o m sn) i (nI q) hi) l_V_define_G_give k_V_63 rfl rfl rfl rfl rfl (Nat.le_of_ble_eq_true rfl) d_V_define_62 ⟨Nat.le_of_ble_eq_true rfl, Nat.le_of_ble_eq_true rfl⟩ (fun v_62 w_62 h_62 => ?_)
          obtain ⟨rfl, rfl⟩ := h_62
          rw [show (stL σ o m sn).1 6 = pG P from (stL_ne _ _ _ _ (by decide) (by decide)).trans g5]
          refine vg_if_eq (tgt := 72) C d_V_define_65 (by decide) (fun c_65 => ?_) (fun c_65 => ?_)
          · rw [bI_eq] at c_65; simp only [decide_eq_false_iff_not, decide_eq_true_eq, Bool.not_eq_false, Classical.not_not] at c_65
            refine vg_iconst (v := 0) C d_V_define_72 (by decide) ?_
            exact vg_iretX C hQ d_V_define_73 rfl (by first | rfl | assumption) (Nat.le_of_ble_eq_true rfl) (Nat.le_of_ble_eq_true rfl) (VR_i (by have y := IC_def (i := i) (p := nI q) (IC_st (o := o) (m := m) (sn := sn) hI); rw [show (stL σ o m sn).1 6 = pG P from (stL_ne _ _ _ _ (by decide) (by decide)).trans g5] at y; exact y) (frC_tr frC_st (frC_sI (by decide))) (Or.inr (Or.inr (Or.inr ⟨⟨Int32.not_lt.mp c_1, c_6⟩, c_25, (by have q := c_45; rw [g1, g2, g3, g5] at q; rw [nI_clamp (by omega)]; exact q), rfl, by
    rw [nI_clamp (by omega)]
    first | rw [bP_t c_65] | rw [bP_f c_65], congrArg (fun k => p_def P k (nI q)) (nI_clamp (by omega)).symm⟩))))
          · rw [bI_eq] at c_65; simp only [decide_eq_false_iff_not, decide_eq_true_eq, Bool.not_eq_false, Classical.not_not] at c_65
            refine vg_iconst (v := 1) C d_V_define_68 (by decide) ?_
            refine vg_goto (tgt := 73) C d_V_define_69 (by decide) ?_
            exact vg_iretX C hQ d_V_define_73 rfl (by first | rfl | assumption) (Nat.le_of_ble_eq_true rfl) (Nat.le_of_ble_eq_true rfl) (VR_i (by have y := IC_def (i := i) (p := nI q) (IC_st (o := o) (m := m) (sn := sn) hI); rw [show (stL σ o m sn).1 6 = pG P from (stL_ne _ _ _ _ (by decide) (by decide)).trans g5] at y; exact y) (frC_tr frC_st (frC_sI (by decide))) (Or.inr (Or.inr (Or.inr ⟨⟨Int32.not_lt.mp c_1, c_6⟩, c_25, (by have q := c_45; rw [g1, g2, g3, g5] at q; rw [nI_clamp (by omega)]; exact q), rfl, by
    rw [nI_clamp (by omega)]
    first | rw [bP_t c_65] | rw [bP_f c_65], congrArg (fun k => p_def P k (nI q)) (nI_clamp (by omega)).symm⟩))))
        · rw [bP_eq] at c_45; (try simp only [Classical.not_not] at c_45)
          exact vg_throw0 C hne hQ hZ tf_U d_V_define_48 d_V_define_51 d_V_define_52 d_V_define_55 ⟨Nat.le_of_ble_eq_true rfl, Nat.le_of_ble_eq_true rfl, Nat.le_of_ble_eq_true rfl, Nat.le_of_ble_eq_true rfl⟩ (Nat.le_of_ble_eq_true rfl) (Nat.le_of_ble_eq_true rfl) (VX_f (IC_st hI) frC_st (by decide) (Or.inr (Or.inr (Or.inl ⟨⟨Int32.not_lt.mp c_1, c_6⟩, c_25, (by have q := c_45; rw [g1, g2, g3, g5] at q; rw [nI_clamp (by omega)]; exact q), rfl, rfl⟩))))
      · rw [bI_eq] at c_25; simp only [decide_eq_false_iff_not, decide_eq_true_eq, Bool.not_eq_false, Classical.not_not] at c_25
        exact vg_throw0 C hne hQ hZ tf_N d_V_define_28 d_V_define_31 d_V_define_32 d_V_define_35 ⟨Nat.le_of_ble_eq_true rfl, Nat.le_of_ble_eq_true rfl, Nat.le_of_ble_eq_true rfl, Nat.le_of_ble_eq_true rfl⟩ (Nat.le_of_ble_eq_true rfl) (Nat.le_of_ble_eq_true rfl) (VX_i hI (by decide) (Or.inr (Or.inl ⟨⟨Int32.not_lt.mp c_1, c_6⟩, c_25, rfl, rfl⟩)))
    · skip
      exact vg_throw0 C hne hQ hZ tf_A d_V_define_9 d_V_define_12 d_V_define_13 d_V_define_16 ⟨Nat.le_of_ble_eq_true rfl, Nat.le_of_ble_eq_true rfl, Nat.le_of_ble_eq_true rfl, Nat.le_of_ble_eq_true rfl⟩ (Nat.le_of_ble_eq_true rfl) (Nat.le_of_ble_eq_true rfl) (VX_i hI (by decide) (Or.inl ⟨fun z => by first | exact c_6 z.2 | exact absurd c_1 (Int32.not_lt.mpr z.1), rfl, rfl⟩))
set_option maxHeartbeats 4000000 in
set_option maxRecDepth 100000 in
theorem c_V_open (Z : vg_Z) (hZ : vg_ZP Z) (ad : Nat → Nat) (σ : sg) (nm : Int32) (P : Pm) (hW : PW P) (hI : IC σ P) : vg_TX Z M_V_open 1 6 [.ref (ad 0), .int nm] (wd Z ad σ) (VR Z ad σ (SpO P nm)) (VX Z ad σ (SpO P nm) [("java/lang/IllegalArgumentException", 1), ("java/lang/IllegalStateException", 2)]) := by
  have hst := vg_ZP_St hZ
  obtain ⟨⟨g1, g2, g3, g4, g5, g6⟩, hC, gd, gp, hT⟩ := id hI
  have hn := hW.1.1
  have hnd := hC.1.1
  have hpn := hW.2.1
  obtain ⟨htt, ht16, htT⟩ := IC_t hW hI
  refine vg_enterX hst (by decide) rfl (Nat.le_of_ble_eq_true rfl) ?_
  intro G C hne hQ
  show vg_K Z M_V_open G 0 0 0 [(0, .ref (ad 0)), (1, .int nm)] [] (wd Z ad σ)
  refine vg_iload_n C d_V_open_0 rfl ?_
  refine vg_if_lt (tgt := 10) C d_V_open_1 (by decide) (fun c_1 => ?_) (fun c_1 => ?_)
  · skip
    exact vg_throw0 C hne hQ hZ tf_A d_V_open_10 d_V_open_13 d_V_open_14 d_V_open_17 ⟨Nat.le_of_ble_eq_true rfl, Nat.le_of_ble_eq_true rfl, Nat.le_of_ble_eq_true rfl, Nat.le_of_ble_eq_true rfl⟩ (Nat.le_of_ble_eq_true rfl) (Nat.le_of_ble_eq_true rfl) (VX_i hI (by decide) (Or.inl ⟨fun z => by first | exact c_7 z.2 | exact absurd c_1 (Int32.not_lt.mpr z.1), rfl, rfl⟩))
  · skip
    refine vg_iload_n C d_V_open_4 rfl ?_
    refine vg_bipush (v := 6) C d_V_open_5 (by decide) ?_
    refine vg_icmp_lt (tgt := 18) C d_V_open_7 (by decide) (fun c_7 => ?_) (fun c_7 => ?_)
    · skip
      refine vg_aload_n C d_V_open_18 rfl ?_
      refine wr_get C d_V_open_19 f_V_19 rfl rfl rfl rfl ?_
      refine wr_callV (As := []) C (c_D_takesNode Z hst ad σ (pd P) (pn P) (tt P) hC.2.1 hnd gd hpn htt ht16) l_V_open_D_takesNode k_V_66 rfl rfl rfl rfl rfl (Nat.le_of_ble_eq_true rfl) d_V_open_22 ⟨Nat.le_of_ble_eq_true rfl, Nat.le_of_ble_eq_true rfl⟩ (fun v_22 w_22 h_22 => ?_)
      obtain ⟨rfl, rfl⟩ := h_22
      refine vg_if_ne (tgt := 36) C d_V_open_25 (by decide) (fun c_25 => ?_) (fun c_25 => ?_)
      · rw [bI_eq] at c_25; simp only [decide_eq_false_iff_not, decide_eq_true_eq, Bool.not_eq_false, Classical.not_not] at c_25; rw [TN_C hW hI] at c_25
        refine vg_aload_n C d_V_open_36 rfl ?_
        refine wr_get C d_V_open_37 f_V_19 rfl rfl rfl rfl ?_
        refine vg_iload_n C d_V_open_40 rfl ?_
        refine wr_callV (As := [_]) C (c_D_addNode Z hst ad σ nm (pd P) (pn P) (tt P) hC.2.1 hnd gd hpn htt ht16 (by rcases c_25 with z | z <;> omega) (by rcases c_25 with z | z <;> omega) (tcn P) (fun q => by rw [(htT q).1, show tcn P = (pD P).2.2.1 (pT P) from if_neg q]; exact (IC_RN hI (htT q).2).2.1) (by unfold tcn; by_cases q : pn P = 0; rw [if_pos q]; decide; rw [if_neg q]; rcases c_25 with z | z; exact absurd z.1 q; exact z.2.2.2)) l_V_open_D_addNode k_V_70 rfl rfl rfl rfl rfl (Nat.le_of_ble_eq_true rfl) d_V_open_41 ⟨Nat.le_of_ble_eq_true rfl, Nat.le_of_ble_eq_true rfl⟩ (fun v_41 w_41 h_41 => ?_)
        obtain ⟨rfl, rfl⟩ := h_41
        rw [so_e htT]
        exact vg_iretX C hQ d_V_open_44 rfl (by first | rfl | assumption) (Nat.le_of_ble_eq_true rfl) (Nat.le_of_ble_eq_true rfl) (VR_i (IC_open hW hI c_25) (frC_open (by rcases c_25 with z | z <;> omega) (fun q => by have := (htT q).2; omega)) (Or.inr (Or.inr ⟨⟨Int32.not_lt.mp c_1, c_7⟩, c_25, rfl, rfl, rfl⟩)))
      · rw [bI_eq] at c_25; simp only [decide_eq_false_iff_not, decide_eq_true_eq, Bool.not_eq_false, Classical.not_not] at c_25; rw [TN_C hW hI] at c_25
        exact vg_throw0 C hne hQ hZ tf_S d_V_open_28 d_V_open_31 d_V_open_32 d_V_open_35 ⟨Nat.le_of_ble_eq_true rfl, Nat.le_of_ble_eq_true rfl, Nat.le_of_ble_eq_true rfl, Nat.le_of_ble_eq_true rfl⟩ (Nat.le_of_ble_eq_true rfl) (Nat.le_of_ble_eq_true rfl) (VX_i hI (by decide) (Or.inr (Or.inl ⟨⟨Int32.not_lt.mp c_1, c_7⟩, c_25, rfl, rfl⟩)))
    · skip
      exact vg_throw0 C hne hQ hZ tf_A d_V_open_10 d_V_open_13 d_V_open_14 d_V_open_17 ⟨Nat.le_of_ble_eq_true rfl, Nat.le_of_ble_eq_true rfl, Nat.le_of_ble_eq_true rfl, Nat.le_of_ble_eq_true rfl⟩ (Nat.le_of_ble_eq_true rfl) (Nat.le_of_ble_eq_true rfl) (VX_i hI (by decide) (Or.inl ⟨fun z => by first | exact c_7 z.2 | exact absurd c_1 (Int32.not_lt.mpr z.1), rfl, rfl⟩))
set_option maxHeartbeats 4000000 in
set_option maxRecDepth 100000 in
theorem c_V_attribute (Z : vg_Z) (hZ : vg_ZP Z) (ad : Nat → Nat) (σ : sg) (nm x : Int32) (P : Pm) (hW : PW P) (hI : IC σ P) : vg_TX Z M_V_attribute 1 6 [.ref (ad 0), .int nm, .int x] (wd Z ad σ) (VR Z ad σ (SpA P nm x)) (VX Z ad σ (SpA P nm x) [("java/lang/IllegalArgumentException", 1), ("java/lang/IllegalStateException", 2)]) := by
  have hst := vg_ZP_St hZ
  obtain ⟨⟨g1, g2, g3, g4, g5, g6⟩, hC, gd, gp, hT⟩ := id hI
  have hn := hW.1.1
  have hnd := hC.1.1
  have hpn := hW.2.1
  obtain ⟨htt, ht16, htT⟩ := IC_t hW hI
  refine vg_enterX hst (by decide) rfl (Nat.le_of_ble_eq_true rfl) ?_
  intro G C hne hQ
  show vg_K Z M_V_attribute G 0 0 0 [(0, .ref (ad 0)), (1, .int nm), (2, .int x)] [] (wd Z ad σ)
  refine vg_iload_n C d_V_attribute_0 rfl ?_
  refine vg_if_lt (tgt := 10) C d_V_attribute_1 (by decide) (fun c_1 => ?_) (fun c_1 => ?_)
  · skip
    exact vg_throw0 C hne hQ hZ tf_A d_V_attribute_10 d_V_attribute_13 d_V_attribute_14 d_V_attribute_17 ⟨Nat.le_of_ble_eq_true rfl, Nat.le_of_ble_eq_true rfl, Nat.le_of_ble_eq_true rfl, Nat.le_of_ble_eq_true rfl⟩ (Nat.le_of_ble_eq_true rfl) (Nat.le_of_ble_eq_true rfl) (VX_i hI (by decide) (Or.inl ⟨fun z => by first | exact c_7 z.2 | exact absurd c_1 (Int32.not_lt.mpr z.1), rfl, rfl⟩))
  · skip
    refine vg_iload_n C d_V_attribute_4 rfl ?_
    refine vg_bipush (v := 6) C d_V_attribute_5 (by decide) ?_
    refine vg_icmp_lt (tgt := 18) C d_V_attribute_7 (by decide) (fun c_7 => ?_) (fun c_7 => ?_)
    · skip
      obtain ⟨a, ha, rfl⟩ := nJ_of (n := 6) (by decide) (Int32.not_lt.mp c_1) c_7
      refine vg_aload_n C d_V_attribute_18 rfl ?_
      refine wr_get C d_V_attribute_19 f_V_19 rfl rfl rfl rfl ?_
      refine vg_iload_n C d_V_attribute_22 rfl ?_
      refine wr_callV (As := [_]) C (c_D_takesAttribute Z hst ad σ (nI a) (pd P) (pn P) (tt P) hC.2.1 hnd gd hpn htt ht16 (tna P) (tna_h hW hI).1 (tna_h hW hI).2) l_V_attribute_D_takesAttribute k_V_74 rfl rfl rfl rfl rfl (Nat.le_of_ble_eq_true rfl) d_V_attribute_23 ⟨Nat.le_of_ble_eq_true rfl, Nat.le_of_ble_eq_true rfl⟩ (fun v_23 w_23 h_23 => ?_)
      obtain ⟨rfl, rfl⟩ := h_23
      rw [bP_congr (TA_C hW hI ha)]
      refine vg_if_ne (tgt := 37) C d_V_attribute_26 (by decide) (fun c_26 => ?_) (fun c_26 => ?_)
      · rw [bP_eq] at c_26; (try simp only [Classical.not_not] at c_26)
        refine vg_aload_n C d_V_attribute_37 rfl ?_
        refine wr_get C d_V_attribute_38 f_V_19 rfl rfl rfl rfl ?_
        refine vg_iload_n C d_V_attribute_41 rfl ?_
        refine vg_iload_n C d_V_attribute_42 rfl ?_
        refine wr_callV (As := [_, _]) C (c_D_addAttribute Z hst ad σ (nI a) x (pd P) (pn P) (tt P) hC.2.1 hnd gd hpn htt ht16 c_26.1 (cA (pD P) (pT P) 6) (by rw [(htT c_26.1).1]; exact (IC_RN hI (htT c_26.1).2).2.2.1) c_26.2.2.2) l_V_attribute_D_addAttribute k_V_77 rfl rfl rfl rfl rfl (Nat.le_of_ble_eq_true rfl) d_V_attribute_43 ⟨Nat.le_of_ble_eq_true rfl, Nat.le_of_ble_eq_true rfl⟩ (fun v_43 w_43 h_43 => ?_)
        obtain ⟨rfl, rfl⟩ := h_43
        rw [(htT c_26.1).1]
        exact vg_iretX C hQ d_V_attribute_46 rfl (by first | rfl | assumption) (Nat.le_of_ble_eq_true rfl) (Nat.le_of_ble_eq_true rfl) (VR_i (IC_att hI (htT c_26.1).2 ha (by have q := c_26.2.2.1; rw [nI_clamp (by omega)] at q; exact q) c_26.2.2.2) (frC_addA (by have := (htT c_26.1).2; omega)) (Or.inr (Or.inr ⟨⟨Int32.not_lt.mp c_1, c_7⟩, c_26, rfl, rfl, congrArg (fun k => p_att P k x) (nI_clamp (by omega)).symm⟩)))
      · rw [bP_eq] at c_26; (try simp only [Classical.not_not] at c_26)
        exact vg_throw0 C hne hQ hZ tf_S d_V_attribute_29 d_V_attribute_32 d_V_attribute_33 d_V_attribute_36 ⟨Nat.le_of_ble_eq_true rfl, Nat.le_of_ble_eq_true rfl, Nat.le_of_ble_eq_true rfl, Nat.le_of_ble_eq_true rfl⟩ (Nat.le_of_ble_eq_true rfl) (Nat.le_of_ble_eq_true rfl) (VX_i hI (by decide) (Or.inr (Or.inl ⟨⟨Int32.not_lt.mp c_1, c_7⟩, c_26, rfl, rfl⟩)))
    · skip
      exact vg_throw0 C hne hQ hZ tf_A d_V_attribute_10 d_V_attribute_13 d_V_attribute_14 d_V_attribute_17 ⟨Nat.le_of_ble_eq_true rfl, Nat.le_of_ble_eq_true rfl, Nat.le_of_ble_eq_true rfl, Nat.le_of_ble_eq_true rfl⟩ (Nat.le_of_ble_eq_true rfl) (Nat.le_of_ble_eq_true rfl) (VX_i hI (by decide) (Or.inl ⟨fun z => by first | exact c_7 z.2 | exact absurd c_1 (Int32.not_lt.mpr z.1), rfl, rfl⟩))
set_option maxHeartbeats 4000000 in
set_option maxRecDepth 100000 in
theorem c_V_text (Z : vg_Z) (hZ : vg_ZP Z) (ad : Nat → Nat) (σ : sg) (x : Int32) (P : Pm) (hW : PW P) (hI : IC σ P) : vg_TX Z M_V_text 1 6 [.ref (ad 0), .int x] (wd Z ad σ) (VR Z ad σ (SpT P x)) (VX Z ad σ (SpT P x) [("java/lang/IllegalStateException", 1)]) := by
  have hst := vg_ZP_St hZ
  obtain ⟨⟨g1, g2, g3, g4, g5, g6⟩, hC, gd, gp, hT⟩ := id hI
  have hn := hW.1.1
  have hnd := hC.1.1
  have hpn := hW.2.1
  obtain ⟨htt, ht16, htT⟩ := IC_t hW hI
  refine vg_enterX hst (by decide) rfl (Nat.le_of_ble_eq_true rfl) ?_
  intro G C hne hQ
  show vg_K Z M_V_text G 0 0 0 [(0, .ref (ad 0)), (1, .int x)] [] (wd Z ad σ)
  refine vg_aload_n C d_V_text_0 rfl ?_
  refine wr_get C d_V_text_1 f_V_19 rfl rfl rfl rfl ?_
  refine wr_callV (As := []) C (c_D_takesChild Z hst ad σ (pd P) (pn P) (tt P) hC.2.1 hnd gd hpn htt ht16) l_V_text_D_takesChild k_V_81 rfl rfl rfl rfl rfl (Nat.le_of_ble_eq_true rfl) d_V_text_4 ⟨Nat.le_of_ble_eq_true rfl, Nat.le_of_ble_eq_true rfl⟩ (fun v_4 w_4 h_4 => ?_)
  obtain ⟨rfl, rfl⟩ := h_4
  refine vg_if_ne (tgt := 18) C d_V_text_7 (by decide) (fun c_7 => ?_) (fun c_7 => ?_)
  · rw [bI_eq] at c_7; simp only [decide_eq_false_iff_not, decide_eq_true_eq, Bool.not_eq_false, Classical.not_not] at c_7; rw [TC_C hW hI] at c_7
    refine vg_aload_n C d_V_text_18 rfl ?_
    refine wr_get C d_V_text_19 f_V_19 rfl rfl rfl rfl ?_
    refine vg_iload_n C d_V_text_22 rfl ?_
    refine wr_callV (As := [_]) C (c_D_addText Z hst ad σ x (pd P) (pn P) (tt P) hC.2.1 hnd gd hpn htt ht16 c_7.1 ((pD P).2.2.1 (pT P)) (by rw [(htT c_7.1).1]; exact (IC_RN hI (htT c_7.1).2).2.1) c_7.2) l_V_text_D_addText k_V_84 rfl rfl rfl rfl rfl (Nat.le_of_ble_eq_true rfl) d_V_text_23 ⟨Nat.le_of_ble_eq_true rfl, Nat.le_of_ble_eq_true rfl⟩ (fun v_23 w_23 h_23 => ?_)
    obtain ⟨rfl, rfl⟩ := h_23
    rw [(htT c_7.1).1]
    exact vg_iretX C hQ d_V_text_26 rfl (by first | rfl | assumption) (Nat.le_of_ble_eq_true rfl) (Nat.le_of_ble_eq_true rfl) (VR_i (IC_text hI (htT c_7.1).2 c_7.2) (frC_addC (by have := (htT c_7.1).2; omega)) (Or.inr ⟨c_7, rfl, rfl, rfl⟩))
  · rw [bI_eq] at c_7; simp only [decide_eq_false_iff_not, decide_eq_true_eq, Bool.not_eq_false, Classical.not_not] at c_7; rw [TC_C hW hI] at c_7
    exact vg_throw0 C hne hQ hZ tf_S d_V_text_10 d_V_text_13 d_V_text_14 d_V_text_17 ⟨Nat.le_of_ble_eq_true rfl, Nat.le_of_ble_eq_true rfl, Nat.le_of_ble_eq_true rfl, Nat.le_of_ble_eq_true rfl⟩ (Nat.le_of_ble_eq_true rfl) (Nat.le_of_ble_eq_true rfl) (VX_i hI (by decide) (Or.inl ⟨c_7, rfl, rfl⟩))
theorem lo_m1 {n t : Nat} (h : t < 16) : (if n = 0 then (-1 : Int32) else nI t) = -1 ↔ n = 0 := by
  by_cases q : n = 0
  · rw [if_pos q]
    exact ⟨fun _ => q, fun _ => rfl⟩
  · rw [if_neg q]
    exact ⟨fun z => absurd z (nI_nm1 (by omega)), fun z => absurd z q⟩
theorem RC_8 {σ : sg} {D : Dc} {nd : Nat} {r : Nat → Int32} (h : RC σ D nd) (e : r 1 = σ.1 8 1) : RC (sI σ 8 r) D nd := by
  obtain ⟨w, m1, m2⟩ := h
  refine ⟨w, by rw [sI_at, e]; exact m1, fun t ht => ?_⟩
  obtain ⟨na, nj, q⟩ := m2 t ht
  exact ⟨na, nj, RN_cg (D := D) (fun j hj => sI_ne _ (by omega)) rfl rfl rfl (fun _ _ => rfl) (fun _ _ => rfl) q⟩
set_option maxHeartbeats 4000000 in
set_option maxRecDepth 100000 in
theorem c_V_close (Z : vg_Z) (hZ : vg_ZP Z) (ad : Nat → Nat) (σ : sg) (P : Pm) (hW : PW P) (hI : IC σ P) : vg_TX Z M_V_close 1 6 [.ref (ad 0)] (wd Z ad σ) (VR Z ad σ (SpC P)) (VX Z ad σ (SpC P) [("java/lang/IllegalStateException", 1)]) := by
  have hst := vg_ZP_St hZ
  obtain ⟨⟨g1, g2, g3, g4, g5, g6⟩, hC, gd, gp, hT⟩ := id hI
  have hn := hW.1.1
  have hnd := hC.1.1
  have hpn := hW.2.1
  obtain ⟨htt, ht16, htT⟩ := IC_t hW hI
  refine vg_enterX hst (by decide) rfl (Nat.le_of_ble_eq_true rfl) ?_
  intro G C hne hQ
  show vg_K Z M_V_close G 0 0 0 [(0, .ref (ad 0))] [] (wd Z ad σ)
  refine vg_aload_n C d_V_close_0 rfl ?_
  refine wr_get C d_V_close_1 f_V_19 rfl rfl rfl rfl ?_
  refine wr_callV (As := []) C (c_D_lastOpen Z hst ad σ (pd P) (pn P) (tt P) hC.2.1 hnd gd hpn htt ht16) l_V_close_D_lastOpen k_V_87 rfl rfl rfl rfl rfl (Nat.le_of_ble_eq_true rfl) d_V_close_4 ⟨Nat.le_of_ble_eq_true rfl, Nat.le_of_ble_eq_true rfl⟩ (fun v_4 w_4 h_4 => ?_)
  obtain ⟨rfl, rfl⟩ := h_4
  refine vg_iconst (v := (-1)) C d_V_close_7 (by decide) ?_
  refine vg_icmp_ne (tgt := 19) C d_V_close_8 (by decide) (fun c_8 => ?_) (fun c_8 => ?_)
  · rw [lo_m1 (by omega)] at c_8
    refine vg_aload_n C d_V_close_19 rfl ?_
    refine wr_get C d_V_close_20 f_V_19 rfl rfl rfl rfl ?_
    refine wr_callV (As := []) C (c_D_endLast Z hst ad σ (pn P) gd hpn c_8) l_V_close_D_endLast k_V_91 rfl rfl rfl rfl rfl (Nat.le_of_ble_eq_true rfl) d_V_close_23 ⟨Nat.le_of_ble_eq_true rfl, Nat.le_of_ble_eq_true rfl⟩ (fun v_23 w_23 h_23 => ?_)
    obtain ⟨rfl, rfl⟩ := h_23
    rw [gp _ (by omega)]
    exact vg_iretX C hQ d_V_close_26 rfl (by first | rfl | assumption) (Nat.le_of_ble_eq_true rfl) (Nat.le_of_ble_eq_true rfl) (VR_i (P' := p_close P) (IC_eq hI (fun j h1 h2 => sI_ne _ (by omega)) rfl rfl (RC_8 hC rfl) (by rw [sI_at, pk_us]; rfl) (fun j hj => gp j (Nat.lt_of_lt_of_le hj (Nat.sub_le _ _))) ⟨rfl, rfl⟩) (frC_sI (by decide)) (Or.inr ⟨c_8, rfl, rfl, rfl⟩))
  · rw [lo_m1 (by omega)] at c_8
    exact vg_throw0 C hne hQ hZ tf_S d_V_close_11 d_V_close_14 d_V_close_15 d_V_close_18 ⟨Nat.le_of_ble_eq_true rfl, Nat.le_of_ble_eq_true rfl, Nat.le_of_ble_eq_true rfl, Nat.le_of_ble_eq_true rfl⟩ (Nat.le_of_ble_eq_true rfl) (Nat.le_of_ble_eq_true rfl) (VX_i hI (by decide) (Or.inl ⟨c_8, rfl, rfl⟩))
set_option maxHeartbeats 4000000 in
set_option maxRecDepth 100000 in
theorem c_V_clear (Z : vg_Z) (hst : vg_St Z) (ad : Nat → Nat) (σ : sg) (P : Pm) (hW : PW P) (hI : IC σ P) : vg_T Z M_V_clear 0 0 [.ref (ad 0)] (wd Z ad σ) (fun v w => ∃ b P' τ, SpR P b P' ∧ v = some (.int b) ∧ IC τ P' ∧ frC σ τ ∧ w = wd Z ad τ) := by
  obtain ⟨⟨g1, g2, g3, g4, g5, g6⟩, hC, gd, gp, hT⟩ := id hI
  refine vg_enter hst (by decide) rfl (Nat.le_of_ble_eq_true rfl) ?_
  intro G C hQ
  show vg_K Z M_V_clear G 0 0 0 [(0, .ref (ad 0))] [] (wd Z ad σ)
  refine vg_aload_n C d_V_clear_0 rfl ?_
  refine wr_get C d_V_clear_1 f_V_19 rfl rfl rfl rfl ?_
  refine wr_callV (As := []) C (c_D_takeAway Z hst ad σ) l_V_clear_D_takeAway k_V_94 rfl rfl rfl rfl rfl (Nat.le_of_ble_eq_true rfl) d_V_clear_4 ⟨Nat.le_of_ble_eq_true rfl, Nat.le_of_ble_eq_true rfl⟩ (fun v_4 w_4 h_4 => ?_)
  obtain ⟨rfl, rfl⟩ := h_4
  rw [hC.2.1]
  exact vg_ireturn C hQ d_V_clear_7 rfl (by first | rfl | assumption) (⟨nI (pd P), p_clear P, _, ⟨rfl, rfl⟩, rfl, IC_eq hI (fun j h1 h2 => sI_ne _ (by omega)) rfl rfl (RC_less (by rw [sI_at, pk_un (by decide), pk_us]; rfl)) (by rw [sI_at, pk_us]; rfl) (fun j hj => absurd hj (Nat.not_lt_zero _)) ⟨rfl, rfl⟩, frC_sI (by decide), rfl⟩)
set_option maxHeartbeats 4000000 in
set_option maxRecDepth 100000 in
theorem c_V_matches (Z : vg_Z) (hZ : vg_ZP Z) (ad : Nat → Nat) (σ : sg) (p t : Int32) (P : Pm) (hW : PW P) (hI : IC σ P) : vg_TX Z M_V_matches 1 6 [.ref (ad 0), .int p, .int t] (wd Z ad σ) (VR Z ad σ (SpM P p t)) (VX Z ad σ (SpM P p t) [("java/util/NoSuchElementException", 1)]) := by
  have hst := vg_ZP_St hZ
  obtain ⟨⟨g1, g2, g3, g4, g5, g6⟩, hC, gd, gp, hT⟩ := id hI
  have hn := hW.1.1
  have hnd := hC.1.1
  have hpn := hW.2.1
  obtain ⟨htt, ht16, htT⟩ := IC_t hW hI
  refine vg_enterX hst (by decide) rfl (Nat.le_of_ble_eq_true rfl) ?_
  intro G C hne hQ
  show vg_K Z M_V_matches G 0 0 0 [(0, .ref (ad 0)), (1, .int p), (2, .int t)] [] (wd Z ad σ)
  refine vg_aload_n C d_V_matches_0 rfl ?_
  refine wr_get C d_V_matches_1 f_V_10 rfl rfl rfl rfl ?_
  refine vg_iload_n C d_V_matches_4 rfl ?_
  refine wr_callV (As := [_]) C (c_G_has Z hst ad σ p) l_V_matches_G_has k_V_49 rfl rfl rfl rfl rfl (Nat.le_of_ble_eq_true rfl) d_V_matches_5 ⟨Nat.le_of_ble_eq_true rfl, Nat.le_of_ble_eq_true rfl⟩ (fun v_5 w_5 h_5 => ?_)
  obtain ⟨rfl, rfl⟩ := h_5
  rw [g6]
  refine vg_if_eq (tgt := 22) C d_V_matches_8 (by decide) (fun c_8 => ?_) (fun c_8 => ?_)
  · rw [bI_eq] at c_8; simp only [decide_eq_false_iff_not, decide_eq_true_eq, Bool.not_eq_false, Classical.not_not] at c_8
    exact vg_throw0 C hne hQ hZ tf_N d_V_matches_22 d_V_matches_25 d_V_matches_26 d_V_matches_29 ⟨Nat.le_of_ble_eq_true rfl, Nat.le_of_ble_eq_true rfl, Nat.le_of_ble_eq_true rfl, Nat.le_of_ble_eq_true rfl⟩ (Nat.le_of_ble_eq_true rfl) (Nat.le_of_ble_eq_true rfl) (VX_i hI (by decide) (⟨rfl, Or.inl ⟨fun z => by first | exact c_19 z.2 | exact c_8 z.1, rfl⟩⟩))
  · rw [bI_eq] at c_8; simp only [decide_eq_false_iff_not, decide_eq_true_eq, Bool.not_eq_false, Classical.not_not] at c_8
    refine vg_aload_n C d_V_matches_11 rfl ?_
    refine wr_get C d_V_matches_12 f_V_19 rfl rfl rfl rfl ?_
    refine vg_iload_n C d_V_matches_15 rfl ?_
    refine wr_callV (As := [_]) C (c_D_has Z hst ad σ t) l_V_matches_D_has k_V_97 rfl rfl rfl rfl rfl (Nat.le_of_ble_eq_true rfl) d_V_matches_16 ⟨Nat.le_of_ble_eq_true rfl, Nat.le_of_ble_eq_true rfl⟩ (fun v_16 w_16 h_16 => ?_)
    obtain ⟨rfl, rfl⟩ := h_16
    rw [hC.2.1]
    refine vg_if_ne (tgt := 30) C d_V_matches_19 (by decide) (fun c_19 => ?_) (fun c_19 => ?_)
    · rw [bI_eq] at c_19; simp only [decide_eq_false_iff_not, decide_eq_true_eq, Bool.not_eq_false, Classical.not_not] at c_19
      obtain ⟨q, hq, rfl⟩ := nJ_of (by omega) c_8.1 c_8.2
      obtain ⟨u, hu, rfl⟩ := nJ_of (by omega) c_19.1 c_19.2
      refine vg_aload_n C d_V_matches_30 rfl ?_
      refine wr_get C d_V_matches_31 f_V_28 rfl rfl rfl rfl ?_
      refine vg_iload_n C d_V_matches_34 rfl ?_
      refine vg_iload_n C d_V_matches_35 rfl ?_
      refine wr_callV (As := [_, _]) C (c_T_weighNodes Z hst ad σ (pN P) (pH P) (IC_G hW hI).1 (IC_G hW hI).2 hT (pD P) (pd P) hC q hq u (by omega)) l_V_matches_T_weighNodes k_V_98 rfl rfl rfl rfl rfl (Nat.le_of_ble_eq_true rfl) d_V_matches_36 ⟨Nat.le_of_ble_eq_true rfl, Nat.le_of_ble_eq_true rfl⟩ (fun v_36 w_36 h_36 => ?_)
      obtain ⟨rfl, τ, hτ, rfl⟩ := h_36
      obtain ⟨iτ, fτ, m, hLi, hS, hl, hR⟩ := WN_P hW hI hτ
      obtain ⟨⟨j1, j2, j3, j4, j5, j6⟩, jC, jd, jp, jT⟩ := id iτ
      refine vg_aload_n C d_V_matches_39 rfl ?_
      refine wr_get C d_V_matches_40 f_V_28 rfl rfl rfl rfl ?_
      refine vg_iload_n C d_V_matches_43 rfl ?_
      refine vg_iload_n C d_V_matches_44 rfl ?_
      refine wr_callV (As := [_, _]) C (c_T_suitsNode Z hst ad τ (pN P) (pH P) (IC_G hW iτ).1 (IC_G hW iτ).2 jT (pD P) (pd P) jC q m hLi u hS u (Nat.le_refl _) hu) l_V_matches_T_suitsNode k_V_102 rfl rfl rfl rfl rfl (Nat.le_of_ble_eq_true rfl) d_V_matches_45 ⟨Nat.le_of_ble_eq_true rfl, Nat.le_of_ble_eq_true rfl⟩ (fun v_45 w_45 h_45 => ?_)
      obtain ⟨rfl, υ, fυ, rfl⟩ := h_45
      rw [bP_congr (S1N_P iτ)]
      refine vg_if_eq (tgt := 55) C d_V_matches_48 (by decide) (fun c_48 => ?_) (fun c_48 => ?_)
      · rw [bP_eq] at c_48; (try simp only [Classical.not_not] at c_48)
        refine vg_iconst (v := 0) C d_V_matches_55 (by decide) ?_
        exact vg_iretX C hQ d_V_matches_56 rfl (by first | rfl | assumption) (Nat.le_of_ble_eq_true rfl) (Nat.le_of_ble_eq_true rfl) (VR_i (IC_W fυ.1 iτ) (frC_tr fτ (frC_W fυ.1)) ⟨rfl, Or.inr ⟨⟨c_8, c_19⟩, rfl, by rw [nI_clamp (by omega), nI_clamp (by omega)]; first | rw [bP_t c_48] | rw [bP_f c_48]⟩⟩)
      · rw [bP_eq] at c_48; (try simp only [Classical.not_not] at c_48)
        refine vg_iconst (v := 1) C d_V_matches_51 (by decide) ?_
        refine vg_goto (tgt := 56) C d_V_matches_52 (by decide) ?_
        exact vg_iretX C hQ d_V_matches_56 rfl (by first | rfl | assumption) (Nat.le_of_ble_eq_true rfl) (Nat.le_of_ble_eq_true rfl) (VR_i (IC_W fυ.1 iτ) (frC_tr fτ (frC_W fυ.1)) ⟨rfl, Or.inr ⟨⟨c_8, c_19⟩, rfl, by rw [nI_clamp (by omega), nI_clamp (by omega)]; first | rw [bP_t c_48] | rw [bP_f c_48]⟩⟩)
    · rw [bI_eq] at c_19; simp only [decide_eq_false_iff_not, decide_eq_true_eq, Bool.not_eq_false, Classical.not_not] at c_19
      exact vg_throw0 C hne hQ hZ tf_N d_V_matches_22 d_V_matches_25 d_V_matches_26 d_V_matches_29 ⟨Nat.le_of_ble_eq_true rfl, Nat.le_of_ble_eq_true rfl, Nat.le_of_ble_eq_true rfl, Nat.le_of_ble_eq_true rfl⟩ (Nat.le_of_ble_eq_true rfl) (Nat.le_of_ble_eq_true rfl) (VX_i hI (by decide) (⟨rfl, Or.inl ⟨fun z => by first | exact c_19 z.2 | exact c_8 z.1, rfl⟩⟩))
theorem FU_P {σ : sg} {P : Pm} {t p : Nat} {Q : Prop} (hI : IC σ P) (h : Q ↔ FU (σ.1 2) (σ.1 3) (σ.1 4) (σ.1 6) (pD P) t p) : Q ↔ pFU P t p := by
  obtain ⟨⟨g1, g2, g3, g4, g5, g6⟩, -⟩ := hI
  rw [g1, g2, g3, g5] at h
  exact h
set_option maxHeartbeats 4000000 in
set_option maxRecDepth 100000 in
theorem c_V_content (Z : vg_Z) (hZ : vg_ZP Z) (ad : Nat → Nat) (σ : sg) (p t : Int32) (P : Pm) (hW : PW P) (hI : IC σ P) : vg_TX Z M_V_content 1 6 [.ref (ad 0), .int p, .int t] (wd Z ad σ) (VR Z ad σ (SpK P p t)) (VX Z ad σ (SpK P p t) [("java/util/NoSuchElementException", 1)]) := by
  have hst := vg_ZP_St hZ
  obtain ⟨⟨g1, g2, g3, g4, g5, g6⟩, hC, gd, gp, hT⟩ := id hI
  have hn := hW.1.1
  have hnd := hC.1.1
  have hpn := hW.2.1
  obtain ⟨htt, ht16, htT⟩ := IC_t hW hI
  refine vg_enterX hst (by decide) rfl (Nat.le_of_ble_eq_true rfl) ?_
  intro G C hne hQ
  show vg_K Z M_V_content G 0 0 0 [(0, .ref (ad 0)), (1, .int p), (2, .int t)] [] (wd Z ad σ)
  refine vg_aload_n C d_V_content_0 rfl ?_
  refine wr_get C d_V_content_1 f_V_10 rfl rfl rfl rfl ?_
  refine vg_iload_n C d_V_content_4 rfl ?_
  refine wr_callV (As := [_]) C (c_G_has Z hst ad σ p) l_V_content_G_has k_V_49 rfl rfl rfl rfl rfl (Nat.le_of_ble_eq_true rfl) d_V_content_5 ⟨Nat.le_of_ble_eq_true rfl, Nat.le_of_ble_eq_true rfl⟩ (fun v_5 w_5 h_5 => ?_)
  obtain ⟨rfl, rfl⟩ := h_5
  rw [g6]
  refine vg_if_eq (tgt := 22) C d_V_content_8 (by decide) (fun c_8 => ?_) (fun c_8 => ?_)
  · rw [bI_eq] at c_8; simp only [decide_eq_false_iff_not, decide_eq_true_eq, Bool.not_eq_false, Classical.not_not] at c_8
    exact vg_throw0 C hne hQ hZ tf_N d_V_content_22 d_V_content_25 d_V_content_26 d_V_content_29 ⟨Nat.le_of_ble_eq_true rfl, Nat.le_of_ble_eq_true rfl, Nat.le_of_ble_eq_true rfl, Nat.le_of_ble_eq_true rfl⟩ (Nat.le_of_ble_eq_true rfl) (Nat.le_of_ble_eq_true rfl) (VX_i hI (by decide) (⟨rfl, Or.inl ⟨fun z => by first | exact c_19 z.2 | exact c_8 z.1, rfl⟩⟩))
  · rw [bI_eq] at c_8; simp only [decide_eq_false_iff_not, decide_eq_true_eq, Bool.not_eq_false, Classical.not_not] at c_8
    refine vg_aload_n C d_V_content_11 rfl ?_
    refine wr_get C d_V_content_12 f_V_19 rfl rfl rfl rfl ?_
    refine vg_iload_n C d_V_content_15 rfl ?_
    refine wr_callV (As := [_]) C (c_D_has Z hst ad σ t) l_V_content_D_has k_V_97 rfl rfl rfl rfl rfl (Nat.le_of_ble_eq_true rfl) d_V_content_16 ⟨Nat.le_of_ble_eq_true rfl, Nat.le_of_ble_eq_true rfl⟩ (fun v_16 w_16 h_16 => ?_)
    obtain ⟨rfl, rfl⟩ := h_16
    rw [hC.2.1]
    refine vg_if_ne (tgt := 30) C d_V_content_19 (by decide) (fun c_19 => ?_) (fun c_19 => ?_)
    · rw [bI_eq] at c_19; simp only [decide_eq_false_iff_not, decide_eq_true_eq, Bool.not_eq_false, Classical.not_not] at c_19
      obtain ⟨q, hq, rfl⟩ := nJ_of (by omega) c_8.1 c_8.2
      obtain ⟨u, hu, rfl⟩ := nJ_of (by omega) c_19.1 c_19.2
      refine vg_aload_n C d_V_content_30 rfl ?_
      refine wr_get C d_V_content_31 f_V_28 rfl rfl rfl rfl ?_
      refine vg_iload_n C d_V_content_34 rfl ?_
      refine vg_iload_n C d_V_content_35 rfl ?_
      refine wr_callV (As := [_, _]) C (c_T_weighNodes Z hst ad σ (pN P) (pH P) (IC_G hW hI).1 (IC_G hW hI).2 hT (pD P) (pd P) hC q hq u (by omega)) l_V_content_T_weighNodes k_V_98 rfl rfl rfl rfl rfl (Nat.le_of_ble_eq_true rfl) d_V_content_36 ⟨Nat.le_of_ble_eq_true rfl, Nat.le_of_ble_eq_true rfl⟩ (fun v_36 w_36 h_36 => ?_)
      obtain ⟨rfl, τ, hτ, rfl⟩ := h_36
      obtain ⟨iτ, fτ, m, hLi, hS, hl, hR⟩ := WN_P hW hI hτ
      obtain ⟨⟨j1, j2, j3, j4, j5, j6⟩, jC, jd, jp, jT⟩ := id iτ
      refine vg_aload_n C d_V_content_39 rfl ?_
      refine wr_get C d_V_content_40 f_V_19 rfl rfl rfl rfl ?_
      refine wr_get C d_V_content_43 f_V_105 rfl rfl rfl rfl ?_
      refine vg_iload_n C d_V_content_46 rfl ?_
      refine wr_nald C d_V_content_47 (by exact vp_in_nI (by omega) (by decide)) ?_
      rw [nI_clamp (by omega)]
      refine vg_iload_n C d_V_content_48 rfl ?_
      refine wr_callV (As := [_]) C (c_N_suits Z hst ad τ q (11 + 6 * u) (nd_of u (by omega)) (by omega)) l_V_content_N_suits k_V_109 (nd_of u (by omega)) rfl rfl rfl rfl (Nat.le_of_ble_eq_true rfl) d_V_content_49 ⟨Nat.le_of_ble_eq_true rfl, Nat.le_of_ble_eq_true rfl⟩ (fun v_49 w_49 h_49 => ?_)
      obtain ⟨rfl, rfl⟩ := h_49
      rw [bP_congr (FU_P iτ (hS u (Nat.le_refl _) hu q hl))]
      refine vg_if_eq (tgt := 59) C d_V_content_52 (by decide) (fun c_52 => ?_) (fun c_52 => ?_)
      · rw [bP_eq] at c_52; (try simp only [Classical.not_not] at c_52)
        refine vg_iconst (v := 0) C d_V_content_59 (by decide) ?_
        exact vg_iretX C hQ d_V_content_60 rfl (by first | rfl | assumption) (Nat.le_of_ble_eq_true rfl) (Nat.le_of_ble_eq_true rfl) (VR_i iτ fτ ⟨rfl, Or.inr ⟨⟨c_8, c_19⟩, rfl, by rw [nI_clamp (by omega), nI_clamp (by omega)]; first | rw [bP_t c_52] | rw [bP_f c_52]⟩⟩)
      · rw [bP_eq] at c_52; (try simp only [Classical.not_not] at c_52)
        refine vg_iconst (v := 1) C d_V_content_55 (by decide) ?_
        refine vg_goto (tgt := 60) C d_V_content_56 (by decide) ?_
        exact vg_iretX C hQ d_V_content_60 rfl (by first | rfl | assumption) (Nat.le_of_ble_eq_true rfl) (Nat.le_of_ble_eq_true rfl) (VR_i iτ fτ ⟨rfl, Or.inr ⟨⟨c_8, c_19⟩, rfl, by rw [nI_clamp (by omega), nI_clamp (by omega)]; first | rw [bP_t c_52] | rw [bP_f c_52]⟩⟩)
    · rw [bI_eq] at c_19; simp only [decide_eq_false_iff_not, decide_eq_true_eq, Bool.not_eq_false, Classical.not_not] at c_19
      exact vg_throw0 C hne hQ hZ tf_N d_V_content_22 d_V_content_25 d_V_content_26 d_V_content_29 ⟨Nat.le_of_ble_eq_true rfl, Nat.le_of_ble_eq_true rfl, Nat.le_of_ble_eq_true rfl, Nat.le_of_ble_eq_true rfl⟩ (Nat.le_of_ble_eq_true rfl) (Nat.le_of_ble_eq_true rfl) (VX_i hI (by decide) (⟨rfl, Or.inl ⟨fun z => by first | exact c_19 z.2 | exact c_8 z.1, rfl⟩⟩))
set_option maxHeartbeats 4000000 in
set_option maxRecDepth 100000 in
theorem c_V_longest (Z : vg_Z) (hZ : vg_ZP Z) (ad : Nat → Nat) (σ : sg) (p t : Int32) (P : Pm) (hW : PW P) (hI : IC σ P) : vg_TX Z M_V_longest 1 6 [.ref (ad 0), .int p, .int t] (wd Z ad σ) (VR Z ad σ (SpL P p t)) (VX Z ad σ (SpL P p t) [("java/util/NoSuchElementException", 1), ("java/lang/UnsupportedOperationException", 2)]) := by
  have hst := vg_ZP_St hZ
  obtain ⟨⟨g1, g2, g3, g4, g5, g6⟩, hC, gd, gp, hT⟩ := id hI
  have hn := hW.1.1
  have hnd := hC.1.1
  have hpn := hW.2.1
  obtain ⟨htt, ht16, htT⟩ := IC_t hW hI
  refine vg_enterX hst (by decide) rfl (Nat.le_of_ble_eq_true rfl) ?_
  intro G C hne hQ
  show vg_K Z M_V_longest G 0 0 0 [(0, .ref (ad 0)), (1, .int p), (2, .int t)] [] (wd Z ad σ)
  refine vg_aload_n C d_V_longest_0 rfl ?_
  refine wr_get C d_V_longest_1 f_V_10 rfl rfl rfl rfl ?_
  refine vg_iload_n C d_V_longest_4 rfl ?_
  refine wr_callV (As := [_]) C (c_G_has Z hst ad σ p) l_V_longest_G_has k_V_49 rfl rfl rfl rfl rfl (Nat.le_of_ble_eq_true rfl) d_V_longest_5 ⟨Nat.le_of_ble_eq_true rfl, Nat.le_of_ble_eq_true rfl⟩ (fun v_5 w_5 h_5 => ?_)
  obtain ⟨rfl, rfl⟩ := h_5
  rw [g6]
  refine vg_if_eq (tgt := 22) C d_V_longest_8 (by decide) (fun c_8 => ?_) (fun c_8 => ?_)
  · rw [bI_eq] at c_8; simp only [decide_eq_false_iff_not, decide_eq_true_eq, Bool.not_eq_false, Classical.not_not] at c_8
    exact vg_throw0 C hne hQ hZ tf_N d_V_longest_22 d_V_longest_25 d_V_longest_26 d_V_longest_29 ⟨Nat.le_of_ble_eq_true rfl, Nat.le_of_ble_eq_true rfl, Nat.le_of_ble_eq_true rfl, Nat.le_of_ble_eq_true rfl⟩ (Nat.le_of_ble_eq_true rfl) (Nat.le_of_ble_eq_true rfl) (VX_i hI (by decide) (⟨rfl, Or.inl ⟨fun z => by first | exact c_19 z.2 | exact c_8 z.1, rfl⟩⟩))
  · rw [bI_eq] at c_8; simp only [decide_eq_false_iff_not, decide_eq_true_eq, Bool.not_eq_false, Classical.not_not] at c_8
    refine vg_aload_n C d_V_longest_11 rfl ?_
    refine wr_get C d_V_longest_12 f_V_19 rfl rfl rfl rfl ?_
    refine vg_iload_n C d_V_longest_15 rfl ?_
    refine wr_callV (As := [_]) C (c_D_has Z hst ad σ t) l_V_longest_D_has k_V_97 rfl rfl rfl rfl rfl (Nat.le_of_ble_eq_true rfl) d_V_longest_16 ⟨Nat.le_of_ble_eq_true rfl, Nat.le_of_ble_eq_true rfl⟩ (fun v_16 w_16 h_16 => ?_)
    obtain ⟨rfl, rfl⟩ := h_16
    rw [hC.2.1]
    refine vg_if_ne (tgt := 30) C d_V_longest_19 (by decide) (fun c_19 => ?_) (fun c_19 => ?_)
    · rw [bI_eq] at c_19; simp only [decide_eq_false_iff_not, decide_eq_true_eq, Bool.not_eq_false, Classical.not_not] at c_19
      obtain ⟨q, hq, rfl⟩ := nJ_of (by omega) c_8.1 c_8.2
      obtain ⟨u, hu, rfl⟩ := nJ_of (by omega) c_19.1 c_19.2
      refine vg_aload_n C d_V_longest_30 rfl ?_
      refine wr_get C d_V_longest_31 f_V_28 rfl rfl rfl rfl ?_
      refine vg_iload_n C d_V_longest_34 rfl ?_
      refine vg_iload_n C d_V_longest_35 rfl ?_
      refine wr_callV (As := [_, _]) C (c_T_weighNodes Z hst ad σ (pN P) (pH P) (IC_G hW hI).1 (IC_G hW hI).2 hT (pD P) (pd P) hC q hq u (by omega)) l_V_longest_T_weighNodes k_V_98 rfl rfl rfl rfl rfl (Nat.le_of_ble_eq_true rfl) d_V_longest_36 ⟨Nat.le_of_ble_eq_true rfl, Nat.le_of_ble_eq_true rfl⟩ (fun v_36 w_36 h_36 => ?_)
      obtain ⟨rfl, τ, hτ, rfl⟩ := h_36
      obtain ⟨iτ, fτ, m, hLi, hS, hl, hR⟩ := WN_P hW hI hτ
      obtain ⟨⟨j1, j2, j3, j4, j5, j6⟩, jC, jd, jp, jT⟩ := id iτ
      obtain ⟨na, nj, hR, r2, r3⟩ := hR hu
      have h66 := (jC.1.2 u hu).1
      refine vg_aload_n C d_V_longest_39 rfl ?_
      refine wr_get C d_V_longest_40 f_V_28 rfl rfl rfl rfl ?_
      refine vg_iload_n C d_V_longest_43 rfl ?_
      refine vg_aload_n C d_V_longest_44 rfl ?_
      refine wr_get C d_V_longest_45 f_V_19 rfl rfl rfl rfl ?_
      refine wr_get C d_V_longest_48 f_V_105 rfl rfl rfl rfl ?_
      refine vg_iload_n C d_V_longest_51 rfl ?_
      refine wr_nald C d_V_longest_52 (by exact vp_in_nI (by omega) (by decide)) ?_
      rw [nI_clamp (by omega)]
      refine wr_callV (As := [_, _]) C (c_T_mostChildren Z hst ad τ q (2 ^ na) (by omega) (Nat.two_pow_pos _) (Nat.pow_le_pow_right (n := 2) (j := 3) (by decide) hR.2.2.1) u (by omega) ((pD P).2.2.1 u) h66 r2 hR.2.2.2.2.2.2.1) l_V_longest_T_mostChildren k_V_114 rfl rfl rfl rfl rfl (Nat.le_of_ble_eq_true rfl) d_V_longest_53 ⟨Nat.le_of_ble_eq_true rfl, Nat.le_of_ble_eq_true rfl⟩ (fun v_53 w_53 h_53 => ?_)
      obtain ⟨y, rfl, hy, rfl⟩ := h_53
      have hy2 : gtP (lQ P q u) ((pD P).2.2.1 u) y := gtP_cg (fun i hi => r3 _ (by have := Nat.pow_le_pow_right (n := 2) (by decide) (Nat.le_trans hi h66); omega)) hy
      refine vg_istore_n C d_V_longest_56 (Nat.le_of_ble_eq_true rfl) rfl ?_
      refine vg_iload_n C d_V_longest_57 rfl ?_
      refine vg_iconst (v := (-1)) C d_V_longest_58 (by decide) ?_
      refine vg_icmp_ne (tgt := 70) C d_V_longest_59 (by decide) (fun c_59 => ?_) (fun c_59 => ?_)
      · skip
        refine vg_iload_n C d_V_longest_70 rfl ?_
        exact vg_iretX C hQ d_V_longest_71 rfl (by first | rfl | assumption) (Nat.le_of_ble_eq_true rfl) (Nat.le_of_ble_eq_true rfl) (VR_i iτ fτ ⟨rfl, Or.inr (Or.inr ⟨⟨c_8, c_19⟩, rfl, c_59, by rw [nI_clamp (by omega), nI_clamp (by omega)]; exact hy2⟩)⟩)
      · skip
        exact vg_throw0 C hne hQ hZ tf_U d_V_longest_62 d_V_longest_65 d_V_longest_66 d_V_longest_69 ⟨Nat.le_of_ble_eq_true rfl, Nat.le_of_ble_eq_true rfl, Nat.le_of_ble_eq_true rfl, Nat.le_of_ble_eq_true rfl⟩ (Nat.le_of_ble_eq_true rfl) (Nat.le_of_ble_eq_true rfl) (VX_f iτ fτ (by decide) ⟨rfl, Or.inr (Or.inl ⟨⟨c_8, c_19⟩, rfl, by rw [nI_clamp (by omega), nI_clamp (by omega)]; rw [c_59] at hy2; exact hy2⟩)⟩)
    · rw [bI_eq] at c_19; simp only [decide_eq_false_iff_not, decide_eq_true_eq, Bool.not_eq_false, Classical.not_not] at c_19
      exact vg_throw0 C hne hQ hZ tf_N d_V_longest_22 d_V_longest_25 d_V_longest_26 d_V_longest_29 ⟨Nat.le_of_ble_eq_true rfl, Nat.le_of_ble_eq_true rfl, Nat.le_of_ble_eq_true rfl, Nat.le_of_ble_eq_true rfl⟩ (Nat.le_of_ble_eq_true rfl) (Nat.le_of_ble_eq_true rfl) (VX_i hI (by decide) (⟨rfl, Or.inl ⟨fun z => by first | exact c_19 z.2 | exact c_8 z.1, rfl⟩⟩))
set_option maxHeartbeats 4000000 in
set_option maxRecDepth 100000 in
theorem c_V_find (Z : vg_Z) (hZ : vg_ZP Z) (ad : Nat → Nat) (σ : sg) (p : Int32) (P : Pm) (hW : PW P) (hI : IC σ P) : vg_TX Z M_V_find 1 6 [.ref (ad 0), .int p] (wd Z ad σ) (VR Z ad σ (SpF P p)) (VX Z ad σ (SpF P p) [("java/util/NoSuchElementException", 1), ("java/lang/UnsupportedOperationException", 2)]) := by
  have hst := vg_ZP_St hZ
  obtain ⟨⟨g1, g2, g3, g4, g5, g6⟩, hC, gd, gp, hT⟩ := id hI
  have hn := hW.1.1
  have hnd := hC.1.1
  have hpn := hW.2.1
  obtain ⟨htt, ht16, htT⟩ := IC_t hW hI
  refine vg_enterX hst (by decide) rfl (Nat.le_of_ble_eq_true rfl) ?_
  intro G C hne hQ
  show vg_K Z M_V_find G 0 0 0 [(0, .ref (ad 0)), (1, .int p)] [] (wd Z ad σ)
  refine vg_aload_n C d_V_find_0 rfl ?_
  refine wr_get C d_V_find_1 f_V_10 rfl rfl rfl rfl ?_
  refine vg_iload_n C d_V_find_4 rfl ?_
  refine wr_callV (As := [_]) C (c_G_has Z hst ad σ p) l_V_find_G_has k_V_49 rfl rfl rfl rfl rfl (Nat.le_of_ble_eq_true rfl) d_V_find_5 ⟨Nat.le_of_ble_eq_true rfl, Nat.le_of_ble_eq_true rfl⟩ (fun v_5 w_5 h_5 => ?_)
  obtain ⟨rfl, rfl⟩ := h_5
  rw [g6]
  refine vg_if_ne (tgt := 19) C d_V_find_8 (by decide) (fun c_8 => ?_) (fun c_8 => ?_)
  · rw [bI_eq] at c_8; simp only [decide_eq_false_iff_not, decide_eq_true_eq, Bool.not_eq_false, Classical.not_not] at c_8
    obtain ⟨q, hq, rfl⟩ := nJ_of (by omega) c_8.1 c_8.2
    refine vg_aload_n C d_V_find_19 rfl ?_
    refine wr_get C d_V_find_20 f_V_28 rfl rfl rfl rfl ?_
    refine vg_iload_n C d_V_find_23 rfl ?_
    refine vg_iconst (v := 0) C d_V_find_24 (by decide) ?_
    refine wr_callV (As := [_, _]) C (c_T_weighNodes Z hst ad σ (pN P) (pH P) (IC_G hW hI).1 (IC_G hW hI).2 hT (pD P) (pd P) hC q hq 0 (by omega)) l_V_find_T_weighNodes k_V_98 rfl rfl rfl rfl rfl (Nat.le_of_ble_eq_true rfl) d_V_find_25 ⟨Nat.le_of_ble_eq_true rfl, Nat.le_of_ble_eq_true rfl⟩ (fun v_25 w_25 h_25 => ?_)
    obtain ⟨rfl, τ, hτ, rfl⟩ := h_25
    obtain ⟨iτ, fτ, m, hLi, hS, hl, hR⟩ := WN_P hW hI hτ
    obtain ⟨⟨j1, j2, j3, j4, j5, j6⟩, jC, jd, jp, jT⟩ := id iτ
    refine vg_aload_n C d_V_find_28 rfl ?_
    refine wr_get C d_V_find_29 f_V_28 rfl rfl rfl rfl ?_
    refine vg_iload_n C d_V_find_32 rfl ?_
    refine wr_callV (As := [_]) C (c_T_leastNode Z hst ad τ (pN P) (pH P) (IC_G hW iτ).1 (IC_G hW iτ).2 jT (pD P) (pd P) jC q m hLi hS) l_V_find_T_leastNode k_V_118 rfl rfl rfl rfl rfl (Nat.le_of_ble_eq_true rfl) d_V_find_33 ⟨Nat.le_of_ble_eq_true rfl, Nat.le_of_ble_eq_true rfl⟩ (fun v_33 w_33 h_33 => ?_)
    obtain ⟨y, rfl, hy, υ, fυ, rfl⟩ := h_33
    have hy2 : lsP (fun t => pS1 P t q) (pd P) y := lsP_cg (fun i hi => S1N_P iτ) hy
    refine vg_istore_n C d_V_find_36 (Nat.le_of_ble_eq_true rfl) rfl ?_
    refine vg_iload_n C d_V_find_37 rfl ?_
    refine vg_iconst (v := (-1)) C d_V_find_38 (by decide) ?_
    refine vg_icmp_ne (tgt := 50) C d_V_find_39 (by decide) (fun c_39 => ?_) (fun c_39 => ?_)
    · skip
      refine vg_iload_n C d_V_find_50 rfl ?_
      exact vg_iretX C hQ d_V_find_51 rfl (by first | rfl | assumption) (Nat.le_of_ble_eq_true rfl) (Nat.le_of_ble_eq_true rfl) (VR_i (IC_W fυ.1 iτ) (frC_tr fτ (frC_W fυ.1)) ⟨rfl, Or.inr (Or.inr ⟨c_8, rfl, c_39, by rw [nI_clamp (by omega)]; exact hy2⟩)⟩)
    · skip
      exact vg_throw0 C hne hQ hZ tf_U d_V_find_42 d_V_find_45 d_V_find_46 d_V_find_49 ⟨Nat.le_of_ble_eq_true rfl, Nat.le_of_ble_eq_true rfl, Nat.le_of_ble_eq_true rfl, Nat.le_of_ble_eq_true rfl⟩ (Nat.le_of_ble_eq_true rfl) (Nat.le_of_ble_eq_true rfl) (VX_f (IC_W fυ.1 iτ) (frC_tr fτ (frC_W fυ.1)) (by decide) ⟨rfl, Or.inr (Or.inl ⟨c_8, rfl, by rw [nI_clamp (by omega)]; rw [c_39] at hy2; exact hy2⟩)⟩)
  · rw [bI_eq] at c_8; simp only [decide_eq_false_iff_not, decide_eq_true_eq, Bool.not_eq_false, Classical.not_not] at c_8
    exact vg_throw0 C hne hQ hZ tf_N d_V_find_11 d_V_find_14 d_V_find_15 d_V_find_18 ⟨Nat.le_of_ble_eq_true rfl, Nat.le_of_ble_eq_true rfl, Nat.le_of_ble_eq_true rfl, Nat.le_of_ble_eq_true rfl⟩ (Nat.le_of_ble_eq_true rfl) (Nat.le_of_ble_eq_true rfl) (VX_i hI (by decide) (⟨rfl, Or.inl ⟨c_8, rfl⟩⟩))
set_option maxHeartbeats 4000000 in
set_option maxRecDepth 100000 in
theorem c_V_nullable (Z : vg_Z) (hZ : vg_ZP Z) (ad : Nat → Nat) (σ : sg) (p : Int32) (P : Pm) (hW : PW P) (hI : IC σ P) : vg_TX Z M_V_nullable 1 6 [.ref (ad 0), .int p] (wd Z ad σ) (VR Z ad σ (SpN P p)) (VX Z ad σ (SpN P p) [("java/util/NoSuchElementException", 1)]) := by
  have hst := vg_ZP_St hZ
  obtain ⟨⟨g1, g2, g3, g4, g5, g6⟩, hC, gd, gp, hT⟩ := id hI
  have hn := hW.1.1
  have hnd := hC.1.1
  have hpn := hW.2.1
  obtain ⟨htt, ht16, htT⟩ := IC_t hW hI
  refine vg_enterX hst (by decide) rfl (Nat.le_of_ble_eq_true rfl) ?_
  intro G C hne hQ
  show vg_K Z M_V_nullable G 0 0 0 [(0, .ref (ad 0)), (1, .int p)] [] (wd Z ad σ)
  refine vg_aload_n C d_V_nullable_0 rfl ?_
  refine wr_get C d_V_nullable_1 f_V_10 rfl rfl rfl rfl ?_
  refine vg_iload_n C d_V_nullable_4 rfl ?_
  refine wr_callV (As := [_]) C (c_G_has Z hst ad σ p) l_V_nullable_G_has k_V_49 rfl rfl rfl rfl rfl (Nat.le_of_ble_eq_true rfl) d_V_nullable_5 ⟨Nat.le_of_ble_eq_true rfl, Nat.le_of_ble_eq_true rfl⟩ (fun v_5 w_5 h_5 => ?_)
  obtain ⟨rfl, rfl⟩ := h_5
  rw [g6]
  refine vg_if_ne (tgt := 19) C d_V_nullable_8 (by decide) (fun c_8 => ?_) (fun c_8 => ?_)
  · rw [bI_eq] at c_8; simp only [decide_eq_false_iff_not, decide_eq_true_eq, Bool.not_eq_false, Classical.not_not] at c_8
    obtain ⟨q, hq, rfl⟩ := nJ_of (by omega) c_8.1 c_8.2
    refine vg_aload_n C d_V_nullable_19 rfl ?_
    refine wr_get C d_V_nullable_20 f_V_28 rfl rfl rfl rfl ?_
    refine vg_iload_n C d_V_nullable_23 rfl ?_
    refine wr_callV (As := [_]) C (c_T_suitsNothing Z hst ad σ (pN P) (pH P) (IC_G hW hI).1 (IC_G hW hI).2 hT q hq) l_V_nullable_T_suitsNothing k_V_121 rfl rfl rfl rfl rfl (Nat.le_of_ble_eq_true rfl) d_V_nullable_24 ⟨Nat.le_of_ble_eq_true rfl, Nat.le_of_ble_eq_true rfl⟩ (fun v_24 w_24 h_24 => ?_)
    obtain ⟨rfl, o, m, sn, τ, fτ, rfl⟩ := h_24
    rw [g1, g2, g3, g5]
    refine vg_if_eq (tgt := 34) C d_V_nullable_27 (by decide) (fun c_27 => ?_) (fun c_27 => ?_)
    · rw [bP_eq] at c_27; (try simp only [Classical.not_not] at c_27)
      refine vg_iconst (v := 0) C d_V_nullable_34 (by decide) ?_
      exact vg_iretX C hQ d_V_nullable_35 rfl (by first | rfl | assumption) (Nat.le_of_ble_eq_true rfl) (Nat.le_of_ble_eq_true rfl) (VR_i (IC_W fτ.1 (IC_st hI)) (frC_tr frC_st (frC_W fτ.1)) ⟨rfl, Or.inr ⟨c_8, rfl, by rw [nI_clamp (by omega)]; first | rw [bP_t c_27] | rw [bP_f c_27]⟩⟩)
    · rw [bP_eq] at c_27; (try simp only [Classical.not_not] at c_27)
      refine vg_iconst (v := 1) C d_V_nullable_30 (by decide) ?_
      refine vg_goto (tgt := 35) C d_V_nullable_31 (by decide) ?_
      exact vg_iretX C hQ d_V_nullable_35 rfl (by first | rfl | assumption) (Nat.le_of_ble_eq_true rfl) (Nat.le_of_ble_eq_true rfl) (VR_i (IC_W fτ.1 (IC_st hI)) (frC_tr frC_st (frC_W fτ.1)) ⟨rfl, Or.inr ⟨c_8, rfl, by rw [nI_clamp (by omega)]; first | rw [bP_t c_27] | rw [bP_f c_27]⟩⟩)
  · rw [bI_eq] at c_8; simp only [decide_eq_false_iff_not, decide_eq_true_eq, Bool.not_eq_false, Classical.not_not] at c_8
    exact vg_throw0 C hne hQ hZ tf_N d_V_nullable_11 d_V_nullable_14 d_V_nullable_15 d_V_nullable_18 ⟨Nat.le_of_ble_eq_true rfl, Nat.le_of_ble_eq_true rfl, Nat.le_of_ble_eq_true rfl, Nat.le_of_ble_eq_true rfl⟩ (Nat.le_of_ble_eq_true rfl) (Nat.le_of_ble_eq_true rfl) (VX_i hI (by decide) (⟨rfl, Or.inl ⟨c_8, rfl⟩⟩))
theorem gct_P {σ : sg} {P : Pm} (h : σ.1 6 = pG P) : gct σ 4 = gcu (pG P) 4 := by
  have e : ∀ n, gct σ n = gcu (pG P) n := by
    intro n
    induction n with
    | zero => rfl
    | succ n ih =>
      unfold gct gcu
      rw [ih, h]
  exact e 4
set_option maxHeartbeats 4000000 in
set_option maxRecDepth 100000 in
theorem c_V_count (Z : vg_Z) (hZ : vg_ZP Z) (ad : Nat → Nat) (σ : sg) (x : Int32) (P : Pm) (hW : PW P) (hI : IC σ P) : vg_TX Z M_V_count 1 6 [.ref (ad 0), .int x] (wd Z ad σ) (VR Z ad σ (SpU P x)) (VX Z ad σ (SpU P x) [("java/lang/IllegalArgumentException", 1)]) := by
  have hst := vg_ZP_St hZ
  obtain ⟨⟨g1, g2, g3, g4, g5, g6⟩, hC, gd, gp, hT⟩ := id hI
  have hn := hW.1.1
  have hnd := hC.1.1
  have hpn := hW.2.1
  obtain ⟨htt, ht16, htT⟩ := IC_t hW hI
  refine vg_enterX hst (by decide) rfl (Nat.le_of_ble_eq_true rfl) ?_
  intro G C hne hQ
  show vg_K Z M_V_count G 0 0 0 [(0, .ref (ad 0)), (1, .int x)] [] (wd Z ad σ)
  refine vg_iload_n C d_V_count_0 rfl ?_
  rcases sw_n x 5 (by decide) with hs_1 | ⟨j_1, hj_1, es_1⟩
  · skip
    refine vg_tabOut (tgt := 88) C d_V_count_1 hs_1 (by decide) ?_
    exact vg_throw0 C hne hQ hZ tf_A d_V_count_88 d_V_count_91 d_V_count_92 d_V_count_95 ⟨Nat.le_of_ble_eq_true rfl, Nat.le_of_ble_eq_true rfl, Nat.le_of_ble_eq_true rfl, Nat.le_of_ble_eq_true rfl⟩ (Nat.le_of_ble_eq_true rfl) (Nat.le_of_ble_eq_true rfl) (VX_i hI (by decide) ⟨rfl, Or.inr (Or.inr (Or.inr (Or.inr (Or.inr (Or.inr ⟨fun z => by rw [Int32.le_iff_toInt_le, Int32.le_iff_toInt_le, i32_0, i32_5] at z; omega, rfl⟩)))))⟩)
  · skip
    rcases (show j_1 = 0 ∨ j_1 = 1 ∨ j_1 = 2 ∨ j_1 = 3 ∨ j_1 = 4 ∨ j_1 = 5 by omega) with rfl | rfl | rfl | rfl | rfl | rfl
    · skip
      subst es_1
      refine vg_tabIn (tgt := 40) C d_V_count_1 (by decide) (by decide) rfl (by decide) ?_
      refine vg_aload_n C d_V_count_40 rfl ?_
      refine wr_get C d_V_count_41 f_V_10 rfl rfl rfl rfl ?_
      refine wr_get C d_V_count_44 f_V_124 rfl rfl rfl rfl ?_
      rw [g6]
      exact vg_iretX C hQ d_V_count_47 rfl (by first | rfl | assumption) (Nat.le_of_ble_eq_true rfl) (Nat.le_of_ble_eq_true rfl) (VR_i hI frC_rf ⟨rfl, Or.inl ⟨rfl, rfl, rfl⟩⟩)
    · skip
      subst es_1
      refine vg_tabIn (tgt := 48) C d_V_count_1 (by decide) (by decide) rfl (by decide) ?_
      refine vg_aload_n C d_V_count_48 rfl ?_
      refine wr_get C d_V_count_49 f_V_10 rfl rfl rfl rfl ?_
      refine wr_callV (As := []) C (c_G_definitionsGiven Z hst ad σ) l_V_count_G_definitionsGiven k_V_128 rfl rfl rfl rfl rfl (Nat.le_of_ble_eq_true rfl) d_V_count_52 ⟨Nat.le_of_ble_eq_true rfl, Nat.le_of_ble_eq_true rfl⟩ (fun v_52 w_52 h_52 => ?_)
      obtain ⟨rfl, rfl⟩ := h_52
      rw [gct_P g5]
      exact vg_iretX C hQ d_V_count_55 rfl (by first | rfl | assumption) (Nat.le_of_ble_eq_true rfl) (Nat.le_of_ble_eq_true rfl) (VR_i hI frC_rf ⟨rfl, Or.inr (Or.inl ⟨rfl, rfl, rfl⟩)⟩)
    · skip
      subst es_1
      refine vg_tabIn (tgt := 56) C d_V_count_1 (by decide) (by decide) rfl (by decide) ?_
      refine vg_aload_n C d_V_count_56 rfl ?_
      refine wr_get C d_V_count_57 f_V_19 rfl rfl rfl rfl ?_
      refine wr_get C d_V_count_60 f_V_131 rfl rfl rfl rfl ?_
      rw [hC.2.1]
      exact vg_iretX C hQ d_V_count_63 rfl (by first | rfl | assumption) (Nat.le_of_ble_eq_true rfl) (Nat.le_of_ble_eq_true rfl) (VR_i hI frC_rf ⟨rfl, Or.inr (Or.inr (Or.inl ⟨rfl, rfl, rfl⟩))⟩)
    · skip
      subst es_1
      refine vg_tabIn (tgt := 64) C d_V_count_1 (by decide) (by decide) rfl (by decide) ?_
      refine vg_aload_n C d_V_count_64 rfl ?_
      refine wr_get C d_V_count_65 f_V_19 rfl rfl rfl rfl ?_
      refine wr_get C d_V_count_68 f_V_134 rfl rfl rfl rfl ?_
      rw [gd]
      exact vg_iretX C hQ d_V_count_71 rfl (by first | rfl | assumption) (Nat.le_of_ble_eq_true rfl) (Nat.le_of_ble_eq_true rfl) (VR_i hI frC_rf ⟨rfl, Or.inr (Or.inr (Or.inr (Or.inl ⟨rfl, rfl, rfl⟩)))⟩)
    · skip
      subst es_1
      refine vg_tabIn (tgt := 72) C d_V_count_1 (by decide) (by decide) rfl (by decide) ?_
      refine vg_aload_n C d_V_count_72 rfl ?_
      refine wr_get C d_V_count_73 f_V_19 rfl rfl rfl rfl ?_
      refine wr_callV (As := []) C (c_D_lastName Z hst ad σ (pd P) (pn P) (tt P) hC.2.1 hnd gd hpn htt ht16) l_V_count_D_lastName k_V_137 rfl rfl rfl rfl rfl (Nat.le_of_ble_eq_true rfl) d_V_count_76 ⟨Nat.le_of_ble_eq_true rfl, Nat.le_of_ble_eq_true rfl⟩ (fun v_76 w_76 h_76 => ?_)
      obtain ⟨rfl, rfl⟩ := h_76
      exact vg_iretX C hQ d_V_count_79 rfl (by first | rfl | assumption) (Nat.le_of_ble_eq_true rfl) (Nat.le_of_ble_eq_true rfl) (VR_i hI frC_rf ⟨rfl, Or.inr (Or.inr (Or.inr (Or.inr (Or.inl ⟨rfl, rfl, by by_cases q : pn P = 0; rw [if_pos q, if_pos q]; rw [if_neg q, if_neg q, (htT q).1]; exact (IC_RN hI (htT q).2).1⟩))))⟩)
    · skip
      subst es_1
      refine vg_tabIn (tgt := 80) C d_V_count_1 (by decide) (by decide) rfl (by decide) ?_
      refine vg_aload_n C d_V_count_80 rfl ?_
      refine wr_get C d_V_count_81 f_V_19 rfl rfl rfl rfl ?_
      refine wr_callV (As := []) C (c_D_lastOpen Z hst ad σ (pd P) (pn P) (tt P) hC.2.1 hnd gd hpn htt ht16) l_V_count_D_lastOpen k_V_87 rfl rfl rfl rfl rfl (Nat.le_of_ble_eq_true rfl) d_V_count_84 ⟨Nat.le_of_ble_eq_true rfl, Nat.le_of_ble_eq_true rfl⟩ (fun v_84 w_84 h_84 => ?_)
      obtain ⟨rfl, rfl⟩ := h_84
      exact vg_iretX C hQ d_V_count_87 rfl (by first | rfl | assumption) (Nat.le_of_ble_eq_true rfl) (Nat.le_of_ble_eq_true rfl) (VR_i hI frC_rf ⟨rfl, Or.inr (Or.inr (Or.inr (Or.inr (Or.inr (Or.inl ⟨rfl, rfl, by by_cases q : pn P = 0; rw [if_pos q, opn_0 q]; rw [if_neg q, opn_s q, (htT q).1]⟩)))))⟩)
