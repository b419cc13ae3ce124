/-! the constructors: Document, Matcher, the class -/
def DDm (Z : vg_Z) (ad : Nat → Nat) (f : Nat → va_E) (t : Nat) : Prop := f 8 = .inr (0, [.ref (ad 9), .int 0, .ref (ad 10), .int 0]) ∧ f 10 = .inl (vz_cI Z, 4, .inl (fun _ => 0)) ∧ (∃ r, f 9 = .inl (vz_cN Z, 16, .inr (.inr (.inr (.inr r)))) ∧ ∀ u, u < t → r u = some (ad (11 + 6 * u))) ∧ ∀ u, u < t → NDn Z ad f (11 + 6 * u) (12 + 6 * u)
def TDn (Z : vg_Z) (ad : Nat → Nat) (f : Nat → va_E) (B1 B2 : Nat → Int64) : Prop := f 107 = .inr (2, [.ref (ad 1), .ref (ad 8), .ref (ad 108), .ref (ad 109), .ref (ad 110), .int 0, .ref (ad 111)]) ∧ f 108 = .inl (vz_cL Z, 64, .inr (.inl B1)) ∧ f 109 = .inl (vz_cL Z, 64, .inr (.inl B2)) ∧ f 110 = .inl (vz_cL Z, 320, .inr (.inl (fun _ => 0))) ∧ NDn Z ad f 111 112
section MON
variable {Z : vg_Z} {ad ad' : Nat → Nat} {f f' : Nat → va_E} {K : Nat} (ha : ∀ j, j < K → ad' j = ad j) (hf : ∀ j, j < K → f' j = f j)
theorem NDn_x {i k : Nat} (ha : ∀ j, k ≤ j → j < k + 5 → ad' j = ad j) (hf : ∀ j, j = i ∨ (k ≤ j ∧ j < k + 5) → f' j = f j) (h : NDn Z ad f i k) : NDn Z ad' f' i k := by
  unfold NDn
  rw [hf i (Or.inl rfl), hf k (by omega), hf (k + 1) (by omega), hf (k + 2) (by omega), hf (k + 3) (by omega), hf (k + 4) (by omega), ha k (by omega) (by omega), ha (k + 1) (by omega) (by omega), ha (k + 2) (by omega) (by omega), ha (k + 3) (by omega) (by omega), ha (k + 4) (by omega) (by omega)]
  exact h
theorem NDn_m {i k : Nat} (ha : ∀ j, j < K → ad' j = ad j) (hf : ∀ j, j < K → f' j = f j) (hi : i < K) (hk : k + 5 ≤ K) (h : NDn Z ad f i k) : NDn Z ad' f' i k := by
  unfold NDn
  rw [hf i hi, hf k (by omega), hf (k + 1) (by omega), hf (k + 2) (by omega), hf (k + 3) (by omega), hf (k + 4) (by omega), ha k (by omega), ha (k + 1) (by omega), ha (k + 2) (by omega), ha (k + 3) (by omega), ha (k + 4) (by omega)]
  exact h
theorem GDn_m (ha : ∀ j, j < K → ad' j = ad j) (hf : ∀ j, j < K → f' j = f j) (hK : 8 ≤ K) (h : GDn Z ad f) : GDn Z ad' f' := by
  obtain ⟨h1, h2, h3, h4⟩ := h
  refine ⟨?_, fun j a b => by rw [hf j (by omega)]; exact h2 j a b, by rw [hf 6 (by omega)]; exact h3, by rw [hf 7 (by omega)]; exact h4⟩
  rw [hf 1 (by omega), ha 2 (by omega), ha 3 (by omega), ha 4 (by omega), ha 5 (by omega), ha 6 (by omega), ha 7 (by omega)]
  exact h1
theorem DDm_m {t : Nat} (ha : ∀ j, j < K → ad' j = ad j) (hf : ∀ j, j < K → f' j = f j) (hK : 11 + 6 * t ≤ K) (h : DDm Z ad f t) : DDm Z ad' f' t := by
  obtain ⟨h1, h2, ⟨r, h3, h4⟩, h5⟩ := h
  refine ⟨?_, by rw [hf 10 (by omega)]; exact h2, ⟨r, by rw [hf 9 (by omega)]; exact h3, fun u hu => by rw [ha _ (by omega)]; exact h4 u hu⟩, fun u hu => NDn_m ha hf (by omega) (by omega) (h5 u hu)⟩
  rw [hf 8 (by omega), ha 9 (by omega), ha 10 (by omega)]
  exact h1
theorem TDn_m {B1 B2 : Nat → Int64} (ha : ∀ j, j < K → ad' j = ad j) (hf : ∀ j, j < K → f' j = f j) (hK : 117 ≤ K) (h : TDn Z ad f B1 B2) : TDn Z ad' f' B1 B2 := by
  obtain ⟨h1, h2, h3, h4, h5⟩ := h
  refine ⟨?_, by rw [hf 108 (by omega)]; exact h2, by rw [hf 109 (by omega)]; exact h3, by rw [hf 110 (by omega)]; exact h4, NDn_m ha hf (by omega) (by omega) h5⟩
  rw [hf 107 (by omega), ha 1 (by omega), ha 8 (by omega), ha 108 (by omega), ha 109 (by omega), ha 110 (by omega), ha 111 (by omega)]
  exact h1
end MON
theorem va_up_s {r : Nat → Option Nat} {i : Nat} {v : Option Nat} : va_up r i v i = v := by
  unfold va_up
  exact if_pos rfl
theorem va_up_n {r : Nat → Option Nat} {i j : Nat} {v : Option Nat} (h : j ≠ i) : va_up r i v j = r j := by
  unfold va_up
  exact if_neg h
set_option maxHeartbeats 4000000 in
set_option maxRecDepth 100000 in
theorem lp_D_init {Z : vg_Z} (hZ : vg_ZP Z) {G : vg_G} {post : Option Value → va_W → Prop} (C : vg_C Z M_D_init G) (hQ : vg_Rt Z G 98 500 post) (a : Nat) (ad0 : Nat → Nat) (f0 : Nat → va_E) (hp : ∀ ad f, (∀ j, j < 9 → ad j = ad0 j) → (∀ j, j < 8 → f j = f0 j) → DDm Z ad f 16 → post none (wl 107 ad f)) : ∀ (n2 t : Nat) (ad : Nat → Nat) (f : Nat → va_E) (hlt : 16 < t + n2) (ht : t ≤ 16), ad 8 = a → (∀ j, j < 9 → ad j = ad0 j) → (∀ j, j < 8 → f j = f0 j) → DDm Z ad f t → vg_K Z M_D_init G (2 + 6 * t) (20 + 30 * t) 22 [(1, .int (nI t)), (0, .ref a)] [] (wl (11 + 6 * t) ad f) := by
  have hst := vg_ZP_St hZ
  intro n2
  induction n2 with
  | zero =>
    intro t ad f hlt ht
    exact absurd hlt (by omega)
  | succ n2 ih =>
    intro t ad f hlt ht ha hA hF hD
    refine vg_iload_n C d_D_init_22 rfl ?_
    refine vg_bipush (v := 16) C d_D_init_23 (by decide) ?_
    refine vg_icmp_ge (tgt := 47) C d_D_init_25 (by decide) (fun c => ?_) (fun c => ?_)
    · rw [show (16 : Int32) = nI 16 from rfl, nI_leI (by decide) (by omega)] at c
      obtain rfl : t = 16 := by omega
      exact vg_return C hQ d_D_init_47 rfl (hp ad f hA hF hD)
    · rw [show (16 : Int32) = nI 16 from rfl, nI_leI (by decide) (by omega)] at c
      obtain ⟨h1, h2, ⟨r, h3, h4⟩, h5⟩ := id hD
      refine vg_aload_n C d_D_init_28 rfl ?_
      refine wl_get C 8 (by omega) d_D_init_29 f_D_11 ha h1 rfl ?_
      refine vg_iload_n C d_D_init_32 rfl ?_
      refine wl_newo C nw_D_9 d_D_init_33 ⟨by show 2 + 6 * t + 1 ≤ 98; omega, by show 20 + 30 * t + 9 ≤ 500; omega⟩ (fun ad1 k1 => ?_)
      refine vg_dup C d_D_init_36 rfl ?_
      refine vg_callIN (As := []) C (c_N_init Z hst (11 + 6 * t + 1) (11 + 6 * t) (by omega) ad1 _ (ad1 (11 + 6 * t)) rfl fu_s) l_D_init_N_init rfl k_D_21 rfl rfl (Nat.le_of_ble_eq_true rfl) d_D_init_37 ⟨by show 2 + 6 * t + 1 + 5 ≤ 98; omega, by show 20 + 30 * t + 9 + 21 ≤ 500; omega⟩ (fun v w h => ?_)
      obtain ⟨rfl, ad2, f2, k2, rfl, k3, k4⟩ := h
      have kk2 : ∀ j, j < 11 + 6 * t → ad2 j = ad j := fun j hj => (k2 j (by omega)).trans (k1 j hj)
      have kf2 : ∀ j, j < 11 + 6 * t → f2 j = f j := fun j hj => (k3 j (by omega) (by omega)).trans (fu_n (by omega))
      refine wl_aast C 9 (11 + 6 * t) (by omega) (by omega) d_D_init_40 (kk2 9 (by omega)) (k2 _ (by omega)) ((kf2 9 (by omega)).trans h3) k4.1 (vp_in_nI (by omega) (by decide)) ?_
      rw [nI_clamp (by omega)]
      refine vg_iinc (v := nI (t + 1)) C d_D_init_41 rfl (nI_1 t) (Nat.le_of_ble_eq_true rfl) rfl ?_
      refine vg_goto (tgt := 22) C d_D_init_44 (by decide) ?_
      have hD2 := DDm_m kk2 kf2 (Nat.le_refl _) hD
      obtain ⟨e1, e2, ⟨r2, e3, e4⟩, e5⟩ := hD2
      have er : r2 = r := by
        have z := e3.symm.trans ((kf2 9 (by omega)).trans h3)
        injection z with z1
        have z2 := congrArg (fun q => q.2.2) z1
        injection z2 with z3
        injection z3 with z4
        injection z4 with z5
        injection z5
      subst er
      have K := ih (t + 1) ad2 (fu f2 9 (.inl (vz_cN Z, 16, .inr (.inr (.inr (.inr (va_up r2 t (some (ad1 (11 + 6 * t)))))))))) (by omega) (by omega) ((kk2 8 (by omega)).trans ha) (fun j hj => (kk2 j (by omega)).trans (hA j hj)) (fun j hj => (fu_n (by omega)).trans ((kf2 j (by omega)).trans (hF j hj))) ⟨(fu_n (by omega)).trans e1, (fu_n (by omega)).trans e2, ⟨_, fu_s, fun u hu => ?_⟩, fun u hu => ?_⟩
      · rw [show 2 + 6 * (t + 1) = 2 + 6 * t + 1 + 5 by omega, show 20 + 30 * (t + 1) = 20 + 30 * t + 9 + 21 by omega, show 11 + 6 * (t + 1) = 11 + 6 * t + 1 + 5 by omega] at K
        exact K
      · by_cases q : u = t
        · rw [q, va_up_s, k2 _ (by omega)]
        · rw [va_up_n q]
          exact e4 u (by omega)
      · by_cases q : u = t
        · subst q
          have k5 : NDn Z ad2 f2 (11 + 6 * u) (12 + 6 * u) := by
            rw [show 12 + 6 * u = 11 + 6 * u + 1 by omega]
            exact k4
          exact NDn_x (fun j _ _ => rfl) (fun j hj => fu_n (by omega)) k5
        · exact NDn_x (fun j _ _ => rfl) (fun j hj => fu_n (by omega)) (e5 u (by omega))
set_option maxHeartbeats 4000000 in
set_option maxRecDepth 100000 in
theorem c_D_init (Z : vg_Z) (hZ : vg_ZP Z) (ad0 : Nat → Nat) (f0 : Nat → va_E) (a : Nat) (ha0 : ad0 8 = a) (hf : f0 8 = .inr (0, [.null, .int 0, .null, .int 0])) : vg_T Z M_D_init 98 500 [.ref a] (wl 9 ad0 f0) (fun v w => v = none ∧ ∃ ad f, (∀ j, j < 9 → ad j = ad0 j) ∧ w = wl 107 ad f ∧ (∀ j, j < 8 → f j = f0 j) ∧ DDm Z ad f 16) := by
  have hst := vg_ZP_St hZ
  refine vg_enter hst (by decide) rfl (Nat.le_of_ble_eq_true rfl) ?_
  intro G C hQ
  show vg_K Z M_D_init G 0 0 0 [(0, .ref a)] [] (wl 9 ad0 f0)
  refine vg_aload_n C d_D_init_0 rfl ?_
  refine vg_objI C ob_D d_D_init_1 ⟨Nat.le_of_ble_eq_true rfl, Nat.le_of_ble_eq_true rfl⟩ ?_
  refine vg_aload_n C d_D_init_4 rfl ?_
  refine vg_bipush (v := 16) C d_D_init_5 (by decide) ?_
  refine wl_anew C hZ (N := 16) cn_D_9 (by decide) (by decide) (by decide) d_D_init_7 ⟨Nat.le_of_ble_eq_true rfl, Nat.le_of_ble_eq_true rfl⟩ (fun ad1 h1 => ?_)
  have ha1 : ad1 8 = a := (h1 8 (by decide)).trans ha0
  refine wl_putF (fs' := [.ref (ad1 9), .int 0, .null, .int 0]) C 8 (by decide) d_D_init_10 ff_D_11 p_D_0 rfl ha1 ((fu_n (by decide)).trans hf) rfl rfl (Nat.le_of_ble_eq_true rfl) rfl ?_
  refine vg_aload_n C d_D_init_13 rfl ?_
  refine vg_iconst (v := 4) C d_D_init_14 (by decide) ?_
  refine wl_newa C 0 (atype := .int) (a0 := (4, .inl (fun _ => 0))) ar_int rfl rfl (fun _ => rfl) (by decide) (by decide) (by decide) d_D_init_15 ⟨Nat.le_of_ble_eq_true rfl, Nat.le_of_ble_eq_true rfl⟩ (fun ad2 h2 => ?_)
  have ha2 : ad2 8 = a := (h2 8 (by decide)).trans ha1
  refine wl_putF (fs' := [.ref (ad1 9), .int 0, .ref (ad2 10), .int 0]) C 8 (by decide) d_D_init_17 ff_D_17 p_D_2 rfl ha2 ((fu_n (by decide)).trans fu_s) rfl rfl (Nat.le_of_ble_eq_true rfl) rfl ?_
  refine vg_iconst (v := 0) C d_D_init_20 (by decide) ?_
  refine vg_istore_n C d_D_init_21 (Nat.le_of_ble_eq_true rfl) rfl ?_
  refine lp_D_init hZ C hQ a ad0 f0 (fun ad f k1 k2 k3 => ⟨rfl, ad, f, k1, rfl, k2, k3⟩) 17 0 ad2 _ (by omega) (by omega) ha2 (fun j hj => (h2 j (by omega)).trans (h1 j hj)) (fun j hj => by simp (disch := omega) only [fu_n]) ⟨?_, ?_, ⟨_, (fu_n (by decide)).trans ((fu_n (by decide)).trans ((fu_n (by decide)).trans fu_s)), fun u hu => absurd hu (by omega)⟩, fun u hu => absurd hu (by omega)⟩
  · rw [fu_s, h2 9 (by decide)]
  · rw [fu_n (by decide), fu_s]

