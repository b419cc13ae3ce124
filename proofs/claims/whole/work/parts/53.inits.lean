/-! the constructors: Node, Grammar, the reference -/
def NDn (Z : vg_Z) (ad : Nat → Nat) (f : Nat → va_E) (i k : Nat) : Prop := f i = .inr (3, [.int 0, .ref (ad k), .ref (ad (k + 1)), .ref (ad (k + 2)), .int 0, .ref (ad (k + 3)), .ref (ad (k + 4)), .int 0, .long 0]) ∧ f k = .inl (vz_cI Z, 3, .inl (fun _ => 0)) ∧ f (k + 1) = .inl (vz_cI Z, 3, .inl (fun _ => 0)) ∧ f (k + 2) = .inl (vz_cL Z, 3, .inr (.inl (fun _ => 0))) ∧ f (k + 3) = .inl (vz_cI Z, 6, .inl (fun _ => 0)) ∧ f (k + 4) = .inl (vz_cI Z, 6, .inl (fun _ => 0))
def gm : Nat → Int32 := upd (upd (upd (upd (fun _ => 0) 0 (-1)) 1 (-1)) 2 (-1)) 3 (-1)
def GDn (Z : vg_Z) (ad : Nat → Nat) (f : Nat → va_E) : Prop := f 1 = .inr (1, [.ref (ad 2), .ref (ad 3), .ref (ad 4), .ref (ad 5), .int 0, .ref (ad 6), .ref (ad 7), .int 0, .long 0]) ∧ (∀ j, 2 ≤ j → j < 6 → f j = .inl (vz_cI Z, 40, .inl (fun _ => 0))) ∧ f 6 = .inl (vz_cI Z, 4, .inl gm) ∧ f 7 = .inl (vz_cI Z, 40, .inl (fun _ => 0))
theorem in2 {P : Nat → Prop} (h2 : P 2) (h3 : P 3) (h4 : P 4) (h5 : P 5) : ∀ j, 2 ≤ j → j < 6 → P j := by
  intro j a b
  rcases (show j = 2 ∨ j = 3 ∨ j = 4 ∨ j = 5 by omega) with rfl | rfl | rfl | rfl
  · exact h2
  · exact h3
  · exact h4
  · exact h5
set_option maxHeartbeats 4000000 in
set_option maxRecDepth 100000 in
theorem c_N_init (Z : vg_Z) (hst : vg_St Z) (k i : Nat) (hi : i < k) (ad0 : Nat → Nat) (f0 : Nat → va_E) (a : Nat) (ha0 : ad0 i = a) (hf : f0 i = .inr (3, [.int 0, .null, .null, .null, .int 0, .null, .null, .int 0, .long 0])) : vg_T Z M_N_init 5 21 [.ref a] (wl k ad0 f0) (fun v w => v = none ∧ ∃ ad f, (∀ j, j < k → ad j = ad0 j) ∧ w = wl (k + 5) ad f ∧ (∀ j, j < k → j ≠ i → f j = f0 j) ∧ NDn Z ad f i k) := by
  refine vg_enter hst (by decide) rfl (Nat.le_of_ble_eq_true rfl) ?_
  intro G C hQ
  show vg_K Z M_N_init G 0 0 0 [(0, .ref a)] [] (wl k ad0 f0)
  refine vg_aload_n C d_N_init_0 rfl ?_
  refine vg_objI C ob_N d_N_init_1 ⟨Nat.le_of_ble_eq_true rfl, Nat.le_of_ble_eq_true rfl⟩ ?_
  refine vg_aload_n C d_N_init_4 rfl ?_
  refine vg_iconst (v := 3) C d_N_init_5 (by decide) ?_
  refine wl_newa C 0 (atype := .int) (a0 := (3, .inl (fun _ => 0))) ar_int rfl rfl (fun _ => rfl) (by decide) (by decide) (by decide) d_N_init_6 ⟨Nat.le_of_ble_eq_true rfl, Nat.le_of_ble_eq_true rfl⟩ (fun ad1 h1 => ?_)
  have ha1 : ad1 i = a := (h1 i (by omega)).trans ha0
  clear ha0
  refine wl_putF (fs' := [.int 0, .ref (ad1 (k + 0)), .null, .null, .int 0, .null, .null, .int 0, .long 0]) C i (by omega) d_N_init_8 ff_N_9 p_N_1 rfl ha1 ((fu_n (by omega)).trans hf) rfl rfl (Nat.le_of_ble_eq_true rfl) rfl ?_
  refine vg_aload_n C d_N_init_11 rfl ?_
  refine vg_iconst (v := 3) C d_N_init_12 (by decide) ?_
  refine wl_newa C 0 (atype := .int) (a0 := (3, .inl (fun _ => 0))) ar_int rfl rfl (fun _ => rfl) (by decide) (by decide) (by decide) d_N_init_13 ⟨Nat.le_of_ble_eq_true rfl, Nat.le_of_ble_eq_true rfl⟩ (fun ad2 h2 => ?_)
  have ha2 : ad2 i = a := (h2 i (by omega)).trans ha1
  clear ha1
  refine wl_putF (fs' := [.int 0, .ref (ad1 (k + 0)), .ref (ad2 (k + 1)), .null, .int 0, .null, .null, .int 0, .long 0]) C i (by omega) d_N_init_15 ff_N_15 p_N_2 rfl ha2 ((fu_n (by omega)).trans fu_s) rfl rfl (Nat.le_of_ble_eq_true rfl) rfl ?_
  refine vg_aload_n C d_N_init_18 rfl ?_
  refine vg_iconst (v := 3) C d_N_init_19 (by decide) ?_
  refine wl_newa C 1 (atype := .long) (a0 := (3, .inr (.inl (fun _ => 0)))) ar_long rfl rfl (fun _ => rfl) (by decide) (by decide) (by decide) d_N_init_20 ⟨Nat.le_of_ble_eq_true rfl, Nat.le_of_ble_eq_true rfl⟩ (fun ad3 h3 => ?_)
  have ha3 : ad3 i = a := (h3 i (by omega)).trans ha2
  clear ha2
  refine wl_putF (fs' := [.int 0, .ref (ad1 (k + 0)), .ref (ad2 (k + 1)), .ref (ad3 (k + 2)), .int 0, .null, .null, .int 0, .long 0]) C i (by omega) d_N_init_22 ff_N_18 p_N_3 rfl ha3 ((fu_n (by omega)).trans fu_s) rfl rfl (Nat.le_of_ble_eq_true rfl) rfl ?_
  refine vg_aload_n C d_N_init_25 rfl ?_
  refine vg_bipush (v := 6) C d_N_init_26 (by decide) ?_
  refine wl_newa C 0 (atype := .int) (a0 := (6, .inl (fun _ => 0))) ar_int rfl rfl (fun _ => rfl) (by decide) (by decide) (by decide) d_N_init_28 ⟨Nat.le_of_ble_eq_true rfl, Nat.le_of_ble_eq_true rfl⟩ (fun ad4 h4 => ?_)
  have ha4 : ad4 i = a := (h4 i (by omega)).trans ha3
  clear ha3
  refine wl_putF (fs' := [.int 0, .ref (ad1 (k + 0)), .ref (ad2 (k + 1)), .ref (ad3 (k + 2)), .int 0, .ref (ad4 (k + 3)), .null, .int 0, .long 0]) C i (by omega) d_N_init_30 ff_N_22 p_N_5 rfl ha4 ((fu_n (by omega)).trans fu_s) rfl rfl (Nat.le_of_ble_eq_true rfl) rfl ?_
  refine vg_aload_n C d_N_init_33 rfl ?_
  refine vg_bipush (v := 6) C d_N_init_34 (by decide) ?_
  refine wl_newa C 0 (atype := .int) (a0 := (6, .inl (fun _ => 0))) ar_int rfl rfl (fun _ => rfl) (by decide) (by decide) (by decide) d_N_init_36 ⟨Nat.le_of_ble_eq_true rfl, Nat.le_of_ble_eq_true rfl⟩ (fun ad5 h5 => ?_)
  have ha5 : ad5 i = a := (h5 i (by omega)).trans ha4
  clear ha4
  refine wl_putF (fs' := [.int 0, .ref (ad1 (k + 0)), .ref (ad2 (k + 1)), .ref (ad3 (k + 2)), .int 0, .ref (ad4 (k + 3)), .ref (ad5 (k + 4)), .int 0, .long 0]) C i (by omega) d_N_init_38 ff_N_25 p_N_6 rfl ha5 ((fu_n (by omega)).trans fu_s) rfl rfl (Nat.le_of_ble_eq_true rfl) rfl ?_
  have e0 : ad5 (k + 0) = ad1 (k + 0) := by rw [h5 (k + 0) (by omega), h4 (k + 0) (by omega), h3 (k + 0) (by omega), h2 (k + 0) (by omega)]
  have e1 : ad5 (k + 1) = ad2 (k + 1) := by rw [h5 (k + 1) (by omega), h4 (k + 1) (by omega), h3 (k + 1) (by omega)]
  have e2 : ad5 (k + 2) = ad3 (k + 2) := by rw [h5 (k + 2) (by omega), h4 (k + 2) (by omega)]
  have e3 : ad5 (k + 3) = ad4 (k + 3) := by rw [h5 (k + 3) (by omega)]
  refine vg_return C hQ d_N_init_41 rfl ⟨rfl, ad5, _, fun j hj => ?_, rfl, fun j hj hji => ?_, ?_, ?_, ?_, ?_, ?_, ?_⟩
  · rw [h5 j (by omega), h4 j (by omega), h3 j (by omega), h2 j (by omega), h1 j (by omega)]
  · simp (disch := omega) only [fu_s, fu_n]
  · have e0 : ad5 k = ad1 k := e0
    rw [e0, e1, e2, e3]
    simp (disch := omega) only [fu_s, fu_n]
    rfl
  · simp (disch := omega) only [fu_s, fu_n]
  · simp (disch := omega) only [fu_s, fu_n]
  · simp (disch := omega) only [fu_s, fu_n]
  · simp (disch := omega) only [fu_s, fu_n]
  · simp (disch := omega) only [fu_s, fu_n]
set_option maxHeartbeats 4000000 in
set_option maxRecDepth 100000 in
theorem c_G_init (Z : vg_Z) (hst : vg_St Z) (ad0 : Nat → Nat) (f0 : Nat → va_E) (a : Nat) (ha0 : ad0 1 = a) (hf : f0 1 = .inr (1, [.null, .null, .null, .null, .int 0, .null, .null, .int 0, .long 0])) : vg_T Z M_G_init 6 204 [.ref a] (wl 2 ad0 f0) (fun v w => v = none ∧ ∃ ad f, (∀ j, j < 2 → ad j = ad0 j) ∧ w = wl 8 ad f ∧ (∀ j, j < 1 → f j = f0 j) ∧ GDn Z ad f) := by
  refine vg_enter hst (by decide) rfl (Nat.le_of_ble_eq_true rfl) ?_
  intro G C hQ
  show vg_K Z M_G_init G 0 0 0 [(0, .ref a)] [] (wl 2 ad0 f0)
  refine vg_aload_n C d_G_init_0 rfl ?_
  refine vg_objI C ob_G d_G_init_1 ⟨Nat.le_of_ble_eq_true rfl, Nat.le_of_ble_eq_true rfl⟩ ?_
  refine vg_aload_n C d_G_init_4 rfl ?_
  refine vg_bipush (v := 40) C d_G_init_5 (by decide) ?_
  refine wl_newa C 0 (atype := .int) (a0 := (40, .inl (fun _ => 0))) ar_int rfl rfl (fun _ => rfl) (by decide) (by decide) (by decide) d_G_init_7 ⟨Nat.le_of_ble_eq_true rfl, Nat.le_of_ble_eq_true rfl⟩ (fun ad1 h1 => ?_)
  have ha1 : ad1 1 = a := (h1 1 (by decide)).trans ha0
  clear ha0
  refine wl_putF (fs' := [.ref (ad1 2), .null, .null, .null, .int 0, .null, .null, .int 0, .long 0]) C 1 (by decide) d_G_init_9 ff_G_9 p_G_0 rfl ha1 ((fu_n (by decide)).trans hf) rfl rfl (Nat.le_of_ble_eq_true rfl) rfl ?_
  refine vg_aload_n C d_G_init_12 rfl ?_
  refine vg_bipush (v := 40) C d_G_init_13 (by decide) ?_
  refine wl_newa C 0 (atype := .int) (a0 := (40, .inl (fun _ => 0))) ar_int rfl rfl (fun _ => rfl) (by decide) (by decide) (by decide) d_G_init_15 ⟨Nat.le_of_ble_eq_true rfl, Nat.le_of_ble_eq_true rfl⟩ (fun ad2 h2 => ?_)
  have ha2 : ad2 1 = a := (h2 1 (by decide)).trans ha1
  clear ha1
  refine wl_putF (fs' := [.ref (ad1 2), .ref (ad2 3), .null, .null, .int 0, .null, .null, .int 0, .long 0]) C 1 (by decide) d_G_init_17 ff_G_15 p_G_1 rfl ha2 ((fu_n (by decide)).trans fu_s) rfl rfl (Nat.le_of_ble_eq_true rfl) rfl ?_
  refine vg_aload_n C d_G_init_20 rfl ?_
  refine vg_bipush (v := 40) C d_G_init_21 (by decide) ?_
  refine wl_newa C 0 (atype := .int) (a0 := (40, .inl (fun _ => 0))) ar_int rfl rfl (fun _ => rfl) (by decide) (by decide) (by decide) d_G_init_23 ⟨Nat.le_of_ble_eq_true rfl, Nat.le_of_ble_eq_true rfl⟩ (fun ad3 h3 => ?_)
  have ha3 : ad3 1 = a := (h3 1 (by decide)).trans ha2
  clear ha2
  refine wl_putF (fs' := [.ref (ad1 2), .ref (ad2 3), .ref (ad3 4), .null, .int 0, .null, .null, .int 0, .long 0]) C 1 (by decide) d_G_init_25 ff_G_18 p_G_2 rfl ha3 ((fu_n (by decide)).trans fu_s) rfl rfl (Nat.le_of_ble_eq_true rfl) rfl ?_
  refine vg_aload_n C d_G_init_28 rfl ?_
  refine vg_bipush (v := 40) C d_G_init_29 (by decide) ?_
  refine wl_newa C 0 (atype := .int) (a0 := (40, .inl (fun _ => 0))) ar_int rfl rfl (fun _ => rfl) (by decide) (by decide) (by decide) d_G_init_31 ⟨Nat.le_of_ble_eq_true rfl, Nat.le_of_ble_eq_true rfl⟩ (fun ad4 h4 => ?_)
  have ha4 : ad4 1 = a := (h4 1 (by decide)).trans ha3
  clear ha3
  refine wl_putF (fs' := [.ref (ad1 2), .ref (ad2 3), .ref (ad3 4), .ref (ad4 5), .int 0, .null, .null, .int 0, .long 0]) C 1 (by decide) d_G_init_33 ff_G_21 p_G_3 rfl ha4 ((fu_n (by decide)).trans fu_s) rfl rfl (Nat.le_of_ble_eq_true rfl) rfl ?_
  refine vg_aload_n C d_G_init_36 rfl ?_
  refine vg_iconst (v := 4) C d_G_init_37 (by decide) ?_
  refine wl_newa C 0 (atype := .int) (a0 := (4, .inl (fun _ => 0))) ar_int rfl rfl (fun _ => rfl) (by decide) (by decide) (by decide) d_G_init_38 ⟨Nat.le_of_ble_eq_true rfl, Nat.le_of_ble_eq_true rfl⟩ (fun ad5 h5 => ?_)
  have ha5 : ad5 1 = a := (h5 1 (by decide)).trans ha4
  clear ha4
  refine vg_dup C d_G_init_40 rfl ?_
  refine vg_iconst (v := 0) C d_G_init_41 (by decide) ?_
  refine vg_iconst (v := (-1)) C d_G_init_42 (by decide) ?_
  refine wl_iast C 6 (by decide) d_G_init_43 rfl fu_s (by exact (by decide : ¬ ((0 : Int32) < 0 ∨ 4 ≤ (0 : Int32).toNatClampNeg))) ?_
  refine vg_dup C d_G_init_44 rfl ?_
  refine vg_iconst (v := 1) C d_G_init_45 (by decide) ?_
  refine vg_iconst (v := (-1)) C d_G_init_46 (by decide) ?_
  refine wl_iast C 6 (by decide) d_G_init_47 rfl fu_s (by exact (by decide : ¬ ((1 : Int32) < 0 ∨ 4 ≤ (1 : Int32).toNatClampNeg))) ?_
  refine vg_dup C d_G_init_48 rfl ?_
  refine vg_iconst (v := 2) C d_G_init_49 (by decide) ?_
  refine vg_iconst (v := (-1)) C d_G_init_50 (by decide) ?_
  refine wl_iast C 6 (by decide) d_G_init_51 rfl fu_s (by exact (by decide : ¬ ((2 : Int32) < 0 ∨ 4 ≤ (2 : Int32).toNatClampNeg))) ?_
  refine vg_dup C d_G_init_52 rfl ?_
  refine vg_iconst (v := 3) C d_G_init_53 (by decide) ?_
  refine vg_iconst (v := (-1)) C d_G_init_54 (by decide) ?_
  refine wl_iast C 6 (by decide) d_G_init_55 rfl fu_s (by exact (by decide : ¬ ((3 : Int32) < 0 ∨ 4 ≤ (3 : Int32).toNatClampNeg))) ?_
  refine wl_putF (fs' := [.ref (ad1 2), .ref (ad2 3), .ref (ad3 4), .ref (ad4 5), .int 0, .ref (ad5 6), .null, .int 0, .long 0]) C 1 (by decide) d_G_init_56 ff_G_24 p_G_5 rfl ha5 ((fu_n (by decide)).trans ((fu_n (by decide)).trans ((fu_n (by decide)).trans ((fu_n (by decide)).trans ((fu_n (by decide)).trans fu_s))))) rfl rfl (Nat.le_of_ble_eq_true rfl) rfl ?_
  refine vg_aload_n C d_G_init_59 rfl ?_
  refine vg_bipush (v := 40) C d_G_init_60 (by decide) ?_
  refine wl_newa C 0 (atype := .int) (a0 := (40, .inl (fun _ => 0))) ar_int rfl rfl (fun _ => rfl) (by decide) (by decide) (by decide) d_G_init_62 ⟨Nat.le_of_ble_eq_true rfl, Nat.le_of_ble_eq_true rfl⟩ (fun ad6 h6 => ?_)
  have ha6 : ad6 1 = a := (h6 1 (by decide)).trans ha5
  clear ha5
  refine wl_putF (fs' := [.ref (ad1 2), .ref (ad2 3), .ref (ad3 4), .ref (ad4 5), .int 0, .ref (ad5 6), .ref (ad6 7), .int 0, .long 0]) C 1 (by decide) d_G_init_64 ff_G_27 p_G_6 rfl ha6 ((fu_n (by decide)).trans fu_s) rfl rfl (Nat.le_of_ble_eq_true rfl) rfl ?_
  have e0 : ad6 2 = ad1 2 := by rw [h6 2 (by decide), h5 2 (by decide), h4 2 (by decide), h3 2 (by decide), h2 2 (by decide)]
  have e1 : ad6 3 = ad2 3 := by rw [h6 3 (by decide), h5 3 (by decide), h4 3 (by decide), h3 3 (by decide)]
  have e2 : ad6 4 = ad3 4 := by rw [h6 4 (by decide), h5 4 (by decide), h4 4 (by decide)]
  have e3 : ad6 5 = ad4 5 := by rw [h6 5 (by decide), h5 5 (by decide)]
  have e4 : ad6 6 = ad5 6 := by rw [h6 6 (by decide)]
  refine vg_return C hQ d_G_init_67 rfl ⟨rfl, ad6, _, fun j hj => ?_, rfl, fun j hj => ?_, ?_, in2 ?_ ?_ ?_ ?_, ?_, ?_⟩
  · rw [h6 j (by omega), h5 j (by omega), h4 j (by omega), h3 j (by omega), h2 j (by omega), h1 j (by omega)]
  · simp (disch := omega) only [fu_s, fu_n]
  · rw [e0, e1, e2, e3, e4]
    simp (disch := omega) only [fu_s, fu_n]
  · simp (disch := omega) only [fu_s, fu_n]
  · simp (disch := omega) only [fu_s, fu_n]
  · simp (disch := omega) only [fu_s, fu_n]
  · simp (disch := omega) only [fu_s, fu_n]
  · simp (disch := omega) only [fu_s, fu_n]
    rfl
  · simp (disch := omega) only [fu_s, fu_n]
def RDn (Z : vg_Z) (ad : Nat → Nat) (f : Nat → va_E) : Prop := f 117 = .inr (5, [.int 0, .ref (ad 118), .ref (ad 119), .ref (ad 120), .ref (ad 121), .int 0, .ref (ad 122), .ref (ad 123), .ref (ad 124), .ref (ad 125), .ref (ad 126), .ref (ad 127), .ref (ad 128), .ref (ad 129), .ref (ad 130), .int 0, .int (-1), .ref (ad 131), .ref (ad 132), .ref (ad 133), .ref (ad 134), .ref (ad 135), .int 0]) ∧ f 118 = .inl (vz_cI Z, 40, .inl (fun _ => 0)) ∧ f 119 = .inl (vz_cI Z, 40, .inl (fun _ => 0)) ∧ f 120 = .inl (vz_cI Z, 40, .inl (fun _ => 0)) ∧ f 121 = .inl (vz_cI Z, 40, .inl (fun _ => 0)) ∧ f 122 = .inl (vz_cI Z, 4, .inl gm) ∧ f 123 = .inl (vz_cI Z, 16, .inl (fun _ => 0)) ∧ f 124 = .inl (vz_cI Z, 16, .inl (fun _ => 0)) ∧ f 125 = .inl (vz_cI Z, 16, .inl (fun _ => 0)) ∧ f 126 = .inl (vz_cB Z, 96, .inl (fun _ => 0)) ∧ f 127 = .inl (vz_cI Z, 96, .inl (fun _ => 0)) ∧ f 128 = .inl (vz_cI Z, 96, .inl (fun _ => 0)) ∧ f 129 = .inl (vz_cI Z, 96, .inl (fun _ => 0)) ∧ f 130 = .inl (vz_cI Z, 16, .inl (fun _ => 0)) ∧ f 131 = .inl (vz_cL Z, 2560, .inr (.inl (fun _ => 0))) ∧ f 132 = .inl (vz_cB Z, 640, .inl (fun _ => 0)) ∧ f 133 = .inl (vz_cB Z, 40, .inl (fun _ => 0)) ∧ f 134 = .inl (vz_cB Z, 40, .inl (fun _ => 0)) ∧ f 135 = .inl (vz_cB Z, 240, .inl (fun _ => 0))
set_option maxHeartbeats 4000000 in
set_option maxRecDepth 100000 in
theorem c_R_init (Z : vg_Z) (hst : vg_St Z) (ad0 : Nat → Nat) (f0 : Nat → va_E) (a : Nat) (ha0 : ad0 117 = a) (hf : f0 117 = .inr (5, [.int 0, .null, .null, .null, .null, .int 0, .null, .null, .null, .null, .null, .null, .null, .null, .null, .int 0, .int 0, .null, .null, .null, .null, .null, .int 0])) : vg_T Z M_R_init 18 4132 [.ref a] (wl 118 ad0 f0) (fun v w => v = none ∧ ∃ ad f, (∀ j, j < 118 → ad j = ad0 j) ∧ w = wl 136 ad f ∧ (∀ j, j < 117 → f j = f0 j) ∧ RDn Z ad f) := by
  refine vg_enter hst (by decide) rfl (Nat.le_of_ble_eq_true rfl) ?_
  intro G C hQ
  show vg_K Z M_R_init G 0 0 0 [(0, .ref a)] [] (wl 118 ad0 f0)
  refine vg_aload_n C d_R_init_0 rfl ?_
  refine vg_objI C ob_R d_R_init_1 ⟨Nat.le_of_ble_eq_true rfl, Nat.le_of_ble_eq_true rfl⟩ ?_
  refine vg_aload_n C d_R_init_4 rfl ?_
  refine vg_bipush (v := 40) C d_R_init_5 (by decide) ?_
  refine wl_newa C 0 (atype := .int) (a0 := (40, .inl (fun _ => 0))) ar_int rfl rfl (fun _ => rfl) (by decide) (by decide) (by decide) d_R_init_7 ⟨Nat.le_of_ble_eq_true rfl, Nat.le_of_ble_eq_true rfl⟩ (fun ad1 h1 => ?_)
  have ha1 : ad1 117 = a := (h1 117 (by decide)).trans ha0
  clear ha0
  refine wl_putF (fs' := [.int 0, .ref (ad1 118), .null, .null, .null, .int 0, .null, .null, .null, .null, .null, .null, .null, .null, .null, .int 0, .int 0, .null, .null, .null, .null, .null, .int 0]) C 117 (by decide) d_R_init_9 ff_R_7 p_R_1 rfl ha1 ((fu_n (by decide)).trans hf) rfl rfl (Nat.le_of_ble_eq_true rfl) rfl ?_
  refine vg_aload_n C d_R_init_12 rfl ?_
  refine vg_bipush (v := 40) C d_R_init_13 (by decide) ?_
  refine wl_newa C 0 (atype := .int) (a0 := (40, .inl (fun _ => 0))) ar_int rfl rfl (fun _ => rfl) (by decide) (by decide) (by decide) d_R_init_15 ⟨Nat.le_of_ble_eq_true rfl, Nat.le_of_ble_eq_true rfl⟩ (fun ad2 h2 => ?_)
  have ha2 : ad2 117 = a := (h2 117 (by decide)).trans ha1
  clear ha1
  refine wl_putF (fs' := [.int 0, .ref (ad1 118), .ref (ad2 119), .null, .null, .int 0, .null, .null, .null, .null, .null, .null, .null, .null, .null, .int 0, .int 0, .null, .null, .null, .null, .null, .int 0]) C 117 (by decide) d_R_init_17 ff_R_13 p_R_2 rfl ha2 ((fu_n (by decide)).trans fu_s) rfl rfl (Nat.le_of_ble_eq_true rfl) rfl ?_
  refine vg_aload_n C d_R_init_20 rfl ?_
  refine vg_bipush (v := 40) C d_R_init_21 (by decide) ?_
  refine wl_newa C 0 (atype := .int) (a0 := (40, .inl (fun _ => 0))) ar_int rfl rfl (fun _ => rfl) (by decide) (by decide) (by decide) d_R_init_23 ⟨Nat.le_of_ble_eq_true rfl, Nat.le_of_ble_eq_true rfl⟩ (fun ad3 h3 => ?_)
  have ha3 : ad3 117 = a := (h3 117 (by decide)).trans ha2
  clear ha2
  refine wl_putF (fs' := [.int 0, .ref (ad1 118), .ref (ad2 119), .ref (ad3 120), .null, .int 0, .null, .null, .null, .null, .null, .null, .null, .null, .null, .int 0, .int 0, .null, .null, .null, .null, .null, .int 0]) C 117 (by decide) d_R_init_25 ff_R_16 p_R_3 rfl ha3 ((fu_n (by decide)).trans fu_s) rfl rfl (Nat.le_of_ble_eq_true rfl) rfl ?_
  refine vg_aload_n C d_R_init_28 rfl ?_
  refine vg_bipush (v := 40) C d_R_init_29 (by decide) ?_
  refine wl_newa C 0 (atype := .int) (a0 := (40, .inl (fun _ => 0))) ar_int rfl rfl (fun _ => rfl) (by decide) (by decide) (by decide) d_R_init_31 ⟨Nat.le_of_ble_eq_true rfl, Nat.le_of_ble_eq_true rfl⟩ (fun ad4 h4 => ?_)
  have ha4 : ad4 117 = a := (h4 117 (by decide)).trans ha3
  clear ha3
  refine wl_putF (fs' := [.int 0, .ref (ad1 118), .ref (ad2 119), .ref (ad3 120), .ref (ad4 121), .int 0, .null, .null, .null, .null, .null, .null, .null, .null, .null, .int 0, .int 0, .null, .null, .null, .null, .null, .int 0]) C 117 (by decide) d_R_init_33 ff_R_19 p_R_4 rfl ha4 ((fu_n (by decide)).trans fu_s) rfl rfl (Nat.le_of_ble_eq_true rfl) rfl ?_
  refine vg_aload_n C d_R_init_36 rfl ?_
  refine vg_iconst (v := 4) C d_R_init_37 (by decide) ?_
  refine wl_newa C 0 (atype := .int) (a0 := (4, .inl (fun _ => 0))) ar_int rfl rfl (fun _ => rfl) (by decide) (by decide) (by decide) d_R_init_38 ⟨Nat.le_of_ble_eq_true rfl, Nat.le_of_ble_eq_true rfl⟩ (fun ad5 h5 => ?_)
  have ha5 : ad5 117 = a := (h5 117 (by decide)).trans ha4
  clear ha4
  refine vg_dup C d_R_init_40 rfl ?_
  refine vg_iconst (v := 0) C d_R_init_41 (by decide) ?_
  refine vg_iconst (v := (-1)) C d_R_init_42 (by decide) ?_
  refine wl_iast C 122 (by decide) d_R_init_43 rfl fu_s (by exact (by decide : ¬ ((0 : Int32) < 0 ∨ 4 ≤ (0 : Int32).toNatClampNeg))) ?_
  refine vg_dup C d_R_init_44 rfl ?_
  refine vg_iconst (v := 1) C d_R_init_45 (by decide) ?_
  refine vg_iconst (v := (-1)) C d_R_init_46 (by decide) ?_
  refine wl_iast C 122 (by decide) d_R_init_47 rfl fu_s (by exact (by decide : ¬ ((1 : Int32) < 0 ∨ 4 ≤ (1 : Int32).toNatClampNeg))) ?_
  refine vg_dup C d_R_init_48 rfl ?_
  refine vg_iconst (v := 2) C d_R_init_49 (by decide) ?_
  refine vg_iconst (v := (-1)) C d_R_init_50 (by decide) ?_
  refine wl_iast C 122 (by decide) d_R_init_51 rfl fu_s (by exact (by decide : ¬ ((2 : Int32) < 0 ∨ 4 ≤ (2 : Int32).toNatClampNeg))) ?_
  refine vg_dup C d_R_init_52 rfl ?_
  refine vg_iconst (v := 3) C d_R_init_53 (by decide) ?_
  refine vg_iconst (v := (-1)) C d_R_init_54 (by decide) ?_
  refine wl_iast C 122 (by decide) d_R_init_55 rfl fu_s (by exact (by decide : ¬ ((3 : Int32) < 0 ∨ 4 ≤ (3 : Int32).toNatClampNeg))) ?_
  refine wl_putF (fs' := [.int 0, .ref (ad1 118), .ref (ad2 119), .ref (ad3 120), .ref (ad4 121), .int 0, .ref (ad5 122), .null, .null, .null, .null, .null, .null, .null, .null, .int 0, .int 0, .null, .null, .null, .null, .null, .int 0]) C 117 (by decide) d_R_init_56 ff_R_22 p_R_6 rfl ha5 ((fu_n (by decide)).trans ((fu_n (by decide)).trans ((fu_n (by decide)).trans ((fu_n (by decide)).trans ((fu_n (by decide)).trans fu_s))))) rfl rfl (Nat.le_of_ble_eq_true rfl) rfl ?_
  refine vg_aload_n C d_R_init_59 rfl ?_
  refine vg_bipush (v := 16) C d_R_init_60 (by decide) ?_
  refine wl_newa C 0 (atype := .int) (a0 := (16, .inl (fun _ => 0))) ar_int rfl rfl (fun _ => rfl) (by decide) (by decide) (by decide) d_R_init_62 ⟨Nat.le_of_ble_eq_true rfl, Nat.le_of_ble_eq_true rfl⟩ (fun ad6 h6 => ?_)
  have ha6 : ad6 117 = a := (h6 117 (by decide)).trans ha5
  clear ha5
  refine wl_putF (fs' := [.int 0, .ref (ad1 118), .ref (ad2 119), .ref (ad3 120), .ref (ad4 121), .int 0, .ref (ad5 122), .ref (ad6 123), .null, .null, .null, .null, .null, .null, .null, .int 0, .int 0, .null, .null, .null, .null, .null, .int 0]) C 117 (by decide) d_R_init_64 ff_R_25 p_R_7 rfl ha6 ((fu_n (by decide)).trans fu_s) rfl rfl (Nat.le_of_ble_eq_true rfl) rfl ?_
  refine vg_aload_n C d_R_init_67 rfl ?_
  refine vg_bipush (v := 16) C d_R_init_68 (by decide) ?_
  refine wl_newa C 0 (atype := .int) (a0 := (16, .inl (fun _ => 0))) ar_int rfl rfl (fun _ => rfl) (by decide) (by decide) (by decide) d_R_init_70 ⟨Nat.le_of_ble_eq_true rfl, Nat.le_of_ble_eq_true rfl⟩ (fun ad7 h7 => ?_)
  have ha7 : ad7 117 = a := (h7 117 (by decide)).trans ha6
  clear ha6
  refine wl_putF (fs' := [.int 0, .ref (ad1 118), .ref (ad2 119), .ref (ad3 120), .ref (ad4 121), .int 0, .ref (ad5 122), .ref (ad6 123), .ref (ad7 124), .null, .null, .null, .null, .null, .null, .int 0, .int 0, .null, .null, .null, .null, .null, .int 0]) C 117 (by decide) d_R_init_72 ff_R_28 p_R_8 rfl ha7 ((fu_n (by decide)).trans fu_s) rfl rfl (Nat.le_of_ble_eq_true rfl) rfl ?_
  refine vg_aload_n C d_R_init_75 rfl ?_
  refine vg_bipush (v := 16) C d_R_init_76 (by decide) ?_
  refine wl_newa C 0 (atype := .int) (a0 := (16, .inl (fun _ => 0))) ar_int rfl rfl (fun _ => rfl) (by decide) (by decide) (by decide) d_R_init_78 ⟨Nat.le_of_ble_eq_true rfl, Nat.le_of_ble_eq_true rfl⟩ (fun ad8 h8 => ?_)
  have ha8 : ad8 117 = a := (h8 117 (by decide)).trans ha7
  clear ha7
  refine wl_putF (fs' := [.int 0, .ref (ad1 118), .ref (ad2 119), .ref (ad3 120), .ref (ad4 121), .int 0, .ref (ad5 122), .ref (ad6 123), .ref (ad7 124), .ref (ad8 125), .null, .null, .null, .null, .null, .int 0, .int 0, .null, .null, .null, .null, .null, .int 0]) C 117 (by decide) d_R_init_80 ff_R_31 p_R_9 rfl ha8 ((fu_n (by decide)).trans fu_s) rfl rfl (Nat.le_of_ble_eq_true rfl) rfl ?_
  refine vg_aload_n C d_R_init_83 rfl ?_
  refine vg_bipush (v := 96) C d_R_init_84 (by decide) ?_
  refine wl_newa C 2 (atype := .boolean) (a0 := (96, .inl (fun _ => 0))) ar_boolean rfl rfl (fun _ => rfl) (by decide) (by decide) (by decide) d_R_init_86 ⟨Nat.le_of_ble_eq_true rfl, Nat.le_of_ble_eq_true rfl⟩ (fun ad9 h9 => ?_)
  have ha9 : ad9 117 = a := (h9 117 (by decide)).trans ha8
  clear ha8
  refine wl_putF (fs' := [.int 0, .ref (ad1 118), .ref (ad2 119), .ref (ad3 120), .ref (ad4 121), .int 0, .ref (ad5 122), .ref (ad6 123), .ref (ad7 124), .ref (ad8 125), .ref (ad9 126), .null, .null, .null, .null, .int 0, .int 0, .null, .null, .null, .null, .null, .int 0]) C 117 (by decide) d_R_init_88 ff_R_34 p_R_10 rfl ha9 ((fu_n (by decide)).trans fu_s) rfl rfl (Nat.le_of_ble_eq_true rfl) rfl ?_
  refine vg_aload_n C d_R_init_91 rfl ?_
  refine vg_bipush (v := 96) C d_R_init_92 (by decide) ?_
  refine wl_newa C 0 (atype := .int) (a0 := (96, .inl (fun _ => 0))) ar_int rfl rfl (fun _ => rfl) (by decide) (by decide) (by decide) d_R_init_94 ⟨Nat.le_of_ble_eq_true rfl, Nat.le_of_ble_eq_true rfl⟩ (fun ad10 h10 => ?_)
  have ha10 : ad10 117 = a := (h10 117 (by decide)).trans ha9
  clear ha9
  refine wl_putF (fs' := [.int 0, .ref (ad1 118), .ref (ad2 119), .ref (ad3 120), .ref (ad4 121), .int 0, .ref (ad5 122), .ref (ad6 123), .ref (ad7 124), .ref (ad8 125), .ref (ad9 126), .ref (ad10 127), .null, .null, .null, .int 0, .int 0, .null, .null, .null, .null, .null, .int 0]) C 117 (by decide) d_R_init_96 ff_R_38 p_R_11 rfl ha10 ((fu_n (by decide)).trans fu_s) rfl rfl (Nat.le_of_ble_eq_true rfl) rfl ?_
  refine vg_aload_n C d_R_init_99 rfl ?_
  refine vg_bipush (v := 96) C d_R_init_100 (by decide) ?_
  refine wl_newa C 0 (atype := .int) (a0 := (96, .inl (fun _ => 0))) ar_int rfl rfl (fun _ => rfl) (by decide) (by decide) (by decide) d_R_init_102 ⟨Nat.le_of_ble_eq_true rfl, Nat.le_of_ble_eq_true rfl⟩ (fun ad11 h11 => ?_)
  have ha11 : ad11 117 = a := (h11 117 (by decide)).trans ha10
  clear ha10
  refine wl_putF (fs' := [.int 0, .ref (ad1 118), .ref (ad2 119), .ref (ad3 120), .ref (ad4 121), .int 0, .ref (ad5 122), .ref (ad6 123), .ref (ad7 124), .ref (ad8 125), .ref (ad9 126), .ref (ad10 127), .ref (ad11 128), .null, .null, .int 0, .int 0, .null, .null, .null, .null, .null, .int 0]) C 117 (by decide) d_R_init_104 ff_R_41 p_R_12 rfl ha11 ((fu_n (by decide)).trans fu_s) rfl rfl (Nat.le_of_ble_eq_true rfl) rfl ?_
  refine vg_aload_n C d_R_init_107 rfl ?_
  refine vg_bipush (v := 96) C d_R_init_108 (by decide) ?_
  refine wl_newa C 0 (atype := .int) (a0 := (96, .inl (fun _ => 0))) ar_int rfl rfl (fun _ => rfl) (by decide) (by decide) (by decide) d_R_init_110 ⟨Nat.le_of_ble_eq_true rfl, Nat.le_of_ble_eq_true rfl⟩ (fun ad12 h12 => ?_)
  have ha12 : ad12 117 = a := (h12 117 (by decide)).trans ha11
  clear ha11
  refine wl_putF (fs' := [.int 0, .ref (ad1 118), .ref (ad2 119), .ref (ad3 120), .ref (ad4 121), .int 0, .ref (ad5 122), .ref (ad6 123), .ref (ad7 124), .ref (ad8 125), .ref (ad9 126), .ref (ad10 127), .ref (ad11 128), .ref (ad12 129), .null, .int 0, .int 0, .null, .null, .null, .null, .null, .int 0]) C 117 (by decide) d_R_init_112 ff_R_44 p_R_13 rfl ha12 ((fu_n (by decide)).trans fu_s) rfl rfl (Nat.le_of_ble_eq_true rfl) rfl ?_
  refine vg_aload_n C d_R_init_115 rfl ?_
  refine vg_bipush (v := 16) C d_R_init_116 (by decide) ?_
  refine wl_newa C 0 (atype := .int) (a0 := (16, .inl (fun _ => 0))) ar_int rfl rfl (fun _ => rfl) (by decide) (by decide) (by decide) d_R_init_118 ⟨Nat.le_of_ble_eq_true rfl, Nat.le_of_ble_eq_true rfl⟩ (fun ad13 h13 => ?_)
  have ha13 : ad13 117 = a := (h13 117 (by decide)).trans ha12
  clear ha12
  refine wl_putF (fs' := [.int 0, .ref (ad1 118), .ref (ad2 119), .ref (ad3 120), .ref (ad4 121), .int 0, .ref (ad5 122), .ref (ad6 123), .ref (ad7 124), .ref (ad8 125), .ref (ad9 126), .ref (ad10 127), .ref (ad11 128), .ref (ad12 129), .ref (ad13 130), .int 0, .int 0, .null, .null, .null, .null, .null, .int 0]) C 117 (by decide) d_R_init_120 ff_R_47 p_R_14 rfl ha13 ((fu_n (by decide)).trans fu_s) rfl rfl (Nat.le_of_ble_eq_true rfl) rfl ?_
  refine vg_aload_n C d_R_init_123 rfl ?_
  refine vg_iconst (v := (-1)) C d_R_init_124 (by decide) ?_
  refine wl_put (fs' := [.int 0, .ref (ad1 118), .ref (ad2 119), .ref (ad3 120), .ref (ad4 121), .int 0, .ref (ad5 122), .ref (ad6 123), .ref (ad7 124), .ref (ad8 125), .ref (ad9 126), .ref (ad10 127), .ref (ad11 128), .ref (ad12 129), .ref (ad13 130), .int 0, .int (-1), .null, .null, .null, .null, .null, .int 0]) C 117 (by decide) d_R_init_125 f_R_50 p_R_16 ha13 fu_s rfl rfl (Nat.le_of_ble_eq_true rfl) rfl ?_
  refine vg_aload_n C d_R_init_128 rfl ?_
  refine vg_sipush (v := 2560) C d_R_init_129 (by decide) ?_
  refine wl_newa C 1 (atype := .long) (a0 := (2560, .inr (.inl (fun _ => 0)))) ar_long rfl rfl (fun _ => rfl) (by decide) (by decide) (by decide) d_R_init_132 ⟨Nat.le_of_ble_eq_true rfl, Nat.le_of_ble_eq_true rfl⟩ (fun ad14 h14 => ?_)
  have ha14 : ad14 117 = a := (h14 117 (by decide)).trans ha13
  clear ha13
  refine wl_putF (fs' := [.int 0, .ref (ad1 118), .ref (ad2 119), .ref (ad3 120), .ref (ad4 121), .int 0, .ref (ad5 122), .ref (ad6 123), .ref (ad7 124), .ref (ad8 125), .ref (ad9 126), .ref (ad10 127), .ref (ad11 128), .ref (ad12 129), .ref (ad13 130), .int 0, .int (-1), .ref (ad14 131), .null, .null, .null, .null, .int 0]) C 117 (by decide) d_R_init_134 ff_R_54 p_R_17 rfl ha14 ((fu_n (by decide)).trans fu_s) rfl rfl (Nat.le_of_ble_eq_true rfl) rfl ?_
  refine vg_aload_n C d_R_init_137 rfl ?_
  refine vg_sipush (v := 640) C d_R_init_138 (by decide) ?_
  refine wl_newa C 2 (atype := .boolean) (a0 := (640, .inl (fun _ => 0))) ar_boolean rfl rfl (fun _ => rfl) (by decide) (by decide) (by decide) d_R_init_141 ⟨Nat.le_of_ble_eq_true rfl, Nat.le_of_ble_eq_true rfl⟩ (fun ad15 h15 => ?_)
  have ha15 : ad15 117 = a := (h15 117 (by decide)).trans ha14
  clear ha14
  refine wl_putF (fs' := [.int 0, .ref (ad1 118), .ref (ad2 119), .ref (ad3 120), .ref (ad4 121), .int 0, .ref (ad5 122), .ref (ad6 123), .ref (ad7 124), .ref (ad8 125), .ref (ad9 126), .ref (ad10 127), .ref (ad11 128), .ref (ad12 129), .ref (ad13 130), .int 0, .int (-1), .ref (ad14 131), .ref (ad15 132), .null, .null, .null, .int 0]) C 117 (by decide) d_R_init_143 ff_R_58 p_R_18 rfl ha15 ((fu_n (by decide)).trans fu_s) rfl rfl (Nat.le_of_ble_eq_true rfl) rfl ?_
  refine vg_aload_n C d_R_init_146 rfl ?_
  refine vg_bipush (v := 40) C d_R_init_147 (by decide) ?_
  refine wl_newa C 2 (atype := .boolean) (a0 := (40, .inl (fun _ => 0))) ar_boolean rfl rfl (fun _ => rfl) (by decide) (by decide) (by decide) d_R_init_149 ⟨Nat.le_of_ble_eq_true rfl, Nat.le_of_ble_eq_true rfl⟩ (fun ad16 h16 => ?_)
  have ha16 : ad16 117 = a := (h16 117 (by decide)).trans ha15
  clear ha15
  refine wl_putF (fs' := [.int 0, .ref (ad1 118), .ref (ad2 119), .ref (ad3 120), .ref (ad4 121), .int 0, .ref (ad5 122), .ref (ad6 123), .ref (ad7 124), .ref (ad8 125), .ref (ad9 126), .ref (ad10 127), .ref (ad11 128), .ref (ad12 129), .ref (ad13 130), .int 0, .int (-1), .ref (ad14 131), .ref (ad15 132), .ref (ad16 133), .null, .null, .int 0]) C 117 (by decide) d_R_init_151 ff_R_61 p_R_19 rfl ha16 ((fu_n (by decide)).trans fu_s) rfl rfl (Nat.le_of_ble_eq_true rfl) rfl ?_
  refine vg_aload_n C d_R_init_154 rfl ?_
  refine vg_bipush (v := 40) C d_R_init_155 (by decide) ?_
  refine wl_newa C 2 (atype := .boolean) (a0 := (40, .inl (fun _ => 0))) ar_boolean rfl rfl (fun _ => rfl) (by decide) (by decide) (by decide) d_R_init_157 ⟨Nat.le_of_ble_eq_true rfl, Nat.le_of_ble_eq_true rfl⟩ (fun ad17 h17 => ?_)
  have ha17 : ad17 117 = a := (h17 117 (by decide)).trans ha16
  clear ha16
  refine wl_putF (fs' := [.int 0, .ref (ad1 118), .ref (ad2 119), .ref (ad3 120), .ref (ad4 121), .int 0, .ref (ad5 122), .ref (ad6 123), .ref (ad7 124), .ref (ad8 125), .ref (ad9 126), .ref (ad10 127), .ref (ad11 128), .ref (ad12 129), .ref (ad13 130), .int 0, .int (-1), .ref (ad14 131), .ref (ad15 132), .ref (ad16 133), .ref (ad17 134), .null, .int 0]) C 117 (by decide) d_R_init_159 ff_R_64 p_R_20 rfl ha17 ((fu_n (by decide)).trans fu_s) rfl rfl (Nat.le_of_ble_eq_true rfl) rfl ?_
  refine vg_aload_n C d_R_init_162 rfl ?_
  refine vg_sipush (v := 240) C d_R_init_163 (by decide) ?_
  refine wl_newa C 2 (atype := .boolean) (a0 := (240, .inl (fun _ => 0))) ar_boolean rfl rfl (fun _ => rfl) (by decide) (by decide) (by decide) d_R_init_166 ⟨Nat.le_of_ble_eq_true rfl, Nat.le_of_ble_eq_true rfl⟩ (fun ad18 h18 => ?_)
  have ha18 : ad18 117 = a := (h18 117 (by decide)).trans ha17
  clear ha17
  refine wl_putF (fs' := [.int 0, .ref (ad1 118), .ref (ad2 119), .ref (ad3 120), .ref (ad4 121), .int 0, .ref (ad5 122), .ref (ad6 123), .ref (ad7 124), .ref (ad8 125), .ref (ad9 126), .ref (ad10 127), .ref (ad11 128), .ref (ad12 129), .ref (ad13 130), .int 0, .int (-1), .ref (ad14 131), .ref (ad15 132), .ref (ad16 133), .ref (ad17 134), .ref (ad18 135), .int 0]) C 117 (by decide) d_R_init_168 ff_R_67 p_R_21 rfl ha18 ((fu_n (by decide)).trans fu_s) rfl rfl (Nat.le_of_ble_eq_true rfl) rfl ?_
  have e0 : ad18 118 = ad1 118 := by rw [h18 118 (by decide), h17 118 (by decide), h16 118 (by decide), h15 118 (by decide), h14 118 (by decide), h13 118 (by decide), h12 118 (by decide), h11 118 (by decide), h10 118 (by decide), h9 118 (by decide), h8 118 (by decide), h7 118 (by decide), h6 118 (by decide), h5 118 (by decide), h4 118 (by decide), h3 118 (by decide), h2 118 (by decide)]
  have e1 : ad18 119 = ad2 119 := by rw [h18 119 (by decide), h17 119 (by decide), h16 119 (by decide), h15 119 (by decide), h14 119 (by decide), h13 119 (by decide), h12 119 (by decide), h11 119 (by decide), h10 119 (by decide), h9 119 (by decide), h8 119 (by decide), h7 119 (by decide), h6 119 (by decide), h5 119 (by decide), h4 119 (by decide), h3 119 (by decide)]
  have e2 : ad18 120 = ad3 120 := by rw [h18 120 (by decide), h17 120 (by decide), h16 120 (by decide), h15 120 (by decide), h14 120 (by decide), h13 120 (by decide), h12 120 (by decide), h11 120 (by decide), h10 120 (by decide), h9 120 (by decide), h8 120 (by decide), h7 120 (by decide), h6 120 (by decide), h5 120 (by decide), h4 120 (by decide)]
  have e3 : ad18 121 = ad4 121 := by rw [h18 121 (by decide), h17 121 (by decide), h16 121 (by decide), h15 121 (by decide), h14 121 (by decide), h13 121 (by decide), h12 121 (by decide), h11 121 (by decide), h10 121 (by decide), h9 121 (by decide), h8 121 (by decide), h7 121 (by decide), h6 121 (by decide), h5 121 (by decide)]
  have e4 : ad18 122 = ad5 122 := by rw [h18 122 (by decide), h17 122 (by decide), h16 122 (by decide), h15 122 (by decide), h14 122 (by decide), h13 122 (by decide), h12 122 (by decide), h11 122 (by decide), h10 122 (by decide), h9 122 (by decide), h8 122 (by decide), h7 122 (by decide), h6 122 (by decide)]
  have e5 : ad18 123 = ad6 123 := by rw [h18 123 (by decide), h17 123 (by decide), h16 123 (by decide), h15 123 (by decide), h14 123 (by decide), h13 123 (by decide), h12 123 (by decide), h11 123 (by decide), h10 123 (by decide), h9 123 (by decide), h8 123 (by decide), h7 123 (by decide)]
  have e6 : ad18 124 = ad7 124 := by rw [h18 124 (by decide), h17 124 (by decide), h16 124 (by decide), h15 124 (by decide), h14 124 (by decide), h13 124 (by decide), h12 124 (by decide), h11 124 (by decide), h10 124 (by decide), h9 124 (by decide), h8 124 (by decide)]
  have e7 : ad18 125 = ad8 125 := by rw [h18 125 (by decide), h17 125 (by decide), h16 125 (by decide), h15 125 (by decide), h14 125 (by decide), h13 125 (by decide), h12 125 (by decide), h11 125 (by decide), h10 125 (by decide), h9 125 (by decide)]
  have e8 : ad18 126 = ad9 126 := by rw [h18 126 (by decide), h17 126 (by decide), h16 126 (by decide), h15 126 (by decide), h14 126 (by decide), h13 126 (by decide), h12 126 (by decide), h11 126 (by decide), h10 126 (by decide)]
  have e9 : ad18 127 = ad10 127 := by rw [h18 127 (by decide), h17 127 (by decide), h16 127 (by decide), h15 127 (by decide), h14 127 (by decide), h13 127 (by decide), h12 127 (by decide), h11 127 (by decide)]
  have e10 : ad18 128 = ad11 128 := by rw [h18 128 (by decide), h17 128 (by decide), h16 128 (by decide), h15 128 (by decide), h14 128 (by decide), h13 128 (by decide), h12 128 (by decide)]
  have e11 : ad18 129 = ad12 129 := by rw [h18 129 (by decide), h17 129 (by decide), h16 129 (by decide), h15 129 (by decide), h14 129 (by decide), h13 129 (by decide)]
  have e12 : ad18 130 = ad13 130 := by rw [h18 130 (by decide), h17 130 (by decide), h16 130 (by decide), h15 130 (by decide), h14 130 (by decide)]
  have e13 : ad18 131 = ad14 131 := by rw [h18 131 (by decide), h17 131 (by decide), h16 131 (by decide), h15 131 (by decide)]
  have e14 : ad18 132 = ad15 132 := by rw [h18 132 (by decide), h17 132 (by decide), h16 132 (by decide)]
  have e15 : ad18 133 = ad16 133 := by rw [h18 133 (by decide), h17 133 (by decide)]
  have e16 : ad18 134 = ad17 134 := by rw [h18 134 (by decide)]
  refine vg_return C hQ d_R_init_171 rfl ⟨rfl, ad18, _, fun j hj => ?_, rfl, fun j hj => ?_, ?_, ?_, ?_, ?_, ?_, ?_, ?_, ?_, ?_, ?_, ?_, ?_, ?_, ?_, ?_, ?_, ?_, ?_, ?_⟩
  · rw [h18 j (by omega), h17 j (by omega), h16 j (by omega), h15 j (by omega), h14 j (by omega), h13 j (by omega), h12 j (by omega), h11 j (by omega), h10 j (by omega), h9 j (by omega), h8 j (by omega), h7 j (by omega), h6 j (by omega), h5 j (by omega), h4 j (by omega), h3 j (by omega), h2 j (by omega), h1 j (by omega)]
  · simp (disch := omega) only [fu_s, fu_n]
  · rw [e0, e1, e2, e3, e4, e5, e6, e7, e8, e9, e10, e11, e12, e13, e14, e15, e16]
    simp (disch := decide) only [fu_s, fu_n]
  · simp (disch := decide) only [fu_s, fu_n]
  · simp (disch := decide) only [fu_s, fu_n]
  · simp (disch := decide) only [fu_s, fu_n]
  · simp (disch := decide) only [fu_s, fu_n]
  · simp (disch := decide) only [fu_s, fu_n]
    rfl
  · simp (disch := decide) only [fu_s, fu_n]
  · simp (disch := decide) only [fu_s, fu_n]
  · simp (disch := decide) only [fu_s, fu_n]
  · simp (disch := decide) only [fu_s, fu_n]
  · simp (disch := decide) only [fu_s, fu_n]
  · simp (disch := decide) only [fu_s, fu_n]
  · simp (disch := decide) only [fu_s, fu_n]
  · simp (disch := decide) only [fu_s, fu_n]
  · simp (disch := decide) only [fu_s, fu_n]
  · simp (disch := decide) only [fu_s, fu_n]
  · simp (disch := decide) only [fu_s, fu_n]
  · simp (disch := decide) only [fu_s, fu_n]
  · simp (disch := decide) only [fu_s, fu_n]
