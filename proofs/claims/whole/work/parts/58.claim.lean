/-! THE CLAIM OUT OF ONE WALK OF THE LAW'S BODY. Your part is whole_start (and what it stands on); all else here is the same for every law, but numbers. -/
def R_law : String := "PatternValidatorLaw"
def lw_P (b : Addr) (xs : List Int32) (args : Array Value) (s : State) : Prop := args = #[.ref b] ∧ s.IntsAt b xs ∧ xs.length ≤ 2048 ∧ (Jvm.Cond.and given_1 narrow_1).before args s = true
def lw_Q (_ : Array Value) (s : State) (o : Outcome) (t : State) : Prop := o = .returned (some (.int 1)) ∧ Framed s o t [] 601024 7293034
def lw_Z (below : List Frame) (a : Array Value) (s : State) : State → Prop := fun t => ∃ o, t.status = .running ∧ Ended t below o ∧ lw_Q a s o t
/-- the law's own end, with 1 on the stack, nothing written that was there before, its room as the claim has it -/
theorem lw_ret {p : Program} {l : Launch} {e : Env} {s : State} {m : MethodId} {below : List Frame} {meth : Method} {c : Code} {b : Nat} (hx : p.tables.exec = Jvm.exec) (hb : c.code = code) (hr : meth.sig.returnType = ret) (hlocks : meth.locks = false) {pc : Nat} {H : Heap} {ls : Array Slot} (hdg : decode code pc = .ok (.ireturn, 1)) : W p l e room_1 s m #[Value.ref b] below meth c H [] 601024 7293034 (lw_Z below #[Value.ref b] s) (F0 m pc ls [.int 1]) := by
  intro T hT X
  obtain ⟨fs, hret, hrun, hended, hW, hframe⟩ := X.leave (v := some (.int 1)) (hlocks := hlocks) (fun h => by rw [hr] at h; cases h)
  have hmeth' : T.vm.method? m = some meth := X.method'
  refine ⟨T.setFrames fs, ?_, .returned (some (.int 1)), hrun, hended, rfl, ⟨_, rfl⟩, hW, hframe⟩
  jvm_step X.here [X.here.top, hx, hb, hdg, hmeth', hr, ret, narrow_b1]
  (try refine ⟨rfl, ?_⟩); (try refine ⟨rfl, ?_⟩)
  first | (intro acts; rw [hret _ acts rfl rfl rfl]) | rw [hret _ _ rfl rfl rfl]
  exact Steps.refl _
/-- what holds at the law's entry: the machine, the code, the tables' words (any of lw_tbl by 'hts w (by decide +kernel)'), the script of L ints xs at the cell b, what the Statement gives of the start (any of its parts by flat_of_before) -/
def lw_At (p : Program) (s : State) (m : MethodId) (meth : Method) (c : Code) (b L : Nat) (xs : Nat → Int32) : Prop :=
  p.tables.exec = Jvm.exec ∧ c.code = code ∧ meth.sig.returnType = ret ∧ c.maxLocals = 7 ∧ s.vm.findClass R_law = some m.cls ∧ (∀ w ∈ lw_tbl, w.before #[Value.ref b] s = true) ∧ va_X b L xs s s.heap ∧ b < s.heap.size ∧ meth.locks = false ∧ (Jvm.Cond.and given_1 narrow_1).before #[Value.ref b] s = true
/-! the start of the law -/
theorem RDn_x {Z : vg_Z} {ad ad' : Nat → Nat} {f f' : Nat → va_E} (ha : ∀ j, 117 ≤ j → j < 136 → ad' j = ad j) (hf : ∀ j, 117 ≤ j → j < 136 → f' j = f j) (h : RDn Z ad f) : RDn Z ad' f' := by
  unfold RDn
  rw [hf 117 (by decide) (by decide), hf 118 (by decide) (by decide), hf 119 (by decide) (by decide), hf 120 (by decide) (by decide), hf 121 (by decide) (by decide), hf 122 (by decide) (by decide), hf 123 (by decide) (by decide), hf 124 (by decide) (by decide), hf 125 (by decide) (by decide), hf 126 (by decide) (by decide), hf 127 (by decide) (by decide), hf 128 (by decide) (by decide), hf 129 (by decide) (by decide), hf 130 (by decide) (by decide), hf 131 (by decide) (by decide), hf 132 (by decide) (by decide), hf 133 (by decide) (by decide), hf 134 (by decide) (by decide), hf 135 (by decide) (by decide), ha 118 (by decide) (by decide), ha 119 (by decide) (by decide), ha 120 (by decide) (by decide), ha 121 (by decide) (by decide), ha 122 (by decide) (by decide), ha 123 (by decide) (by decide), ha 124 (by decide) (by decide), ha 125 (by decide) (by decide), ha 126 (by decide) (by decide), ha 127 (by decide) (by decide), ha 128 (by decide) (by decide), ha 129 (by decide) (by decide), ha 130 (by decide) (by decide), ha 131 (by decide) (by decide), ha 132 (by decide) (by decide), ha 133 (by decide) (by decide), ha 134 (by decide) (by decide), ha 135 (by decide) (by decide)]
  exact h
theorem nc_s {b : Nat} {s : State} (hs : ∀ w ∈ flatC (Jvm.Cond.and given_1 narrow_1), w.before #[Value.ref b] s = true) : ∀ E ∈ ex4, ∀ F ∈ ex4, E ≠ F → va_Nc E F s := by
  intro E hE F hF hne
  have four : ∀ q ∈ ex4, q = "java/lang/IllegalArgumentException" ∨ q = "java/lang/IllegalStateException" ∨ q = "java/util/NoSuchElementException" ∨ q = "java/lang/UnsupportedOperationException" := by
    intro q hq
    simpa [ex4] using hq
  rcases four E hE with rfl | rfl | rfl | rfl <;> rcases four F hF with rfl | rfl | rfl | rfl <;> first | exact absurd rfl hne | exact va_Nc.of (hs _ (by decide +kernel))
set_option maxHeartbeats 4000000 in
set_option maxRecDepth 100000 in
theorem P0_s {b : Nat} {s : State} (hts : ∀ w ∈ lw_tbl, w.before #[Value.ref b] s = true) (hs : ∀ w ∈ flatC (Jvm.Cond.and given_1 narrow_1), w.before #[Value.ref b] s = true) : vg_P0 s.heap.size s := by
  have hA : ∀ a : Nat, a < s.heap.size → ¬ s.heap.size ≤ a := fun a h => Nat.not_le.mpr h
  have ht : ∀ {i : Nat} {w : Cond}, tables_1[i]? = some w → w.before #[Value.ref b] s = true := fun h => hts _ (List.mem_append_right _ (List.mem_of_getElem? h))
  refine ⟨vx_Zqof (ht (i := 233) (by decide +kernel)) (ht (i := 7) (by decide +kernel)) (hs _ (by decide +kernel)) hA, vx_Zqof (ht (i := 235) (by decide +kernel)) (ht (i := 7) (by decide +kernel)) (hs _ (by decide +kernel)) hA, nc_s hs, ?_⟩
  obtain ⟨t, h1, h2⟩ := va_Tof (args := #[Value.ref b]) (s := s) (tm := .static "PatternValidator$Matcher" "WITHOUT" "[J") (ty := .long) (N := 6) (f := fun j => .long (fW j)) (A := fun q => s.heap.size ≤ q) (by decide) (hs _ (by decide +kernel)) (va_eqt (z := 6) (hs _ (by decide +kernel))) (fun j hj => by
    rcases (show j = 0 ∨ j = 1 ∨ j = 2 ∨ j = 3 ∨ j = 4 ∨ j = 5 by omega) with rfl | rfl | rfl | rfl | rfl | rfl
    · exact va_eqtl (z := 6148914691236517205) (hs _ (by decide +kernel))
    · exact va_eqtl (z := 3689348814741910323) (hs _ (by decide +kernel))
    · exact va_eqtl (z := 1085102592571150095) (hs _ (by decide +kernel))
    · exact va_eqtl (z := 71777214294589695) (hs _ (by decide +kernel))
    · exact va_eqtl (z := 281470681808895) (hs _ (by decide +kernel))
    · exact va_eqtl (z := 4294967295) (hs _ (by decide +kernel))) hA
  exact ⟨t, va_Zof (ht (i := 148) (by decide +kernel)) (ht (i := 5) (by decide +kernel)) h1 hA, h2, va_AO.of (ht (i := 73) (by decide +kernel))⟩
theorem K_s {b : Nat} {s : State} (hts : ∀ w ∈ lw_tbl, w.before #[Value.ref b] s = true) : ∃ (D : va_G) (cs : ClassId × ClassId × ClassId × ClassId), va_K D vg_cl [(cs.1, .int), (cs.2.1, .long), (cs.2.2.1, .boolean), (cs.2.2.2, .object "PatternValidator$Node")] s := by
  have hws : ∀ w ∈ vg_ws, w.before #[Value.ref b] s = true := fun w h => hts w (List.mem_filter.mp h).1
  have hi : ∀ {i : Nat} {w : Cond}, tables_1[i]? = some w → w.before #[Value.ref b] s = true := fun h => hts _ (List.mem_append_right _ (List.mem_of_getElem? h))
  obtain ⟨c0, i0, k0⟩ := u_known (C := "PatternValidator$Document") (T := F_D) (N := 4) (n := 4) hws in_D (hi (i := 67) (by decide +kernel))
  obtain ⟨c1, i1, k1⟩ := u_known (C := "PatternValidator$Grammar") (T := F_G) (N := 9) (n := 9) hws in_G (hi (i := 25) (by decide +kernel))
  obtain ⟨c2, i2, k2⟩ := u_known (C := "PatternValidator$Matcher") (T := F_T) (N := 7) (n := 7) hws in_T (hi (i := 139) (by decide +kernel))
  obtain ⟨c3, i3, k3⟩ := u_known (C := "PatternValidator$Node") (T := F_N) (N := 9) (n := 9) hws in_N (hi (i := 74) (by decide +kernel))
  obtain ⟨c4, i4, k4⟩ := u_known (C := "PatternValidator") (T := F_V) (N := 3) (n := 3) hws in_V (hi (i := 17) (by decide +kernel))
  obtain ⟨c5, i5, k5⟩ := u_known (C := "PatternValidatorModel") (T := F_R) (N := 23) (n := 23) hws in_R (hi (i := 577) (by decide +kernel))
  obtain ⟨a0, ka0, p0, e01, e02, e03⟩ := Cond.arrayClass_spec (hws _ ar_int)
  obtain ⟨a1, ka1, p1, e11, e12, e13⟩ := Cond.arrayClass_spec (hws _ ar_long)
  obtain ⟨a2, ka2, p2, e21, e22, e23⟩ := Cond.arrayClass_spec (hws _ ar_boolean)
  obtain ⟨p3, a3, ka3, e31, -, e32, e33, e34⟩ := Cond.arrayOver_spec (hi (i := 73) (w := .arrayOver (.object "PatternValidator$Node")) (by decide +kernel))
  refine ⟨(fun k => if k = 0 then c0 else if k = 1 then c1 else if k = 2 then c2 else if k = 3 then c3 else if k = 4 then c4 else c5, fun k => if k = 0 then i0 else if k = 1 then i1 else if k = 2 then i2 else if k = 3 then i3 else if k = 4 then i4 else i5), (a0, a1, a2, a3), fun k q hq => ?_, fun k q hq => ?_⟩
  · match k, hq with
    | 0, hq => cases hq; exact k0
    | 1, hq => cases hq; exact k1
    | 2, hq => cases hq; exact k2
    | 3, hq => cases hq; exact k3
    | 4, hq => cases hq; exact k4
    | 5, hq => cases hq; exact k5
    | k + 6, hq => simp [vg_cl] at hq
  · match k, hq with
    | 0, hq => cases hq; exact ⟨fun n z => ⟨fun k h => (by cases h), ka0, e02, p0, e03⟩, e01⟩
    | 1, hq => cases hq; exact ⟨fun n z => ⟨fun k h => (by cases h), ka1, e12, p1, e13⟩, e11⟩
    | 2, hq => cases hq; exact ⟨fun n z => ⟨fun k h => (by cases h), ka2, e22, p2, e23⟩, e21⟩
    | 3, hq => cases hq; exact ⟨fun n z => ⟨fun k h => (by cases h), ka3, e32, p3, e33⟩, ka3, p3, e32, e33, e31, e34⟩
    | k + 4, hq => simp at hq
set_option maxHeartbeats 4000000 in
set_option maxRecDepth 100000 in
/-- from the entry the law comes to its end with true -/
theorem whole_start {p : Program} {e : Env} {s : State} {m : MethodId} {below : List Frame} {meth : Method} {c : Code} (l : Launch) (hl9 : l.stackTraces = false) (hnm : meth.name = "law") {b L : Nat} {xs : Nat → Int32} (hL : L ≤ 2048) (C0 : lw_At p s m meth c b L xs) : W p l e room_1 s m #[Value.ref b] below meth c s.heap [] 0 0 (lw_Z below #[Value.ref b] s) (entryFrame m ([Value.ref b] : List Value).toArray 7) := by
  obtain ⟨hx, hb, hr, hml, hown, hts, hX, hbl, hlocks, hgv⟩ := id C0
  have hs := flat_of_before _ hgv
  have hws : ∀ w ∈ vg_ws, w.before #[Value.ref b] s = true := fun w h => hts w (List.mem_filter.mp h).1
  have hnw : ∀ w ∈ vg_nw, va_Nw w s := fun w h => va_Nw.of (vg_nw_tab h) (hts w (List.mem_append_right _ (List.mem_filter.mp h).1))
  obtain ⟨D, cs, hK⟩ := K_s hts
  obtain ⟨Z, eZ⟩ : ∃ Z : vg_Z, Z = (l, D, cs, s.heap.size, vg_P0 s.heap.size) := ⟨_, rfl⟩
  obtain ⟨G, eG⟩ : ∃ G : vg_G, G = (p, e, s, m, #[Value.ref b], below, meth, c, lw_Z below #[Value.ref b] s) := ⟨_, rfl⟩
  have hZ : vg_ZP Z := by
    rw [eZ]
    exact ⟨rfl, hl9⟩
  have hst := vg_ZP_St hZ
  have C : vg_C Z M_L_law G := by
    rw [eZ, eG] at *
    exact ⟨hx, hb, hml, hown, fun w hw => (List.mem_cons.mp hw).elim (fun h => by rw [h]; exact hws _ j_L) (hws w), hK, Nat.le_refl _, P0_s hts hs, hst, hr, hlocks, hnm, hnw⟩
  have hbA : ¬ vz_b Z ≤ b := by
    rw [eZ]
    exact Nat.not_le.mpr hbl
  have hX' : va_X b L xs (vh_s G) (vh_s G).heap := by
    rw [eG]
    exact hX
  have hbl' : b < (vh_s G).heap.size := by
    rw [eG]
    exact hbl
  have hend : ∀ (ad : Nat → Nat) n τ, n ≤ 512 → vg_K Z M_L_law G (137 + n) (5361 + 6 * n) 867 [(4, .int (nI (4 * n))), (0, .ref b), (1, .ref (ad 0)), (2, .ref (ad 117)), (3, .ref (ad 136))] [] (wd Z ad τ) := by
    intro ad n τ hn
    refine vg_widen (k := 601024) (n := 7293034) (by omega) (by omega) ?_
    refine vg_iconst (v := 1) C d_L_law_867 (by decide) ?_
    intro H locs ls hP hD hS hl
    subst eG
    refine va_forget (fun q hq => ?_) (lw_ret hx hb hr hlocks d_L_law_868)
    have z := hS.2.2 q hq
    rw [eZ] at z
    exact z
  have K : vg_K Z M_L_law G 0 0 0 [(0, .ref b)] [] (wl 0 (fun _ => 0) (fun _ => .inr (0, []))) := by
    refine wl_newo C nw_L_8 d_L_law_0 ⟨Nat.le_of_ble_eq_true rfl, Nat.le_of_ble_eq_true rfl⟩ (fun ad1 h1 => ?_)
    refine vg_dup C d_L_law_3 rfl ?_
    refine vg_callI (As := []) C (c_V_init Z hZ ad1 _ (ad1 0) rfl fu_s) l_L_law_V_init rfl k_L_57 rfl rfl (Nat.le_of_ble_eq_true rfl) d_L_law_4 ⟨Nat.le_of_ble_eq_true rfl, Nat.le_of_ble_eq_true rfl⟩ (fun v w h => ?_)
    obtain ⟨rfl, ad2, f2, B1, B2, h2, rfl, z2, g2, d2, t2, r2⟩ := h
    refine vg_astore_n C d_L_law_7 (Nat.le_of_ble_eq_true rfl) rfl ?_
    refine wl_newo C nw_L_58 d_L_law_8 ⟨Nat.le_of_ble_eq_true rfl, Nat.le_of_ble_eq_true rfl⟩ (fun ad3 h3 => ?_)
    refine vg_dup C d_L_law_11 rfl ?_
    refine vg_callI (As := []) C (c_R_init Z hst ad3 _ (ad3 117) rfl fu_s) l_L_law_R_init rfl k_L_60 rfl rfl (Nat.le_of_ble_eq_true rfl) d_L_law_12 ⟨Nat.le_of_ble_eq_true rfl, Nat.le_of_ble_eq_true rfl⟩ (fun v w h => ?_)
    obtain ⟨rfl, ad4, f4, h4, rfl, k4, r4⟩ := h
    refine vg_astore_n C d_L_law_15 (Nat.le_of_ble_eq_true rfl) rfl ?_
    refine vg_iconst (v := 1) C d_L_law_16 (by decide) ?_
    refine wl_newa C 1 (atype := .long) (a0 := (1, .inr (.inl (fun _ => 0)))) ar_long rfl rfl (fun _ => rfl) (by decide) (by decide) (by decide) d_L_law_17 ⟨Nat.le_of_ble_eq_true rfl, Nat.le_of_ble_eq_true rfl⟩ (fun ad5 h5 => ?_)
    refine vg_astore_n C d_L_law_19 (Nat.le_of_ble_eq_true rfl) rfl ?_
    refine vg_iconst (v := 0) C d_L_law_20 (by decide) ?_
    refine vg_istore C d_L_law_21 (Nat.le_of_ble_eq_true rfl) rfl ?_
    have e1 : ad5 0 = ad1 0 := by rw [h5 0 (by decide), h4 0 (by decide), h3 0 (by decide), h2 0 (by decide)]
    have e2 : ad5 117 = ad3 117 := by rw [h5 117 (by decide), h4 117 (by decide)]
    have eA : ∀ j, j < 117 → ad5 j = ad2 j := fun j hj => by rw [h5 j (by omega), h4 j (by omega), h3 j (by omega)]
    have eF : ∀ j, j < 117 → fu f4 136 (.inl (vz_cL Z, 1, .inr (.inl (fun _ => 0)))) j = f2 j := fun j hj => by rw [fu_n (by omega), k4 j hj, fu_n (by omega)]
    rw [← e1, ← e2]
    refine vg_lv [0, 4, 3, 2, 1] rfl ?_
    refine vg_made (B1 := B1) (B2 := B2) ?_ ?_ ?_ ?_ ?_ fu_s ?_
    · rw [eF 0 (by decide), eA 1 (by decide), eA 8 (by decide), eA 107 (by decide)]
      exact z2
    · exact GDn_x (fun j _ h => eA j (by omega)) (fun j _ h => eF j (by omega)) g2
    · exact DDm_x (fun j _ h => eA j (by omega)) (fun j _ h => eF j (by omega)) d2
    · exact TDn_x (fun j h => eA j (by omega)) (fun j _ h => eF j (by omega)) t2
    · exact RDn_x (fun j _ h => h5 j (by omega)) (fun j _ h => fu_n (by omega)) r4
    · exact lp_law hZ C ad5 hL hX' hbl' hbA (hend ad5) (L + 1) 0 (s1 B1 B2) P0 (by omega) (by decide) PW0 (IC0 r2) IM0
  have hl := lv_entry ([.ref b]) (n := 7) (Nat.le_of_ble_eq_true rfl)
  rw [lg_entry_eq]
  have W0 := K s.heap [] _ (fun k q h => by simp [wl] at h) ⟨fun i j p q h => by simp [wl] at h, fun k q h => by simp [wl] at h⟩ (by rw [eG]; exact va_S.rf) hl
  rw [eZ, eG] at W0
  exact W0
set_option maxHeartbeats 4000000 in
theorem lw_walk (l : Launch) (hl9 : l.stackTraces = false) (b : Addr) (xs : List Int32) : MetFree l x (headSpec (Jvm.Cond.code x code maxLocals ret :: tables_1) room_1) (lw_P b xs) (fun _ _ _ _ _ => True) lw_Q := by
  refine MetFree.of_bodyS (code := code) (maxLocals := maxLocals) (ret := ret) (by decide) ?_ ?_
  · intro args s m h hn
    obtain ⟨meth, c, h1, h2, h3, h4, h5, h6, -, -⟩ := Cond.code_spec hn (atoms_spec (ws := Jvm.Cond.code x code maxLocals ret :: tables_1) h _ List.mem_cons_self)
    exact ⟨meth, c, h1, h2, h3, h4, h5, h6⟩
  · intro p e s m args below meth c s₁ B hml0 hP _
    obtain ⟨rfl, hx, hbd, hgv⟩ := hP
    obtain ⟨scr, harrAt, hlist, hof, hsmall⟩ := hx
    obtain ⟨hcb, hkn, -, -⟩ := State.arrayAt?_spec harrAt
    have hown : s.vm.findClass R_law = some m.cls := findClass_of_methodNamed B.named
    have hts0 : ∀ c ∈ (Jvm.Cond.code x code maxLocals ret :: tables_1), c.before #[Value.ref b] s = true := atoms_spec (ws := Jvm.Cond.code x code maxLocals ret :: tables_1) B.pre
    have hts : ∀ w ∈ lw_tbl, w.before #[Value.ref b] s = true := k2_hts_sels lw_privs (fun w hw => hts0 w (List.mem_cons_of_mem _ hw)) lw_privs_ok
    have hml : c.maxLocals = 7 := B.maxLocals_eq (hts0 _ List.mem_cons_self)
    have X₀ : Stand p l e room_1 s m #[Value.ref b] below meth c s₁ [] 0 0 := Stand.of_body B
    have hh0 : s₁.heap = s.heap := by rw [B.state]; rfl
    have hsz : scr.slots.size = xs.length := by rw [← Array.length_toList, hlist, List.length_map]
    have hval : ∀ j : Nat, j < xs.length → scr.slots[j]? = some (.int (xs.getD j 0)) := fun j hj => by
      rw [← Array.getElem?_toList, hlist]
      simp [hj]
    have hbl : b < s.heap.size := (Array.getElem?_eq_some_iff.mp hcb).1
    have hX : va_X b xs.length (fun j => xs.getD j 0) s s.heap := ⟨scr, hcb, hof, hkn, hsz, hval⟩
    have K : W p l e room_1 s m #[Value.ref b] below meth c s₁.heap [] 0 0 (lw_Z below #[Value.ref b] s) (entryFrame m ([Value.ref b] : List Value).toArray 7) := by
      rw [hh0]
      exact whole_start l hl9 (name_of_methodNamed B.named B.method).1 hbd ⟨B.exec, B.bytes, B.returns, hml, hown, hts, hX, hbl, B.notSynchronized, hgv⟩
    obtain ⟨t, a1, o, b1, b2, b3⟩ := K s₁ rfl X₀
    exact ⟨t, o, a1, b1, b2, b3⟩
theorem lw_pre_spec {args : Array Value} {s : State} (h : (Jvm.Cond.and given_1 narrow_1).before args s = true) (hr : rest_1_c.before args s = true) : ∃ (b : Addr) (xs : List Int32), lw_P b xs args s := by
  have hs := flat_of_before _ h
  have hq := flat_of_before _ hr
  have hc : (Cond.count 1).before args s = true := hs _ (by decide +kernel)
  have harr : (Cond.arrayOf (.arg 0) .int).before args s = true := hs _ (by decide +kernel)
  have hle : (Cond.le (.length (.arg 0)) (.int 2048)).before args s = true := hs _ (by decide +kernel)
  have hlen : (Cond.isInt (.length (.arg 0))).before args s = true := hq _ (by decide +kernel)
  have hall : (Cond.all (.arg 0) (.isInt (.elem (.arg 0) (.index 0)))).before args s = true := hq _ (by decide +kernel)
  obtain ⟨b, xs, hb, hx⟩ := State.ints_of_pre rfl harr hlen hall
  have hsm : xs.length < 2 ^ 31 := hx.choose_spec.2.2.2
  have hev : (Term.length (.arg 0)).eval args s none [] s = some (.int xs.length.toInt32) := hx.length_eval hb
  have hv := Cond.le_ints hev (show (Term.int 2048).eval args s none [] s = some (.int 2048) from rfl)
  have hd : xs.length.toInt32 ≤ 2048 := by
    simpa [Cond.before, Cond.holds, hv] using hle
  have hN : xs.length ≤ 2048 := (Int32.ofNat_le_ofNat hsm (by decide)).mp (show Int32.ofNat xs.length ≤ Int32.ofNat 2048 from hd)
  exact ⟨b, xs, Cond.one_arg hc (show args[0]? = some (.ref b) from hb), hx, hN, h⟩
theorem lw_comes (l : Launch) (hl9 : l.stackTraces = false) : Comes l x (Jvm.Cond.code x code maxLocals ret :: tables_1) room_1 (fun tb e args s => Calls_1 tb e args s ∧ rest_1 tb e args s ∧ Pre_1 tb e args s)
    (fun _ _ args s o t => lw_Q args s o t) := by
  intro p e ha hc hk s m args below hf hfit hheap happ hpre
  obtain ⟨b, xs, hP⟩ := lw_pre_spec hpre.2.2 hpre.2.1
  obtain ⟨k, o, h1, h2, h3, hQ⟩ := lw_walk l hl9 b xs p e ha hc hk s m args below hf ((Spec.applies_iff_loose hf).mp happ).1 hP trivial
  exact ⟨k, o, h1, h2, h3, hQ⟩
theorem lw_frame {s t : State} {o : Outcome} {args : Array Value} (h : Framed s o t [] 601024 7293034) :
    Framed s o t (fieldLocs frame_1_writes args s ++ arrayLocs frame_1_arrays args s ++ staticLocs frame_1_statics s) 601024 7293034 := h
theorem lw_limb (L : Cond) (hL : ∀ (args : Array Value) (s t : State), L.after args s (.returned (some (.int 1))) t = true) :
    ArmFor flags0 classFile x code maxLocals ret World_1 tables_1 room_1 Calls_1 rest_1 Pre_1
      (fun tb e a s o t => postC L tb e a s o t ∧ Framed s o t (fieldLocs frame_1_writes a s ++ arrayLocs frame_1_arrays a s ++ staticLocs frame_1_statics s) 601024 7293034) := by
  intro l hfl _ _ p e ha hc hk s m args below hf hfit hheap happ hpre
  obtain ⟨k, o, h1, h2, h3, rfl, hF⟩ := lw_comes l (by unfold Launch.stackTraces; rw [hfl]; decide +kernel) p e ha hc hk s m args below hf hfit hheap happ hpre
  exact ⟨k, _, h1, h2, h3, hL args s _, lw_frame hF⟩
theorem i_vc : Claimed_1_1 ∧ Claimed_1_2 := ⟨lw_limb limb_1_1 (fun args s t => by simp [limb_1_1, Cond.after, Cond.holds, Cond.value]), lw_limb limb_1_2 (fun args s t => Cond.after_iff.mpr (by
  first | (rw [show limb_1_2 = Cond.eq .result (.int 1) from rfl, Cond.eq_ints (x := 1) (y := 1) rfl rfl]; simp; done) | (simp [limb_1_2, Cond.value, Term.eval]; done)))⟩
