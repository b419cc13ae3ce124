/-! the law's wrappers -/
theorem vg_nwi {w : Cond} {i : Nat} (h : tables_1[i]? = some w) (g : vg_isN w = true) : w ∈ vg_nw := List.mem_filter.mpr ⟨List.mem_of_getElem? h, g⟩
theorem ca_A : Cond.castable "java/lang/IllegalArgumentException" "java/lang/IllegalArgumentException" ∈ vg_nw := vg_nwi (i := 208) (by decide +kernel) rfl
theorem ca_S : Cond.castable "java/lang/IllegalStateException" "java/lang/IllegalStateException" ∈ vg_nw := vg_nwi (i := 289) (by decide +kernel) rfl
theorem ca_N : Cond.castable "java/util/NoSuchElementException" "java/util/NoSuchElementException" ∈ vg_nw := vg_nwi (i := 318) (by decide +kernel) rfl
theorem ca_U : Cond.castable "java/lang/UnsupportedOperationException" "java/lang/UnsupportedOperationException" ∈ vg_nw := vg_nwi (i := 345) (by decide +kernel) rfl
theorem cl_A : Cond.classLink "PatternValidatorLaw" 13 "java/lang/IllegalArgumentException" ∈ vg_ws := vg_in (i := 192) (by decide +kernel) (by decide +kernel)
theorem cl_S : Cond.classLink "PatternValidatorLaw" 15 "java/lang/IllegalStateException" ∈ vg_ws := vg_in (i := 193) (by decide +kernel) (by decide +kernel)
theorem cl_N : Cond.classLink "PatternValidatorLaw" 21 "java/util/NoSuchElementException" ∈ vg_ws := vg_in (i := 309) (by decide +kernel) (by decide +kernel)
theorem cl_U : Cond.classLink "PatternValidatorLaw" 23 "java/lang/UnsupportedOperationException" ∈ vg_ws := vg_in (i := 310) (by decide +kernel) (by decide +kernel)
/-- all but 'out' stays -/
def frW (σ τ : sg) : Prop := ∀ j, 117 ≤ j → j ≠ 136 → τ.1 j = σ.1 j ∧ τ.2 j = σ.2 j
theorem IM_fW {σ τ : sg} {P : Pm} (h : frW σ τ) (hI : IM σ P) : IM τ P := by
  unfold IM RM
  rw [(h 117 (by decide) (by decide)).1, (h 118 (by decide) (by decide)).1, (h 119 (by decide) (by decide)).1, (h 120 (by decide) (by decide)).1, (h 121 (by decide) (by decide)).1, (h 122 (by decide) (by decide)).1, (h 123 (by decide) (by decide)).1, (h 124 (by decide) (by decide)).1, (h 125 (by decide) (by decide)).1, (h 126 (by decide) (by decide)).1, (h 127 (by decide) (by decide)).1, (h 128 (by decide) (by decide)).1, (h 129 (by decide) (by decide)).1, (h 130 (by decide) (by decide)).1, (h 131 (by decide) (by decide)).2]
  exact hI
def LR (Z : vg_Z) (ad : Nat → Nat) (σ : sg) (S : Int32 → Int32 → Pm → Prop) (v : Option Value) (w : va_W) : Prop := ∃ c b P' τ, S c b P' ∧ v = some (.int c) ∧ IC τ P' ∧ frW σ τ ∧ (c = 0 → τ.2 136 0 = b.toInt64) ∧ w = wd Z ad τ
section LRS
variable {Z : vg_Z} {M : vg_M} {G : vg_G} {cells slots pc : Nat} {lv : List (Nat × Value)} {rest : List Value} {ws : va_W} {post : Option Value → va_W → Prop} {px : String → va_W → Prop} {mc ms k kd n idx : Nat} {ad : Nat → Nat} {σ τ : sg} {P P' : Pm} {S : Int32 → Int32 → Pm → Prop} {b c : Int32}
theorem LR_t (s : S c 0 P') (i : IC τ P') (f : frC σ τ) (h : c ≠ 0) : LR Z ad σ S (some (.int c)) (wd Z ad τ) := ⟨c, 0, P', τ, s, rfl, i, fun j h1 _ => f j h1, fun z => absurd z h, rfl⟩
theorem LR_0 {y : Int64} (s : S 0 b P') (i : IC τ P') (f : frC σ τ) (hy : y = b.toInt64) : LR Z ad σ S (some (.int 0)) (wd Z ad (sL τ 136 (vp_updL (τ.2 136) 0 y))) := by
  refine ⟨0, b, P', sL τ 136 (vp_updL (τ.2 136) 0 y), s, rfl, i, fun j h1 h2 => ⟨(f j h1).1, (sL_ne _ h2).trans (f j h1).2⟩, fun _ => ?_, rfl⟩
  rw [sL_at, pk_uLs, hy]
theorem vg_enterW {as : List Value} {hh : List (Nat × Nat × Nat × Nat)} (hst : vg_St Z) (hy : plainName (vm_own M) = true) (hw : vm_cw M = Cond.codeWith (vm_y M) (vm_cc M) (vm_n M) (vm_ret M) hh) (hlen : (lg_sl as).length ≤ vm_n M)
    (body : ∀ G : vg_G, vg_C Z M G → (vh_c G).exceptionTable.toList = tableOf hh → vg_Rt Z G mc ms post → vg_K Z M G 0 0 0 (lv_args 0 as) [] ws) : vg_T Z M mc ms as ws post := by
  unfold vg_T Met
  refine MetFree.of_bodyS (code := vm_cc M) (maxLocals := vm_n M) (ret := vm_ret M) hy ?_ ?_
  · intro args s m h hn
    obtain ⟨m9, meth, c, hn9, h1, h2, h3, h4, -, h5, h6, -⟩ := Cond.codeWith_spec (by have q := atoms_spec (ws := vm_ws M) h _ List.mem_cons_self; rw [hw] at q; exact q)
    cases hn.symm.trans hn9
    exact ⟨meth, c, h1, h2, h3, h4, h5, h6⟩
  · intro p e s m args below meth c s₁ B hml hv _
    have hh0 : s₁.heap = s.heap := by rw [B.state]; rfl
    obtain ⟨rfl, hP, hD, hK, hb, hp, hnw⟩ := hv
    have hts := atoms_spec (ws := vm_ws M) B.pre
    have hown' : s.vm.findClass (vm_own M) = some m.cls := findClass_of_methodNamed B.named
    have hnm : meth.name = (vm_y M).name := (name_of_methodNamed B.named B.method).1
    have hl := lv_entry as (n := vm_n M) hlen
    have htb := vx_table (x := vm_y M) B (by have q := hts _ List.mem_cons_self; rw [hw] at q; exact q)
    have K := body (p, e, s, m, as.toArray, below, meth, c, MQ below (vg_Qc Z post) as.toArray s mc ms (fun q => vz_b Z ≤ q)) ⟨B.exec, B.bytes, hml, hown', hts, hK, hb, hp, hst, B.returns, B.notSynchronized, hnm, hnw⟩ htb rfl s.heap [] _ hP hD va_S.rf hl
    rw [← lg_entry_eq] at K
    obtain ⟨t, a1, o, b1, b2, b3⟩ := K s₁ hh0 (Stand.of_body B)
    exact ⟨t, o, a1, b1, b2, ⟨b3.1, b3.2⟩⟩
theorem wr_callVX {M' : vg_M} {As st : List Value} {T : u_T} {N : Nat} (C : vg_C Z M G) (hM : vg_TX Z M' mc ms (.ref (ad k) :: As) (wd Z ad σ) post px) (hL : vg_L M M' n mc ms)
    (hk : Cond.methodLink (vm_own M) idx (vm_y M') ∈ vg_ws ∧ Cond.instanceMethod (vm_y M') ∈ vg_ws ∧ Cond.selects (vm_own M') (vm_y M') (vm_y M') ∈ vg_ws) (hkd : wd_kl[k]? = some kd) (ha : wd_ar kd = none) (hcl : vg_cl[wd_oc kd]? = some (vm_own M', T, N)) (hn : As.length = n) (hst : st = As.reverse ++ .ref (ad k) :: rest) (hW : (rest.map fun v => v.category).sum ≤ 8)
    (d : decode (vm_cc M) pc = .ok (.invokevirtual idx, 3)) (hf : cells + mc ≤ (vm_R M).cells ∧ slots + ms ≤ (vm_R M).slots) (kk : ∀ (v : Option Value) (w : va_W), post v w → vg_K Z M G (cells + mc) (slots + ms) (pc + 3) lv (v.toList ++ rest) w) (kx : ∀ (E : String) (w : va_W), px E w → vg_KX Z M G (cells + mc) (slots + ms) pc lv rest w E) : vg_K Z M G cells slots pc lv st (wd Z ad σ) := by
  have he : (wd Z ad σ)[k]? = some (ad k, .inr (wd_oc kd, wf ad σ k kd)) := by
    rw [wd_at hkd]
    unfold wd_c
    rw [ha]
  exact vg_callVX C hM hL hk he hcl hn hst hW d hf kk kx
end LRS
set_option maxHeartbeats 4000000 in
set_option maxRecDepth 100000 in
theorem c_L_pattern (Z : vg_Z) (hZ : vg_ZP Z) (ad : Nat → Nat) (σ : sg) (x a b : Int32) (P : Pm) (hW : PW P) (hI : IC σ P) : vg_T Z M_L_pattern 1 6 [.ref (ad 0), .int x, .int a, .int b, .ref (ad 136)] (wd Z ad σ) (LR Z ad σ (SpP P x a b)) := by
  have hst := vg_ZP_St hZ
  refine vg_enterW hst (by decide) rfl (Nat.le_of_ble_eq_true rfl) ?_
  intro G C hT hQ
  show vg_K Z M_L_pattern G 0 0 0 [(0, .ref (ad 0)), (1, .int x), (2, .int a), (3, .int b), (4, .ref (ad 136))] [] (wd Z ad σ)
  refine vg_aload C d_L_pattern_0 rfl ?_
  refine vg_iconst (v := 0) C d_L_pattern_2 (by decide) ?_
  refine vg_aload_n C d_L_pattern_3 rfl ?_
  refine vg_iload_n C d_L_pattern_4 rfl ?_
  refine vg_iload_n C d_L_pattern_5 rfl ?_
  refine vg_iload_n C d_L_pattern_6 rfl ?_
  refine wr_callVX (As := [_, _, _]) C (c_V_pattern Z hZ ad σ x a b P hW hI) l_L_pattern_V_pattern k_L_7 rfl rfl rfl rfl rfl (Nat.le_of_ble_eq_true rfl) d_L_pattern_7 ⟨Nat.le_of_ble_eq_true rfl, Nat.le_of_ble_eq_true rfl⟩ (fun v w h => ?_) (fun E w h => ?_)
  · obtain ⟨y, P', τ, s, rfl, i, f, rfl⟩ := h
    refine vg_i2l C d_L_pattern_10 ?_
    refine wr_last C d_L_pattern_11 rfl rfl (by exact (by decide : ¬ ((0 : Int32) < 0 ∨ 1 ≤ (0 : Int32).toNatClampNeg))) ?_
    refine vg_goto (tgt := 23) C d_L_pattern_12 (by decide) ?_
    refine vg_iconst (v := 0) C d_L_pattern_23 (by decide) ?_
    exact vg_ireturn C hQ d_L_pattern_24 rfl (by first | rfl | assumption) (LR_0 s i f rfl)
  · obtain ⟨c, P', τ, s, hm, i, f, rfl⟩ := h
    rcases List.mem_cons.mp hm with q | hm
    · obtain ⟨rfl, rfl⟩ := Prod.mk.inj q
      refine vg_catch (name := "java/lang/IllegalArgumentException") C hZ [] ⟨0, 12, 15, 13⟩ [⟨0, 12, 19, 15⟩] hT (fun z hz => absurd hz List.not_mem_nil) (by decide) (by decide) cl_A ca_A (fun q => ?_)
      refine vg_astore C d_L_pattern_15 (Nat.le_of_ble_eq_true rfl) rfl ?_
      refine vg_iconst (v := 1) C d_L_pattern_17 (by decide) ?_
      exact vg_ireturn C hQ d_L_pattern_18 rfl (by first | rfl | assumption) (LR_t s i f (by decide))
    · skip
      rcases List.mem_cons.mp hm with q | hm
      · obtain ⟨rfl, rfl⟩ := Prod.mk.inj q
        refine vg_catch (name := "java/lang/IllegalStateException") C hZ [⟨0, 12, 15, 13⟩] ⟨0, 12, 19, 15⟩ [] hT (List.forall_mem_cons.mpr ⟨⟨by decide, "java/lang/IllegalArgumentException", cl_A, by decide, by decide, by decide⟩, fun z hz => absurd hz List.not_mem_nil⟩) (by decide) (by decide) cl_S ca_S (fun q => ?_)
        refine vg_astore C d_L_pattern_19 (Nat.le_of_ble_eq_true rfl) rfl ?_
        refine vg_iconst (v := 2) C d_L_pattern_21 (by decide) ?_
        exact vg_ireturn C hQ d_L_pattern_22 rfl (by first | rfl | assumption) (LR_t s i f (by decide))
      · skip
        exact absurd hm List.not_mem_nil
set_option maxHeartbeats 4000000 in
set_option maxRecDepth 100000 in
theorem c_L_define (Z : vg_Z) (hZ : vg_ZP Z) (ad : Nat → Nat) (σ : sg) (d p : Int32) (P : Pm) (hW : PW P) (hI : IC σ P) : vg_T Z M_L_define 1 6 [.ref (ad 0), .int d, .int p, .ref (ad 136)] (wd Z ad σ) (LR Z ad σ (SpD P d p)) := by
  have hst := vg_ZP_St hZ
  refine vg_enterW hst (by decide) rfl (Nat.le_of_ble_eq_true rfl) ?_
  intro G C hT hQ
  show vg_K Z M_L_define G 0 0 0 [(0, .ref (ad 0)), (1, .int d), (2, .int p), (3, .ref (ad 136))] [] (wd Z ad σ)
  refine vg_aload_n C d_L_define_0 rfl ?_
  refine vg_iconst (v := 0) C d_L_define_1 (by decide) ?_
  refine vg_aload_n C d_L_define_2 rfl ?_
  refine vg_iload_n C d_L_define_3 rfl ?_
  refine vg_iload_n C d_L_define_4 rfl ?_
  refine wr_callVX (As := [_, _]) C (c_V_define Z hZ ad σ d p P hW hI) l_L_define_V_define k_L_17 rfl rfl rfl rfl rfl (Nat.le_of_ble_eq_true rfl) d_L_define_5 ⟨Nat.le_of_ble_eq_true rfl, Nat.le_of_ble_eq_true rfl⟩ (fun v w h => ?_) (fun E w h => ?_)
  · obtain ⟨y, P', τ, s, rfl, i, f, rfl⟩ := h
    refine vg_i2l C d_L_define_8 ?_
    refine wr_last C d_L_define_9 rfl rfl (by exact (by decide : ¬ ((0 : Int32) < 0 ∨ 1 ≤ (0 : Int32).toNatClampNeg))) ?_
    refine vg_goto (tgt := 25) C d_L_define_10 (by decide) ?_
    refine vg_iconst (v := 0) C d_L_define_25 (by decide) ?_
    exact vg_ireturn C hQ d_L_define_26 rfl (by first | rfl | assumption) (LR_0 s i f rfl)
  · obtain ⟨c, P', τ, s, hm, i, f, rfl⟩ := h
    rcases List.mem_cons.mp hm with q | hm
    · obtain ⟨rfl, rfl⟩ := Prod.mk.inj q
      refine vg_catch (name := "java/lang/IllegalArgumentException") C hZ [] ⟨0, 10, 13, 13⟩ [⟨0, 10, 17, 21⟩, ⟨0, 10, 21, 23⟩] hT (fun z hz => absurd hz List.not_mem_nil) (by decide) (by decide) cl_A ca_A (fun q => ?_)
      refine vg_astore C d_L_define_13 (Nat.le_of_ble_eq_true rfl) rfl ?_
      refine vg_iconst (v := 1) C d_L_define_15 (by decide) ?_
      exact vg_ireturn C hQ d_L_define_16 rfl (by first | rfl | assumption) (LR_t s i f (by decide))
    · skip
      rcases List.mem_cons.mp hm with q | hm
      · obtain ⟨rfl, rfl⟩ := Prod.mk.inj q
        refine vg_catch (name := "java/util/NoSuchElementException") C hZ [⟨0, 10, 13, 13⟩] ⟨0, 10, 17, 21⟩ [⟨0, 10, 21, 23⟩] hT (List.forall_mem_cons.mpr ⟨⟨by decide, "java/lang/IllegalArgumentException", cl_A, by decide, by decide, by decide⟩, fun z hz => absurd hz List.not_mem_nil⟩) (by decide) (by decide) cl_N ca_N (fun q => ?_)
        refine vg_astore C d_L_define_17 (Nat.le_of_ble_eq_true rfl) rfl ?_
        refine vg_iconst (v := 2) C d_L_define_19 (by decide) ?_
        exact vg_ireturn C hQ d_L_define_20 rfl (by first | rfl | assumption) (LR_t s i f (by decide))
      · skip
        rcases List.mem_cons.mp hm with q | hm
        · obtain ⟨rfl, rfl⟩ := Prod.mk.inj q
          refine vg_catch (name := "java/lang/UnsupportedOperationException") C hZ [⟨0, 10, 13, 13⟩, ⟨0, 10, 17, 21⟩] ⟨0, 10, 21, 23⟩ [] hT (List.forall_mem_cons.mpr ⟨⟨by decide, "java/lang/IllegalArgumentException", cl_A, by decide, by decide, by decide⟩, List.forall_mem_cons.mpr ⟨⟨by decide, "java/util/NoSuchElementException", cl_N, by decide, by decide, by decide⟩, fun z hz => absurd hz List.not_mem_nil⟩⟩) (by decide) (by decide) cl_U ca_U (fun q => ?_)
          refine vg_astore C d_L_define_21 (Nat.le_of_ble_eq_true rfl) rfl ?_
          refine vg_iconst (v := 3) C d_L_define_23 (by decide) ?_
          exact vg_ireturn C hQ d_L_define_24 rfl (by first | rfl | assumption) (LR_t s i f (by decide))
        · skip
          exact absurd hm List.not_mem_nil
set_option maxHeartbeats 4000000 in
set_option maxRecDepth 100000 in
theorem c_L_open (Z : vg_Z) (hZ : vg_ZP Z) (ad : Nat → Nat) (σ : sg) (nm : Int32) (P : Pm) (hW : PW P) (hI : IC σ P) : vg_T Z M_L_open 1 6 [.ref (ad 0), .int nm, .ref (ad 136)] (wd Z ad σ) (LR Z ad σ (SpO P nm)) := by
  have hst := vg_ZP_St hZ
  refine vg_enterW hst (by decide) rfl (Nat.le_of_ble_eq_true rfl) ?_
  intro G C hT hQ
  show vg_K Z M_L_open G 0 0 0 [(0, .ref (ad 0)), (1, .int nm), (2, .ref (ad 136))] [] (wd Z ad σ)
  refine vg_aload_n C d_L_open_0 rfl ?_
  refine vg_iconst (v := 0) C d_L_open_1 (by decide) ?_
  refine vg_aload_n C d_L_open_2 rfl ?_
  refine vg_iload_n C d_L_open_3 rfl ?_
  refine wr_callVX (As := [_]) C (c_V_open Z hZ ad σ nm P hW hI) l_L_open_V_open k_L_25 rfl rfl rfl rfl rfl (Nat.le_of_ble_eq_true rfl) d_L_open_4 ⟨Nat.le_of_ble_eq_true rfl, Nat.le_of_ble_eq_true rfl⟩ (fun v w h => ?_) (fun E w h => ?_)
  · obtain ⟨y, P', τ, s, rfl, i, f, rfl⟩ := h
    refine vg_i2l C d_L_open_7 ?_
    refine wr_last C d_L_open_8 rfl rfl (by exact (by decide : ¬ ((0 : Int32) < 0 ∨ 1 ≤ (0 : Int32).toNatClampNeg))) ?_
    refine vg_goto (tgt := 18) C d_L_open_9 (by decide) ?_
    refine vg_iconst (v := 0) C d_L_open_18 (by decide) ?_
    exact vg_ireturn C hQ d_L_open_19 rfl (by first | rfl | assumption) (LR_0 s i f rfl)
  · obtain ⟨c, P', τ, s, hm, i, f, rfl⟩ := h
    rcases List.mem_cons.mp hm with q | hm
    · obtain ⟨rfl, rfl⟩ := Prod.mk.inj q
      refine vg_catch (name := "java/lang/IllegalArgumentException") C hZ [] ⟨0, 9, 12, 13⟩ [⟨0, 9, 15, 15⟩] hT (fun z hz => absurd hz List.not_mem_nil) (by decide) (by decide) cl_A ca_A (fun q => ?_)
      refine vg_astore_n C d_L_open_12 (Nat.le_of_ble_eq_true rfl) rfl ?_
      refine vg_iconst (v := 1) C d_L_open_13 (by decide) ?_
      exact vg_ireturn C hQ d_L_open_14 rfl (by first | rfl | assumption) (LR_t s i f (by decide))
    · skip
      rcases List.mem_cons.mp hm with q | hm
      · obtain ⟨rfl, rfl⟩ := Prod.mk.inj q
        refine vg_catch (name := "java/lang/IllegalStateException") C hZ [⟨0, 9, 12, 13⟩] ⟨0, 9, 15, 15⟩ [] hT (List.forall_mem_cons.mpr ⟨⟨by decide, "java/lang/IllegalArgumentException", cl_A, by decide, by decide, by decide⟩, fun z hz => absurd hz List.not_mem_nil⟩) (by decide) (by decide) cl_S ca_S (fun q => ?_)
        refine vg_astore_n C d_L_open_15 (Nat.le_of_ble_eq_true rfl) rfl ?_
        refine vg_iconst (v := 2) C d_L_open_16 (by decide) ?_
        exact vg_ireturn C hQ d_L_open_17 rfl (by first | rfl | assumption) (LR_t s i f (by decide))
      · skip
        exact absurd hm List.not_mem_nil
set_option maxHeartbeats 4000000 in
set_option maxRecDepth 100000 in
theorem c_L_attribute (Z : vg_Z) (hZ : vg_ZP Z) (ad : Nat → Nat) (σ : sg) (nm x : Int32) (P : Pm) (hW : PW P) (hI : IC σ P) : vg_T Z M_L_attribute 1 6 [.ref (ad 0), .int nm, .int x, .ref (ad 136)] (wd Z ad σ) (LR Z ad σ (SpA P nm x)) := by
  have hst := vg_ZP_St hZ
  refine vg_enterW hst (by decide) rfl (Nat.le_of_ble_eq_true rfl) ?_
  intro G C hT hQ
  show vg_K Z M_L_attribute G 0 0 0 [(0, .ref (ad 0)), (1, .int nm), (2, .int x), (3, .ref (ad 136))] [] (wd Z ad σ)
  refine vg_aload_n C d_L_attribute_0 rfl ?_
  refine vg_iconst (v := 0) C d_L_attribute_1 (by decide) ?_
  refine vg_aload_n C d_L_attribute_2 rfl ?_
  refine vg_iload_n C d_L_attribute_3 rfl ?_
  refine vg_iload_n C d_L_attribute_4 rfl ?_
  refine wr_callVX (As := [_, _]) C (c_V_attribute Z hZ ad σ nm x P hW hI) l_L_attribute_V_attribute k_L_29 rfl rfl rfl rfl rfl (Nat.le_of_ble_eq_true rfl) d_L_attribute_5 ⟨Nat.le_of_ble_eq_true rfl, Nat.le_of_ble_eq_true rfl⟩ (fun v w h => ?_) (fun E w h => ?_)
  · obtain ⟨y, P', τ, s, rfl, i, f, rfl⟩ := h
    refine vg_i2l C d_L_attribute_8 ?_
    refine wr_last C d_L_attribute_9 rfl rfl (by exact (by decide : ¬ ((0 : Int32) < 0 ∨ 1 ≤ (0 : Int32).toNatClampNeg))) ?_
    refine vg_goto (tgt := 21) C d_L_attribute_10 (by decide) ?_
    refine vg_iconst (v := 0) C d_L_attribute_21 (by decide) ?_
    exact vg_ireturn C hQ d_L_attribute_22 rfl (by first | rfl | assumption) (LR_0 s i f rfl)
  · obtain ⟨c, P', τ, s, hm, i, f, rfl⟩ := h
    rcases List.mem_cons.mp hm with q | hm
    · obtain ⟨rfl, rfl⟩ := Prod.mk.inj q
      refine vg_catch (name := "java/lang/IllegalArgumentException") C hZ [] ⟨0, 10, 13, 13⟩ [⟨0, 10, 17, 15⟩] hT (fun z hz => absurd hz List.not_mem_nil) (by decide) (by decide) cl_A ca_A (fun q => ?_)
      refine vg_astore C d_L_attribute_13 (Nat.le_of_ble_eq_true rfl) rfl ?_
      refine vg_iconst (v := 1) C d_L_attribute_15 (by decide) ?_
      exact vg_ireturn C hQ d_L_attribute_16 rfl (by first | rfl | assumption) (LR_t s i f (by decide))
    · skip
      rcases List.mem_cons.mp hm with q | hm
      · obtain ⟨rfl, rfl⟩ := Prod.mk.inj q
        refine vg_catch (name := "java/lang/IllegalStateException") C hZ [⟨0, 10, 13, 13⟩] ⟨0, 10, 17, 15⟩ [] hT (List.forall_mem_cons.mpr ⟨⟨by decide, "java/lang/IllegalArgumentException", cl_A, by decide, by decide, by decide⟩, fun z hz => absurd hz List.not_mem_nil⟩) (by decide) (by decide) cl_S ca_S (fun q => ?_)
        refine vg_astore C d_L_attribute_17 (Nat.le_of_ble_eq_true rfl) rfl ?_
        refine vg_iconst (v := 2) C d_L_attribute_19 (by decide) ?_
        exact vg_ireturn C hQ d_L_attribute_20 rfl (by first | rfl | assumption) (LR_t s i f (by decide))
      · skip
        exact absurd hm List.not_mem_nil
set_option maxHeartbeats 4000000 in
set_option maxRecDepth 100000 in
theorem c_L_text (Z : vg_Z) (hZ : vg_ZP Z) (ad : Nat → Nat) (σ : sg) (x : Int32) (P : Pm) (hW : PW P) (hI : IC σ P) : vg_T Z M_L_text 1 6 [.ref (ad 0), .int x, .ref (ad 136)] (wd Z ad σ) (LR Z ad σ (SpT P x)) := by
  have hst := vg_ZP_St hZ
  refine vg_enterW hst (by decide) rfl (Nat.le_of_ble_eq_true rfl) ?_
  intro G C hT hQ
  show vg_K Z M_L_text G 0 0 0 [(0, .ref (ad 0)), (1, .int x), (2, .ref (ad 136))] [] (wd Z ad σ)
  refine vg_aload_n C d_L_text_0 rfl ?_
  refine vg_iconst (v := 0) C d_L_text_1 (by decide) ?_
  refine vg_aload_n C d_L_text_2 rfl ?_
  refine vg_iload_n C d_L_text_3 rfl ?_
  refine wr_callVX (As := [_]) C (c_V_text Z hZ ad σ x P hW hI) l_L_text_V_text k_L_32 rfl rfl rfl rfl rfl (Nat.le_of_ble_eq_true rfl) d_L_text_4 ⟨Nat.le_of_ble_eq_true rfl, Nat.le_of_ble_eq_true rfl⟩ (fun v w h => ?_) (fun E w h => ?_)
  · obtain ⟨y, P', τ, s, rfl, i, f, rfl⟩ := h
    refine vg_i2l C d_L_text_7 ?_
    refine wr_last C d_L_text_8 rfl rfl (by exact (by decide : ¬ ((0 : Int32) < 0 ∨ 1 ≤ (0 : Int32).toNatClampNeg))) ?_
    refine vg_goto (tgt := 15) C d_L_text_9 (by decide) ?_
    refine vg_iconst (v := 0) C d_L_text_15 (by decide) ?_
    exact vg_ireturn C hQ d_L_text_16 rfl (by first | rfl | assumption) (LR_0 s i f rfl)
  · obtain ⟨c, P', τ, s, hm, i, f, rfl⟩ := h
    rcases List.mem_cons.mp hm with q | hm
    · obtain ⟨rfl, rfl⟩ := Prod.mk.inj q
      refine vg_catch (name := "java/lang/IllegalStateException") C hZ [] ⟨0, 9, 12, 15⟩ [] hT (fun z hz => absurd hz List.not_mem_nil) (by decide) (by decide) cl_S ca_S (fun q => ?_)
      refine vg_astore_n C d_L_text_12 (Nat.le_of_ble_eq_true rfl) rfl ?_
      refine vg_iconst (v := 1) C d_L_text_13 (by decide) ?_
      exact vg_ireturn C hQ d_L_text_14 rfl (by first | rfl | assumption) (LR_t s i f (by decide))
    · skip
      exact absurd hm List.not_mem_nil
set_option maxHeartbeats 4000000 in
set_option maxRecDepth 100000 in
theorem c_L_close (Z : vg_Z) (hZ : vg_ZP Z) (ad : Nat → Nat) (σ : sg) (P : Pm) (hW : PW P) (hI : IC σ P) : vg_T Z M_L_close 1 6 [.ref (ad 0), .ref (ad 136)] (wd Z ad σ) (LR Z ad σ (SpC P)) := by
  have hst := vg_ZP_St hZ
  refine vg_enterW hst (by decide) rfl (Nat.le_of_ble_eq_true rfl) ?_
  intro G C hT hQ
  show vg_K Z M_L_close G 0 0 0 [(0, .ref (ad 0)), (1, .ref (ad 136))] [] (wd Z ad σ)
  refine vg_aload_n C d_L_close_0 rfl ?_
  refine vg_iconst (v := 0) C d_L_close_1 (by decide) ?_
  refine vg_aload_n C d_L_close_2 rfl ?_
  refine wr_callVX (As := []) C (c_V_close Z hZ ad σ  P hW hI) l_L_close_V_close k_L_35 rfl rfl rfl rfl rfl (Nat.le_of_ble_eq_true rfl) d_L_close_3 ⟨Nat.le_of_ble_eq_true rfl, Nat.le_of_ble_eq_true rfl⟩ (fun v w h => ?_) (fun E w h => ?_)
  · obtain ⟨y, P', τ, s, rfl, i, f, rfl⟩ := h
    refine vg_i2l C d_L_close_6 ?_
    refine wr_last C d_L_close_7 rfl rfl (by exact (by decide : ¬ ((0 : Int32) < 0 ∨ 1 ≤ (0 : Int32).toNatClampNeg))) ?_
    refine vg_goto (tgt := 14) C d_L_close_8 (by decide) ?_
    refine vg_iconst (v := 0) C d_L_close_14 (by decide) ?_
    exact vg_ireturn C hQ d_L_close_15 rfl (by first | rfl | assumption) (LR_0 s i f rfl)
  · obtain ⟨c, P', τ, s, hm, i, f, rfl⟩ := h
    rcases List.mem_cons.mp hm with q | hm
    · obtain ⟨rfl, rfl⟩ := Prod.mk.inj q
      refine vg_catch (name := "java/lang/IllegalStateException") C hZ [] ⟨0, 8, 11, 15⟩ [] hT (fun z hz => absurd hz List.not_mem_nil) (by decide) (by decide) cl_S ca_S (fun q => ?_)
      refine vg_astore_n C d_L_close_11 (Nat.le_of_ble_eq_true rfl) rfl ?_
      refine vg_iconst (v := 1) C d_L_close_12 (by decide) ?_
      exact vg_ireturn C hQ d_L_close_13 rfl (by first | rfl | assumption) (LR_t s i f (by decide))
    · skip
      exact absurd hm List.not_mem_nil
set_option maxHeartbeats 4000000 in
set_option maxRecDepth 100000 in
theorem c_L_matches (Z : vg_Z) (hZ : vg_ZP Z) (ad : Nat → Nat) (σ : sg) (p t : Int32) (P : Pm) (hW : PW P) (hI : IC σ P) : vg_T Z M_L_matches 1 6 [.ref (ad 0), .int p, .int t, .ref (ad 136)] (wd Z ad σ) (LR Z ad σ (SpM P p t)) := by
  have hst := vg_ZP_St hZ
  refine vg_enterW hst (by decide) rfl (Nat.le_of_ble_eq_true rfl) ?_
  intro G C hT hQ
  show vg_K Z M_L_matches G 0 0 0 [(0, .ref (ad 0)), (1, .int p), (2, .int t), (3, .ref (ad 136))] [] (wd Z ad σ)
  refine vg_aload_n C d_L_matches_0 rfl ?_
  refine vg_iconst (v := 0) C d_L_matches_1 (by decide) ?_
  refine vg_aload_n C d_L_matches_2 rfl ?_
  refine vg_iload_n C d_L_matches_3 rfl ?_
  refine vg_iload_n C d_L_matches_4 rfl ?_
  refine wr_callVX (As := [_, _]) C (c_V_matches Z hZ ad σ p t P hW hI) l_L_matches_V_matches k_L_39 rfl rfl rfl rfl rfl (Nat.le_of_ble_eq_true rfl) d_L_matches_5 ⟨Nat.le_of_ble_eq_true rfl, Nat.le_of_ble_eq_true rfl⟩ (fun v w h => ?_) (fun E w h => ?_)
  · obtain ⟨y, P', τ, s, rfl, i, f, rfl⟩ := h
    refine vg_i2l C d_L_matches_8 ?_
    refine wr_last C d_L_matches_9 rfl rfl (by exact (by decide : ¬ ((0 : Int32) < 0 ∨ 1 ≤ (0 : Int32).toNatClampNeg))) ?_
    refine vg_goto (tgt := 17) C d_L_matches_10 (by decide) ?_
    refine vg_iconst (v := 0) C d_L_matches_17 (by decide) ?_
    exact vg_ireturn C hQ d_L_matches_18 rfl (by first | rfl | assumption) (LR_0 s i f rfl)
  · obtain ⟨c, P', τ, s, hm, i, f, rfl⟩ := h
    rcases List.mem_cons.mp hm with q | hm
    · obtain ⟨rfl, rfl⟩ := Prod.mk.inj q
      refine vg_catch (name := "java/util/NoSuchElementException") C hZ [] ⟨0, 10, 13, 21⟩ [] hT (fun z hz => absurd hz List.not_mem_nil) (by decide) (by decide) cl_N ca_N (fun q => ?_)
      refine vg_astore C d_L_matches_13 (Nat.le_of_ble_eq_true rfl) rfl ?_
      refine vg_iconst (v := 1) C d_L_matches_15 (by decide) ?_
      exact vg_ireturn C hQ d_L_matches_16 rfl (by first | rfl | assumption) (LR_t s i f (by decide))
    · skip
      exact absurd hm List.not_mem_nil
set_option maxHeartbeats 4000000 in
set_option maxRecDepth 100000 in
theorem c_L_content (Z : vg_Z) (hZ : vg_ZP Z) (ad : Nat → Nat) (σ : sg) (p t : Int32) (P : Pm) (hW : PW P) (hI : IC σ P) : vg_T Z M_L_content 1 6 [.ref (ad 0), .int p, .int t, .ref (ad 136)] (wd Z ad σ) (LR Z ad σ (SpK P p t)) := by
  have hst := vg_ZP_St hZ
  refine vg_enterW hst (by decide) rfl (Nat.le_of_ble_eq_true rfl) ?_
  intro G C hT hQ
  show vg_K Z M_L_content G 0 0 0 [(0, .ref (ad 0)), (1, .int p), (2, .int t), (3, .ref (ad 136))] [] (wd Z ad σ)
  refine vg_aload_n C d_L_content_0 rfl ?_
  refine vg_iconst (v := 0) C d_L_content_1 (by decide) ?_
  refine vg_aload_n C d_L_content_2 rfl ?_
  refine vg_iload_n C d_L_content_3 rfl ?_
  refine vg_iload_n C d_L_content_4 rfl ?_
  refine wr_callVX (As := [_, _]) C (c_V_content Z hZ ad σ p t P hW hI) l_L_content_V_content k_L_42 rfl rfl rfl rfl rfl (Nat.le_of_ble_eq_true rfl) d_L_content_5 ⟨Nat.le_of_ble_eq_true rfl, Nat.le_of_ble_eq_true rfl⟩ (fun v w h => ?_) (fun E w h => ?_)
  · obtain ⟨y, P', τ, s, rfl, i, f, rfl⟩ := h
    refine vg_i2l C d_L_content_8 ?_
    refine wr_last C d_L_content_9 rfl rfl (by exact (by decide : ¬ ((0 : Int32) < 0 ∨ 1 ≤ (0 : Int32).toNatClampNeg))) ?_
    refine vg_goto (tgt := 17) C d_L_content_10 (by decide) ?_
    refine vg_iconst (v := 0) C d_L_content_17 (by decide) ?_
    exact vg_ireturn C hQ d_L_content_18 rfl (by first | rfl | assumption) (LR_0 s i f rfl)
  · obtain ⟨c, P', τ, s, hm, i, f, rfl⟩ := h
    rcases List.mem_cons.mp hm with q | hm
    · obtain ⟨rfl, rfl⟩ := Prod.mk.inj q
      refine vg_catch (name := "java/util/NoSuchElementException") C hZ [] ⟨0, 10, 13, 21⟩ [] hT (fun z hz => absurd hz List.not_mem_nil) (by decide) (by decide) cl_N ca_N (fun q => ?_)
      refine vg_astore C d_L_content_13 (Nat.le_of_ble_eq_true rfl) rfl ?_
      refine vg_iconst (v := 1) C d_L_content_15 (by decide) ?_
      exact vg_ireturn C hQ d_L_content_16 rfl (by first | rfl | assumption) (LR_t s i f (by decide))
    · skip
      exact absurd hm List.not_mem_nil
set_option maxHeartbeats 4000000 in
set_option maxRecDepth 100000 in
theorem c_L_longest (Z : vg_Z) (hZ : vg_ZP Z) (ad : Nat → Nat) (σ : sg) (p t : Int32) (P : Pm) (hW : PW P) (hI : IC σ P) : vg_T Z M_L_longest 1 6 [.ref (ad 0), .int p, .int t, .ref (ad 136)] (wd Z ad σ) (LR Z ad σ (SpL P p t)) := by
  have hst := vg_ZP_St hZ
  refine vg_enterW hst (by decide) rfl (Nat.le_of_ble_eq_true rfl) ?_
  intro G C hT hQ
  show vg_K Z M_L_longest G 0 0 0 [(0, .ref (ad 0)), (1, .int p), (2, .int t), (3, .ref (ad 136))] [] (wd Z ad σ)
  refine vg_aload_n C d_L_longest_0 rfl ?_
  refine vg_iconst (v := 0) C d_L_longest_1 (by decide) ?_
  refine vg_aload_n C d_L_longest_2 rfl ?_
  refine vg_iload_n C d_L_longest_3 rfl ?_
  refine vg_iload_n C d_L_longest_4 rfl ?_
  refine wr_callVX (As := [_, _]) C (c_V_longest Z hZ ad σ p t P hW hI) l_L_longest_V_longest k_L_45 rfl rfl rfl rfl rfl (Nat.le_of_ble_eq_true rfl) d_L_longest_5 ⟨Nat.le_of_ble_eq_true rfl, Nat.le_of_ble_eq_true rfl⟩ (fun v w h => ?_) (fun E w h => ?_)
  · obtain ⟨y, P', τ, s, rfl, i, f, rfl⟩ := h
    refine vg_i2l C d_L_longest_8 ?_
    refine wr_last C d_L_longest_9 rfl rfl (by exact (by decide : ¬ ((0 : Int32) < 0 ∨ 1 ≤ (0 : Int32).toNatClampNeg))) ?_
    refine vg_goto (tgt := 21) C d_L_longest_10 (by decide) ?_
    refine vg_iconst (v := 0) C d_L_longest_21 (by decide) ?_
    exact vg_ireturn C hQ d_L_longest_22 rfl (by first | rfl | assumption) (LR_0 s i f rfl)
  · obtain ⟨c, P', τ, s, hm, i, f, rfl⟩ := h
    rcases List.mem_cons.mp hm with q | hm
    · obtain ⟨rfl, rfl⟩ := Prod.mk.inj q
      refine vg_catch (name := "java/util/NoSuchElementException") C hZ [] ⟨0, 10, 13, 21⟩ [⟨0, 10, 17, 23⟩] hT (fun z hz => absurd hz List.not_mem_nil) (by decide) (by decide) cl_N ca_N (fun q => ?_)
      refine vg_astore C d_L_longest_13 (Nat.le_of_ble_eq_true rfl) rfl ?_
      refine vg_iconst (v := 1) C d_L_longest_15 (by decide) ?_
      exact vg_ireturn C hQ d_L_longest_16 rfl (by first | rfl | assumption) (LR_t s i f (by decide))
    · skip
      rcases List.mem_cons.mp hm with q | hm
      · obtain ⟨rfl, rfl⟩ := Prod.mk.inj q
        refine vg_catch (name := "java/lang/UnsupportedOperationException") C hZ [⟨0, 10, 13, 21⟩] ⟨0, 10, 17, 23⟩ [] hT (List.forall_mem_cons.mpr ⟨⟨by decide, "java/util/NoSuchElementException", cl_N, by decide, by decide, by decide⟩, fun z hz => absurd hz List.not_mem_nil⟩) (by decide) (by decide) cl_U ca_U (fun q => ?_)
        refine vg_astore C d_L_longest_17 (Nat.le_of_ble_eq_true rfl) rfl ?_
        refine vg_iconst (v := 2) C d_L_longest_19 (by decide) ?_
        exact vg_ireturn C hQ d_L_longest_20 rfl (by first | rfl | assumption) (LR_t s i f (by decide))
      · skip
        exact absurd hm List.not_mem_nil
set_option maxHeartbeats 4000000 in
set_option maxRecDepth 100000 in
theorem c_L_find (Z : vg_Z) (hZ : vg_ZP Z) (ad : Nat → Nat) (σ : sg) (p : Int32) (P : Pm) (hW : PW P) (hI : IC σ P) : vg_T Z M_L_find 1 6 [.ref (ad 0), .int p, .ref (ad 136)] (wd Z ad σ) (LR Z ad σ (SpF P p)) := by
  have hst := vg_ZP_St hZ
  refine vg_enterW hst (by decide) rfl (Nat.le_of_ble_eq_true rfl) ?_
  intro G C hT hQ
  show vg_K Z M_L_find G 0 0 0 [(0, .ref (ad 0)), (1, .int p), (2, .ref (ad 136))] [] (wd Z ad σ)
  refine vg_aload_n C d_L_find_0 rfl ?_
  refine vg_iconst (v := 0) C d_L_find_1 (by decide) ?_
  refine vg_aload_n C d_L_find_2 rfl ?_
  refine vg_iload_n C d_L_find_3 rfl ?_
  refine wr_callVX (As := [_]) C (c_V_find Z hZ ad σ p P hW hI) l_L_find_V_find k_L_48 rfl rfl rfl rfl rfl (Nat.le_of_ble_eq_true rfl) d_L_find_4 ⟨Nat.le_of_ble_eq_true rfl, Nat.le_of_ble_eq_true rfl⟩ (fun v w h => ?_) (fun E w h => ?_)
  · obtain ⟨y, P', τ, s, rfl, i, f, rfl⟩ := h
    refine vg_i2l C d_L_find_7 ?_
    refine wr_last C d_L_find_8 rfl rfl (by exact (by decide : ¬ ((0 : Int32) < 0 ∨ 1 ≤ (0 : Int32).toNatClampNeg))) ?_
    refine vg_goto (tgt := 18) C d_L_find_9 (by decide) ?_
    refine vg_iconst (v := 0) C d_L_find_18 (by decide) ?_
    exact vg_ireturn C hQ d_L_find_19 rfl (by first | rfl | assumption) (LR_0 s i f rfl)
  · obtain ⟨c, P', τ, s, hm, i, f, rfl⟩ := h
    rcases List.mem_cons.mp hm with q | hm
    · obtain ⟨rfl, rfl⟩ := Prod.mk.inj q
      refine vg_catch (name := "java/util/NoSuchElementException") C hZ [] ⟨0, 9, 12, 21⟩ [⟨0, 9, 15, 23⟩] hT (fun z hz => absurd hz List.not_mem_nil) (by decide) (by decide) cl_N ca_N (fun q => ?_)
      refine vg_astore_n C d_L_find_12 (Nat.le_of_ble_eq_true rfl) rfl ?_
      refine vg_iconst (v := 1) C d_L_find_13 (by decide) ?_
      exact vg_ireturn C hQ d_L_find_14 rfl (by first | rfl | assumption) (LR_t s i f (by decide))
    · skip
      rcases List.mem_cons.mp hm with q | hm
      · obtain ⟨rfl, rfl⟩ := Prod.mk.inj q
        refine vg_catch (name := "java/lang/UnsupportedOperationException") C hZ [⟨0, 9, 12, 21⟩] ⟨0, 9, 15, 23⟩ [] hT (List.forall_mem_cons.mpr ⟨⟨by decide, "java/util/NoSuchElementException", cl_N, by decide, by decide, by decide⟩, fun z hz => absurd hz List.not_mem_nil⟩) (by decide) (by decide) cl_U ca_U (fun q => ?_)
        refine vg_astore_n C d_L_find_15 (Nat.le_of_ble_eq_true rfl) rfl ?_
        refine vg_iconst (v := 2) C d_L_find_16 (by decide) ?_
        exact vg_ireturn C hQ d_L_find_17 rfl (by first | rfl | assumption) (LR_t s i f (by decide))
      · skip
        exact absurd hm List.not_mem_nil
set_option maxHeartbeats 4000000 in
set_option maxRecDepth 100000 in
theorem c_L_nullable (Z : vg_Z) (hZ : vg_ZP Z) (ad : Nat → Nat) (σ : sg) (p : Int32) (P : Pm) (hW : PW P) (hI : IC σ P) : vg_T Z M_L_nullable 1 6 [.ref (ad 0), .int p, .ref (ad 136)] (wd Z ad σ) (LR Z ad σ (SpN P p)) := by
  have hst := vg_ZP_St hZ
  refine vg_enterW hst (by decide) rfl (Nat.le_of_ble_eq_true rfl) ?_
  intro G C hT hQ
  show vg_K Z M_L_nullable G 0 0 0 [(0, .ref (ad 0)), (1, .int p), (2, .ref (ad 136))] [] (wd Z ad σ)
  refine vg_aload_n C d_L_nullable_0 rfl ?_
  refine vg_iconst (v := 0) C d_L_nullable_1 (by decide) ?_
  refine vg_aload_n C d_L_nullable_2 rfl ?_
  refine vg_iload_n C d_L_nullable_3 rfl ?_
  refine wr_callVX (As := [_]) C (c_V_nullable Z hZ ad σ p P hW hI) l_L_nullable_V_nullable k_L_51 rfl rfl rfl rfl rfl (Nat.le_of_ble_eq_true rfl) d_L_nullable_4 ⟨Nat.le_of_ble_eq_true rfl, Nat.le_of_ble_eq_true rfl⟩ (fun v w h => ?_) (fun E w h => ?_)
  · obtain ⟨y, P', τ, s, rfl, i, f, rfl⟩ := h
    refine vg_i2l C d_L_nullable_7 ?_
    refine wr_last C d_L_nullable_8 rfl rfl (by exact (by decide : ¬ ((0 : Int32) < 0 ∨ 1 ≤ (0 : Int32).toNatClampNeg))) ?_
    refine vg_goto (tgt := 15) C d_L_nullable_9 (by decide) ?_
    refine vg_iconst (v := 0) C d_L_nullable_15 (by decide) ?_
    exact vg_ireturn C hQ d_L_nullable_16 rfl (by first | rfl | assumption) (LR_0 s i f rfl)
  · obtain ⟨c, P', τ, s, hm, i, f, rfl⟩ := h
    rcases List.mem_cons.mp hm with q | hm
    · obtain ⟨rfl, rfl⟩ := Prod.mk.inj q
      refine vg_catch (name := "java/util/NoSuchElementException") C hZ [] ⟨0, 9, 12, 21⟩ [] hT (fun z hz => absurd hz List.not_mem_nil) (by decide) (by decide) cl_N ca_N (fun q => ?_)
      refine vg_astore_n C d_L_nullable_12 (Nat.le_of_ble_eq_true rfl) rfl ?_
      refine vg_iconst (v := 1) C d_L_nullable_13 (by decide) ?_
      exact vg_ireturn C hQ d_L_nullable_14 rfl (by first | rfl | assumption) (LR_t s i f (by decide))
    · skip
      exact absurd hm List.not_mem_nil
set_option maxHeartbeats 4000000 in
set_option maxRecDepth 100000 in
theorem c_L_count (Z : vg_Z) (hZ : vg_ZP Z) (ad : Nat → Nat) (σ : sg) (x : Int32) (P : Pm) (hW : PW P) (hI : IC σ P) : vg_T Z M_L_count 1 6 [.ref (ad 0), .int x, .ref (ad 136)] (wd Z ad σ) (LR Z ad σ (SpU P x)) := by
  have hst := vg_ZP_St hZ
  refine vg_enterW hst (by decide) rfl (Nat.le_of_ble_eq_true rfl) ?_
  intro G C hT hQ
  show vg_K Z M_L_count G 0 0 0 [(0, .ref (ad 0)), (1, .int x), (2, .ref (ad 136))] [] (wd Z ad σ)
  refine vg_aload_n C d_L_count_0 rfl ?_
  refine vg_iconst (v := 0) C d_L_count_1 (by decide) ?_
  refine vg_aload_n C d_L_count_2 rfl ?_
  refine vg_iload_n C d_L_count_3 rfl ?_
  refine wr_callVX (As := [_]) C (c_V_count Z hZ ad σ x P hW hI) l_L_count_V_count k_L_54 rfl rfl rfl rfl rfl (Nat.le_of_ble_eq_true rfl) d_L_count_4 ⟨Nat.le_of_ble_eq_true rfl, Nat.le_of_ble_eq_true rfl⟩ (fun v w h => ?_) (fun E w h => ?_)
  · obtain ⟨y, P', τ, s, rfl, i, f, rfl⟩ := h
    refine vg_i2l C d_L_count_7 ?_
    refine wr_last C d_L_count_8 rfl rfl (by exact (by decide : ¬ ((0 : Int32) < 0 ∨ 1 ≤ (0 : Int32).toNatClampNeg))) ?_
    refine vg_goto (tgt := 15) C d_L_count_9 (by decide) ?_
    refine vg_iconst (v := 0) C d_L_count_15 (by decide) ?_
    exact vg_ireturn C hQ d_L_count_16 rfl (by first | rfl | assumption) (LR_0 s i f rfl)
  · obtain ⟨c, P', τ, s, hm, i, f, rfl⟩ := h
    rcases List.mem_cons.mp hm with q | hm
    · obtain ⟨rfl, rfl⟩ := Prod.mk.inj q
      refine vg_catch (name := "java/lang/IllegalArgumentException") C hZ [] ⟨0, 9, 12, 13⟩ [] hT (fun z hz => absurd hz List.not_mem_nil) (by decide) (by decide) cl_A ca_A (fun q => ?_)
      refine vg_astore_n C d_L_count_12 (Nat.le_of_ble_eq_true rfl) rfl ?_
      refine vg_iconst (v := 1) C d_L_count_13 (by decide) ?_
      exact vg_ireturn C hQ d_L_count_14 rfl (by first | rfl | assumption) (LR_t s i f (by decide))
    · skip
      exact absurd hm List.not_mem_nil
