/-! the law's loop -/
abbrev M_L_law : vg_M := (room_1, 7, code, x, ret, Cond.initialized "PatternValidatorLaw")
section LAW
variable {Z : vg_Z} {M : vg_M} {G : vg_G} {cells slots pc : Nat} {lv : List (Nat × Value)} {rest : List Value} {ws : va_W}
theorem vg_sld (C : vg_C Z M G) {b L : Nat} {xs : Nat → Int32} (hX : va_X b L xs (vh_s G) (vh_s G).heap) (hbl : b < (vh_s G).heap.size) (hbA : ¬ vz_b Z ≤ b) {u : Int32} (hin : vp_in u L) (d : decode (vm_cc M) pc = .ok (.iaload, 1)) (kk : vg_K Z M G cells slots (pc + 1) lv (.int (xs u.toNatClampNeg) :: rest) ws) : vg_K Z M G cells slots pc lv (.int u :: .ref b :: rest) ws := fun H locs ls hP hD hS hl => va_sld C.1 C.2.1 hX hbl hbA hS hin d (kk H locs ls hP hD hS hl)
theorem vg_slen (C : vg_C Z M G) {b L : Nat} {xs : Nat → Int32} (hX : va_X b L xs (vh_s G) (vh_s G).heap) (hbl : b < (vh_s G).heap.size) (hbA : ¬ vz_b Z ≤ b) (d : decode (vm_cc M) pc = .ok (.arraylength, 1)) (kk : vg_K Z M G cells slots (pc + 1) lv (.int (nI L) :: rest) ws) : vg_K Z M G cells slots pc lv (.ref b :: rest) ws := fun H locs ls hP hD hS hl => va_slen C.1 C.2.1 hX hbl hbA hS d (kk H locs ls hP hD hS hl)
def vg_LW (M M' : vg_M) (n mc ms : Nat) (hh : List (Nat × Nat × Nat × Nat)) : Prop := vm_cw M' ∈ vg_ws ∧ vm_cw M' = Cond.codeWith (vm_y M') (vm_cc M') (vm_n M') (vm_ret M') hh ∧ (vm_R M').cells = mc ∧ (vm_R M').slots = ms ∧ ((vm_own M') ≠ "java/lang/invoke/MethodHandle" ∧ (vm_own M') ≠ "java/lang/invoke/VarHandle" ∧ (parseMethodDescriptor (vm_y M').desc).map (fun d => d.parameters.length) = some n) ∧ ((vm_R M').frames + 1 ≤ (vm_R M).frames ∧ 8 + ((vm_n M') + 11) + (vm_R M').locals ≤ (vm_R M).locals) ∧ Cond.initialized (vm_own M') ∈ vg_ws
theorem vg_callSW {post : Option Value → va_W → Prop} {M' : vg_M} {n mc ms idx : Nat} {hh : List (Nat × Nat × Nat × Nat)} {As st : List Value} (C : vg_C Z M G) (hM : vg_T Z M' mc ms As ws post) (hL : vg_LW M M' n mc ms hh)
    (hk : Cond.methodLink (vm_own M) idx (vm_y M') ∈ vg_ws ∧ Cond.static (vm_y M') ∈ vg_ws) (hn : As.length = n) (hst : st = As.reverse ++ rest) (hW : (rest.map fun v => v.category).sum ≤ 8)
    (d : decode (vm_cc M) pc = .ok (.invokestatic idx, 3)) (hf : cells + mc ≤ (vm_R M).cells ∧ slots + ms ≤ (vm_R M).slots) (kk : ∀ (v : Option Value) (w : va_W), post v w → vg_K Z M G (cells + mc) (slots + ms) (pc + 3) lv (v.toList ++ rest) w) : vg_K Z M G cells slots pc lv st ws := by
  intro H locs ls hP hD hS hl
  obtain ⟨hcw, hw, hrc, hrs, hd, hR, hini⟩ := hL
  have hts := C.2.2.2.2.1
  have hG0 : ∀ w ∈ vg_ws, w ∈ vm_ws M ∧ ((w.onTables && w.keeps) = true ∨ ∃ ty, w = .arrayClass ty) := fun w h => ⟨List.mem_cons_of_mem _ h, vg_ws_good h⟩
  have hG : GoodIn (vm_ws M) (va_wsS (vm_own M) idx (vm_y M') (vm_ws M')) := by
    intro w hw
    unfold va_wsS at hw
    rcases List.mem_append.mp hw with h | h
    · rcases List.mem_cons.mp h with rfl | h
      · exact hG0 _ hk.1
      · rcases List.mem_cons.mp h with rfl | h
        · exact hG0 _ hk.2
        · rcases List.mem_cons.mp h with rfl | h
          · exact hG0 _ hini
          · exact absurd h List.not_mem_nil
    · rcases List.mem_cons.mp h with e | h
      · rw [e]
        exact hG0 _ hcw
      · exact hG0 _ h
  have hw : vm_ws M' = Cond.codeWith (vm_y M') (vm_cc M') (vm_n M') (vm_ret M') hh :: vg_ws := congrArg (· :: vg_ws) hw
  exact vg_after C hS hl (vx_runSW (As := As) (rest := rest) ⟨C.1, C.2.1, C.2.2.1, C.2.2.2.1, hts⟩ hM (vx_cwSW n hts hG hw hrc hrs hd hR) ⟨vg_blind C.2.2.2.2.2.2.2.2.1 _, vg_pre C hP hD hS _⟩ rfl hn hl.1 hst (lv_room hW) d hf) kk
end LAW
theorem gd_29 {L i : Nat} (hL : L ≤ 2048) (hi : i ≤ 4096) : nI L - 4 < nI i ↔ L < i + 4 := by
  rcases Nat.lt_or_ge L 4 with h | h
  · have e : (nI L - 4).toInt = (L : Int) - 4 := by
      rcases (show L = 0 ∨ L = 1 ∨ L = 2 ∨ L = 3 by omega) with rfl | rfl | rfl | rfl <;> decide
    rw [Int32.lt_iff_toInt_lt, e, nI_toInt (by omega)]
    omega
  · rw [show (4 : Int32) = nI 4 from rfl, nI_sb h, nI_ltJ (by omega) (by omega)]
    omega
theorem nI_4s (n : Nat) : nI (4 * n) + Int32.ofInt 4 = nI (4 * (n + 1)) := by
  rw [show Int32.ofInt 4 = nI 4 from by decide, nI_add, show 4 * n + 4 = 4 * (n + 1) by omega]
theorem l_L_law_V_init : vg_L M_L_law M_V_init 0 116 1202 := ⟨w_V_init, rfl, rfl, rfl, ⟨by decide, by decide, by decide +kernel⟩, ⟨by decide, by decide⟩, j_V⟩
theorem l_L_law_R_init : vg_L M_L_law M_R_init 0 18 4132 := ⟨w_R_init, rfl, rfl, rfl, ⟨by decide, by decide, by decide +kernel⟩, ⟨by decide, by decide⟩, j_R⟩
theorem l_L_law_L_pattern : vg_LW M_L_law M_L_pattern 5 1 6 [((0 : Nat), (12 : Nat), (15 : Nat), (13 : Nat)), ((0 : Nat), (12 : Nat), (19 : Nat), (15 : Nat))] := ⟨w_L_pattern, rfl, rfl, rfl, ⟨by decide, by decide, by decide +kernel⟩, ⟨by decide, by decide⟩, j_L⟩
theorem l_L_law_R_pattern : vg_L M_L_law M_R_pattern 3 0 0 := ⟨w_R_pattern, rfl, rfl, rfl, ⟨by decide, by decide, by decide +kernel⟩, ⟨by decide, by decide⟩, j_R⟩
theorem l_L_law_R_thrown : vg_L M_L_law M_R_thrown 0 0 0 := ⟨w_R_thrown, rfl, rfl, rfl, ⟨by decide, by decide, by decide +kernel⟩, ⟨by decide, by decide⟩, j_R⟩
theorem l_L_law_L_define : vg_LW M_L_law M_L_define 4 1 6 [((0 : Nat), (10 : Nat), (13 : Nat), (13 : Nat)), ((0 : Nat), (10 : Nat), (17 : Nat), (21 : Nat)), ((0 : Nat), (10 : Nat), (21 : Nat), (23 : Nat))] := ⟨w_L_define, rfl, rfl, rfl, ⟨by decide, by decide, by decide +kernel⟩, ⟨by decide, by decide⟩, j_L⟩
theorem l_L_law_R_define : vg_L M_L_law M_R_define 2 0 0 := ⟨w_R_define, rfl, rfl, rfl, ⟨by decide, by decide, by decide +kernel⟩, ⟨by decide, by decide⟩, j_R⟩
theorem l_L_law_L_open : vg_LW M_L_law M_L_open 3 1 6 [((0 : Nat), (9 : Nat), (12 : Nat), (13 : Nat)), ((0 : Nat), (9 : Nat), (15 : Nat), (15 : Nat))] := ⟨w_L_open, rfl, rfl, rfl, ⟨by decide, by decide, by decide +kernel⟩, ⟨by decide, by decide⟩, j_L⟩
theorem l_L_law_R_open : vg_L M_L_law M_R_open 1 0 0 := ⟨w_R_open, rfl, rfl, rfl, ⟨by decide, by decide, by decide +kernel⟩, ⟨by decide, by decide⟩, j_R⟩
theorem l_L_law_L_attribute : vg_LW M_L_law M_L_attribute 4 1 6 [((0 : Nat), (10 : Nat), (13 : Nat), (13 : Nat)), ((0 : Nat), (10 : Nat), (17 : Nat), (15 : Nat))] := ⟨w_L_attribute, rfl, rfl, rfl, ⟨by decide, by decide, by decide +kernel⟩, ⟨by decide, by decide⟩, j_L⟩
theorem l_L_law_R_attribute : vg_L M_L_law M_R_attribute 2 0 0 := ⟨w_R_attribute, rfl, rfl, rfl, ⟨by decide, by decide, by decide +kernel⟩, ⟨by decide, by decide⟩, j_R⟩
theorem l_L_law_L_text : vg_LW M_L_law M_L_text 3 1 6 [((0 : Nat), (9 : Nat), (12 : Nat), (15 : Nat))] := ⟨w_L_text, rfl, rfl, rfl, ⟨by decide, by decide, by decide +kernel⟩, ⟨by decide, by decide⟩, j_L⟩
theorem l_L_law_R_text : vg_L M_L_law M_R_text 1 0 0 := ⟨w_R_text, rfl, rfl, rfl, ⟨by decide, by decide, by decide +kernel⟩, ⟨by decide, by decide⟩, j_R⟩
theorem l_L_law_L_close : vg_LW M_L_law M_L_close 2 1 6 [((0 : Nat), (8 : Nat), (11 : Nat), (15 : Nat))] := ⟨w_L_close, rfl, rfl, rfl, ⟨by decide, by decide, by decide +kernel⟩, ⟨by decide, by decide⟩, j_L⟩
theorem l_L_law_R_close : vg_L M_L_law M_R_close 0 0 0 := ⟨w_R_close, rfl, rfl, rfl, ⟨by decide, by decide, by decide +kernel⟩, ⟨by decide, by decide⟩, j_R⟩
theorem l_L_law_V_clear : vg_L M_L_law M_V_clear 0 0 0 := ⟨w_V_clear, rfl, rfl, rfl, ⟨by decide, by decide, by decide +kernel⟩, ⟨by decide, by decide⟩, j_V⟩
theorem l_L_law_R_clear : vg_L M_L_law M_R_clear 0 0 0 := ⟨w_R_clear, rfl, rfl, rfl, ⟨by decide, by decide, by decide +kernel⟩, ⟨by decide, by decide⟩, j_R⟩
theorem l_L_law_L_matches : vg_LW M_L_law M_L_matches 4 1 6 [((0 : Nat), (10 : Nat), (13 : Nat), (21 : Nat))] := ⟨w_L_matches, rfl, rfl, rfl, ⟨by decide, by decide, by decide +kernel⟩, ⟨by decide, by decide⟩, j_L⟩
theorem l_L_law_R_matches : vg_L M_L_law M_R_matches 2 0 0 := ⟨w_R_matches, rfl, rfl, rfl, ⟨by decide, by decide, by decide +kernel⟩, ⟨by decide, by decide⟩, j_R⟩
theorem l_L_law_L_content : vg_LW M_L_law M_L_content 4 1 6 [((0 : Nat), (10 : Nat), (13 : Nat), (21 : Nat))] := ⟨w_L_content, rfl, rfl, rfl, ⟨by decide, by decide, by decide +kernel⟩, ⟨by decide, by decide⟩, j_L⟩
theorem l_L_law_R_content : vg_L M_L_law M_R_content 2 0 0 := ⟨w_R_content, rfl, rfl, rfl, ⟨by decide, by decide, by decide +kernel⟩, ⟨by decide, by decide⟩, j_R⟩
theorem l_L_law_L_longest : vg_LW M_L_law M_L_longest 4 1 6 [((0 : Nat), (10 : Nat), (13 : Nat), (21 : Nat)), ((0 : Nat), (10 : Nat), (17 : Nat), (23 : Nat))] := ⟨w_L_longest, rfl, rfl, rfl, ⟨by decide, by decide, by decide +kernel⟩, ⟨by decide, by decide⟩, j_L⟩
theorem l_L_law_R_longest : vg_L M_L_law M_R_longest 2 0 0 := ⟨w_R_longest, rfl, rfl, rfl, ⟨by decide, by decide, by decide +kernel⟩, ⟨by decide, by decide⟩, j_R⟩
theorem l_L_law_L_find : vg_LW M_L_law M_L_find 3 1 6 [((0 : Nat), (9 : Nat), (12 : Nat), (21 : Nat)), ((0 : Nat), (9 : Nat), (15 : Nat), (23 : Nat))] := ⟨w_L_find, rfl, rfl, rfl, ⟨by decide, by decide, by decide +kernel⟩, ⟨by decide, by decide⟩, j_L⟩
theorem l_L_law_R_find : vg_L M_L_law M_R_find 1 0 0 := ⟨w_R_find, rfl, rfl, rfl, ⟨by decide, by decide, by decide +kernel⟩, ⟨by decide, by decide⟩, j_R⟩
theorem l_L_law_L_nullable : vg_LW M_L_law M_L_nullable 3 1 6 [((0 : Nat), (9 : Nat), (12 : Nat), (21 : Nat))] := ⟨w_L_nullable, rfl, rfl, rfl, ⟨by decide, by decide, by decide +kernel⟩, ⟨by decide, by decide⟩, j_L⟩
theorem l_L_law_R_nullable : vg_L M_L_law M_R_nullable 1 0 0 := ⟨w_R_nullable, rfl, rfl, rfl, ⟨by decide, by decide, by decide +kernel⟩, ⟨by decide, by decide⟩, j_R⟩
theorem l_L_law_L_count : vg_LW M_L_law M_L_count 3 1 6 [((0 : Nat), (9 : Nat), (12 : Nat), (13 : Nat))] := ⟨w_L_count, rfl, rfl, rfl, ⟨by decide, by decide, by decide +kernel⟩, ⟨by decide, by decide⟩, j_L⟩
theorem l_L_law_R_count : vg_L M_L_law M_R_count 1 0 0 := ⟨w_R_count, rfl, rfl, rfl, ⟨by decide, by decide, by decide +kernel⟩, ⟨by decide, by decide⟩, j_R⟩
set_option maxHeartbeats 4000000 in
set_option maxRecDepth 100000 in
theorem lp_law {Z : vg_Z} (hZ : vg_ZP Z) {G : vg_G} (C : vg_C Z M_L_law G) (ad : Nat → Nat) {b L : Nat} {xs : Nat → Int32} (hL : L ≤ 2048) (hX : va_X b L xs (vh_s G) (vh_s G).heap) (hbl : b < (vh_s G).heap.size) (hbA : ¬ vz_b Z ≤ b) (hend : ∀ n τ, n ≤ 512 → vg_K Z M_L_law G (137 + n) (5361 + 6 * n) 867 [(4, .int (nI (4 * n))), (0, .ref b), (1, .ref (ad 0)), (2, .ref (ad 117)), (3, .ref (ad 136))] [] (wd Z ad τ)) : ∀ (n2 n : Nat) (σ : sg) (P : Pm) (hlt : L < 4 * n + n2) (hn : n ≤ 512), PW P → IC σ P → IM σ P → vg_K Z M_L_law G (137 + n) (5361 + 6 * n) 23 [(4, .int (nI (4 * n))), (0, .ref b), (1, .ref (ad 0)), (2, .ref (ad 117)), (3, .ref (ad 136))] [] (wd Z ad σ) := by
  have hst := vg_ZP_St hZ
  intro n2
  induction n2 with
  | zero =>
    intro n σ P hlt hn
    intro hW hC hM
    refine vg_iload C d_L_law_23 rfl ?_
    refine vg_aload_n C d_L_law_25 rfl ?_
    refine vg_slen C hX hbl hbA d_L_law_26 ?_
    refine vg_iconst (v := 4) C d_L_law_27 (by decide) ?_
    refine vg_isub C d_L_law_28 ?_
    refine vg_icmp_gt (tgt := 867) C d_L_law_29 (by decide) (fun _ => ?_) (fun c_29 => absurd ((gd_29 hL (by omega)).mpr (by omega)) c_29)
    exact hend n σ hn
  | succ n2 ih =>
    intro n σ P hlt hn hW hC hM
    have NX : 4 * n + 4 ≤ L → ∀ υ P2, PW P2 → IC υ P2 → IM υ P2 → vg_K Z M_L_law G (137 + n + 1) (5361 + 6 * n + 6) 861 [(4, .int (nI (4 * n))), (0, .ref b), (1, .ref (ad 0)), (2, .ref (ad 117)), (3, .ref (ad 136))] [] (wd Z ad υ) := by
      intro hle υ P2 hW2 hC2 hM2
      refine vg_iinc (v := nI (4 * (n + 1))) C d_L_law_861 rfl (nI_4s n) (Nat.le_of_ble_eq_true rfl) rfl ?_
      refine vg_goto (tgt := 23) C d_L_law_864 (by decide) ?_
      exact ih (n + 1) υ P2 (by omega) (by omega) hW2 hC2 hM2
    refine vg_iload C d_L_law_23 rfl ?_
    refine vg_aload_n C d_L_law_25 rfl ?_
    refine vg_slen C hX hbl hbA d_L_law_26 ?_
    refine vg_iconst (v := 4) C d_L_law_27 (by decide) ?_
    refine vg_isub C d_L_law_28 ?_
    refine vg_icmp_gt (tgt := 867) C d_L_law_29 (by decide) (fun c_29 => ?_) (fun c_29 => ?_)
    · rw [gd_29 hL (by omega)] at c_29
      exact hend n σ hn
    · rw [gd_29 hL (by omega)] at c_29
      refine vg_aload_n C d_L_law_32 rfl ?_
      refine vg_iload C d_L_law_33 rfl ?_
      refine vg_sld C hX hbl hbA (by exact vp_in_nI (by omega) (by omega)) d_L_law_35 ?_
      rw [nI_clamp (by omega)]
      refine vg_bipush (v := 15) C d_L_law_36 (by decide) ?_
      refine vg_iand C d_L_law_38 ?_
      rcases sw_n (xs (4 * n) &&& 15) 12 (by decide) with hs_39 | ⟨j_39, hj_39, es_39⟩
      · skip
        refine vg_tabOut (tgt := 861) C d_L_law_39 hs_39 (by decide) ?_
        first
          | exact NX (by omega) υ P1 hW2 (IC_fr fM iC) iM
          | exact vg_widen (Nat.le_succ _) (Nat.le_add_right _ 6) (NX (by omega) υ _ (PW_R (v := nI (pd P)) hW ⟨rfl, rfl⟩) (IC_fr fM iC) iM)
          | exact vg_widen (Nat.le_succ _) (Nat.le_add_right _ 6) (NX (by omega) σ P hW hC hM)
      · skip
        rcases (show j_39 = 0 ∨ j_39 = 1 ∨ j_39 = 2 ∨ j_39 = 3 ∨ j_39 = 4 ∨ j_39 = 5 ∨ j_39 = 6 ∨ j_39 = 7 ∨ j_39 = 8 ∨ j_39 = 9 ∨ j_39 = 10 ∨ j_39 = 11 ∨ j_39 = 12 by omega) with rfl | rfl | rfl | rfl | rfl | rfl | rfl | rfl | rfl | rfl | rfl | rfl | rfl
        · skip
          rw [es_39]
          refine vg_tabIn (tgt := 104) C d_L_law_39 (by decide) (by decide) rfl (by decide) ?_
          refine vg_aload_n C d_L_law_104 rfl ?_
          refine vg_aload_n C d_L_law_105 rfl ?_
          refine vg_iload C d_L_law_106 rfl ?_
          refine vg_iconst (v := 1) C d_L_law_108 (by decide) ?_
          refine vg_iadd C d_L_law_109 ?_
          rw [show (1 : Int32) = nI 1 from rfl, nI_add]
          refine vg_sld C hX hbl hbA (by exact vp_in_nI (by omega) (by omega)) d_L_law_110 ?_
          rw [nI_clamp (by omega)]
          refine vg_aload_n C d_L_law_111 rfl ?_
          refine vg_iload C d_L_law_112 rfl ?_
          refine vg_iconst (v := 2) C d_L_law_114 (by decide) ?_
          refine vg_iadd C d_L_law_115 ?_
          rw [show (2 : Int32) = nI 2 from rfl, nI_add]
          refine vg_sld C hX hbl hbA (by exact vp_in_nI (by omega) (by omega)) d_L_law_116 ?_
          rw [nI_clamp (by omega)]
          refine vg_aload_n C d_L_law_117 rfl ?_
          refine vg_iload C d_L_law_118 rfl ?_
          refine vg_iconst (v := 3) C d_L_law_120 (by decide) ?_
          refine vg_iadd C d_L_law_121 ?_
          rw [show (3 : Int32) = nI 3 from rfl, nI_add]
          refine vg_sld C hX hbl hbA (by exact vp_in_nI (by omega) (by omega)) d_L_law_122 ?_
          rw [nI_clamp (by omega)]
          refine vg_aload_n C d_L_law_123 rfl ?_
          refine vg_callSW (As := [_, _, _, _, _]) C (c_L_pattern Z hZ ad σ (xs (4 * n + 1)) (xs (4 * n + 2)) (xs (4 * n + 3)) P hW hC) l_L_law_L_pattern k_L_61 rfl rfl (Nat.le_of_ble_eq_true rfl) d_L_law_124 ⟨by show _ ≤ 601024; omega, by show _ ≤ 7293034; omega⟩ (fun v_124 w_124 h_124 => ?_)
          obtain ⟨c, bv, P1, τ, s1', rfl, iC, fC, ho, rfl⟩ := h_124
          refine vg_istore C d_L_law_127 (Nat.le_of_ble_eq_true rfl) rfl ?_
          refine vg_aload_n C d_L_law_129 rfl ?_
          refine vg_aload_n C d_L_law_130 rfl ?_
          refine vg_iload C d_L_law_131 rfl ?_
          refine vg_iconst (v := 1) C d_L_law_133 (by decide) ?_
          refine vg_iadd C d_L_law_134 ?_
          rw [show (1 : Int32) = nI 1 from rfl, nI_add]
          refine vg_sld C hX hbl hbA (by exact vp_in_nI (by omega) (by omega)) d_L_law_135 ?_
          rw [nI_clamp (by omega)]
          refine vg_aload_n C d_L_law_136 rfl ?_
          refine vg_iload C d_L_law_137 rfl ?_
          refine vg_iconst (v := 2) C d_L_law_139 (by decide) ?_
          refine vg_iadd C d_L_law_140 ?_
          rw [show (2 : Int32) = nI 2 from rfl, nI_add]
          refine vg_sld C hX hbl hbA (by exact vp_in_nI (by omega) (by omega)) d_L_law_141 ?_
          rw [nI_clamp (by omega)]
          refine vg_aload_n C d_L_law_142 rfl ?_
          refine vg_iload C d_L_law_143 rfl ?_
          refine vg_iconst (v := 3) C d_L_law_145 (by decide) ?_
          refine vg_iadd C d_L_law_146 ?_
          rw [show (3 : Int32) = nI 3 from rfl, nI_add]
          refine vg_sld C hX hbl hbA (by exact vp_in_nI (by omega) (by omega)) d_L_law_147 ?_
          rw [nI_clamp (by omega)]
          refine wr_callV (As := [_, _, _]) C (c_R_pattern Z hst ad τ (xs (4 * n + 1)) (xs (4 * n + 2)) (xs (4 * n + 3)) P hW (IM_fW fC hM)) l_L_law_R_pattern k_L_66 rfl rfl rfl rfl rfl (Nat.le_of_ble_eq_true rfl) d_L_law_148 ⟨by show _ ≤ 601024; omega, by show _ ≤ 7293034; omega⟩ (fun v_148 w_148 h_148 => ?_)
          obtain ⟨c2, b2, P2, υ, s2', rfl, iM, fM, e0, rfl⟩ := h_148
          obtain ⟨ec, rfl, eb⟩ := SpP_d P _ _ _ _ _ _ _ _ _ s1' s2'
          subst ec
          have hW2 : PW P1 := PW_P hW s1'
          refine vg_istore C d_L_law_151 (Nat.le_of_ble_eq_true rfl) rfl ?_
          refine vg_aload_n C d_L_law_153 rfl ?_
          refine wr_callV (As := []) C (c_R_thrown Z hst ad υ) l_L_law_R_thrown k_L_67 rfl rfl rfl rfl rfl (Nat.le_of_ble_eq_true rfl) d_L_law_154 ⟨by show _ ≤ 601024; omega, by show _ ≤ 7293034; omega⟩ (fun v_154 w_154 h_154 => ?_)
          obtain ⟨rfl, rfl⟩ := h_154
          rw [e0]
          refine vg_iload C d_L_law_157 rfl ?_
          refine vg_icmp_eq (tgt := 164) C d_L_law_159 (by decide) (fun _ => ?_) (fun c_159 => absurd rfl c_159)
          refine vg_iload C d_L_law_164 rfl ?_
          refine vg_if_ne (tgt := 181) C d_L_law_166 (by decide) (fun c_166 => ?_) (fun c_166 => ?_)
          · skip
            refine vg_goto (tgt := 861) C d_L_law_181 (by decide) ?_
            refine vg_lv [2, 3, 4, 5, 6] rfl ?_
            first
              | exact NX (by omega) υ P1 hW2 (IC_fr fM iC) iM
              | exact vg_widen (Nat.le_succ _) (Nat.le_add_right _ 6) (NX (by omega) υ _ (PW_R (v := nI (pd P)) hW ⟨rfl, rfl⟩) (IC_fr fM iC) iM)
              | exact vg_widen (Nat.le_succ _) (Nat.le_add_right _ 6) (NX (by omega) σ P hW hC hM)
          · skip
            refine vg_aload_n C d_L_law_169 rfl ?_
            refine vg_iconst (v := 0) C d_L_law_170 (by decide) ?_
            refine wr_lald C d_L_law_171 rfl rfl (by exact (by decide : ¬ ((0 : Int32) < 0 ∨ 1 ≤ (0 : Int32).toNatClampNeg))) ?_
            rw [show υ.2 136 (Int32.toNatClampNeg 0) = b2.toInt64 from by rw [← eb c_166, (fM 136 (Or.inr rfl)).2]; exact ho c_166]
            refine vg_iload C d_L_law_172 rfl ?_
            refine vg_i2l C d_L_law_174 ?_
            refine vg_lcmp C d_L_law_175 ?_
            refine vg_if_eq (tgt := 181) C d_L_law_176 (by decide) (fun _ => ?_) (fun c_176 => absurd (lg_eq.mpr rfl) c_176)
            refine vg_goto (tgt := 861) C d_L_law_181 (by decide) ?_
            refine vg_lv [2, 3, 4, 5, 6] rfl ?_
            first
              | exact NX (by omega) υ P1 hW2 (IC_fr fM iC) iM
              | exact vg_widen (Nat.le_succ _) (Nat.le_add_right _ 6) (NX (by omega) υ _ (PW_R (v := nI (pd P)) hW ⟨rfl, rfl⟩) (IC_fr fM iC) iM)
              | exact vg_widen (Nat.le_succ _) (Nat.le_add_right _ 6) (NX (by omega) σ P hW hC hM)
        · skip
          rw [es_39]
          refine vg_tabIn (tgt := 184) C d_L_law_39 (by decide) (by decide) rfl (by decide) ?_
          refine vg_aload_n C d_L_law_184 rfl ?_
          refine vg_aload_n C d_L_law_185 rfl ?_
          refine vg_iload C d_L_law_186 rfl ?_
          refine vg_iconst (v := 1) C d_L_law_188 (by decide) ?_
          refine vg_iadd C d_L_law_189 ?_
          rw [show (1 : Int32) = nI 1 from rfl, nI_add]
          refine vg_sld C hX hbl hbA (by exact vp_in_nI (by omega) (by omega)) d_L_law_190 ?_
          rw [nI_clamp (by omega)]
          refine vg_aload_n C d_L_law_191 rfl ?_
          refine vg_iload C d_L_law_192 rfl ?_
          refine vg_iconst (v := 2) C d_L_law_194 (by decide) ?_
          refine vg_iadd C d_L_law_195 ?_
          rw [show (2 : Int32) = nI 2 from rfl, nI_add]
          refine vg_sld C hX hbl hbA (by exact vp_in_nI (by omega) (by omega)) d_L_law_196 ?_
          rw [nI_clamp (by omega)]
          refine vg_aload_n C d_L_law_197 rfl ?_
          refine vg_callSW (As := [_, _, _, _]) C (c_L_define Z hZ ad σ (xs (4 * n + 1)) (xs (4 * n + 2)) P hW hC) l_L_law_L_define k_L_70 rfl rfl (Nat.le_of_ble_eq_true rfl) d_L_law_198 ⟨by show _ ≤ 601024; omega, by show _ ≤ 7293034; omega⟩ (fun v_198 w_198 h_198 => ?_)
          obtain ⟨c, bv, P1, τ, s1', rfl, iC, fC, ho, rfl⟩ := h_198
          refine vg_istore C d_L_law_201 (Nat.le_of_ble_eq_true rfl) rfl ?_
          refine vg_aload_n C d_L_law_203 rfl ?_
          refine vg_aload_n C d_L_law_204 rfl ?_
          refine vg_iload C d_L_law_205 rfl ?_
          refine vg_iconst (v := 1) C d_L_law_207 (by decide) ?_
          refine vg_iadd C d_L_law_208 ?_
          rw [show (1 : Int32) = nI 1 from rfl, nI_add]
          refine vg_sld C hX hbl hbA (by exact vp_in_nI (by omega) (by omega)) d_L_law_209 ?_
          rw [nI_clamp (by omega)]
          refine vg_aload_n C d_L_law_210 rfl ?_
          refine vg_iload C d_L_law_211 rfl ?_
          refine vg_iconst (v := 2) C d_L_law_213 (by decide) ?_
          refine vg_iadd C d_L_law_214 ?_
          rw [show (2 : Int32) = nI 2 from rfl, nI_add]
          refine vg_sld C hX hbl hbA (by exact vp_in_nI (by omega) (by omega)) d_L_law_215 ?_
          rw [nI_clamp (by omega)]
          refine wr_callV (As := [_, _]) C (c_R_define Z hst ad τ (xs (4 * n + 1)) (xs (4 * n + 2)) P hW (IM_fW fC hM)) l_L_law_R_define k_L_73 rfl rfl rfl rfl rfl (Nat.le_of_ble_eq_true rfl) d_L_law_216 ⟨by show _ ≤ 601024; omega, by show _ ≤ 7293034; omega⟩ (fun v_216 w_216 h_216 => ?_)
          obtain ⟨c2, b2, P2, υ, s2', rfl, iM, fM, e0, rfl⟩ := h_216
          obtain ⟨ec, rfl, eb⟩ := SpD_d P _ _ _ _ _ _ _ _ s1' s2'
          subst ec
          have hW2 : PW P1 := PW_D hW s1'
          refine vg_istore C d_L_law_219 (Nat.le_of_ble_eq_true rfl) rfl ?_
          refine vg_aload_n C d_L_law_221 rfl ?_
          refine wr_callV (As := []) C (c_R_thrown Z hst ad υ) l_L_law_R_thrown k_L_67 rfl rfl rfl rfl rfl (Nat.le_of_ble_eq_true rfl) d_L_law_222 ⟨by show _ ≤ 601024; omega, by show _ ≤ 7293034; omega⟩ (fun v_222 w_222 h_222 => ?_)
          obtain ⟨rfl, rfl⟩ := h_222
          rw [e0]
          refine vg_iload C d_L_law_225 rfl ?_
          refine vg_icmp_eq (tgt := 232) C d_L_law_227 (by decide) (fun _ => ?_) (fun c_227 => absurd rfl c_227)
          refine vg_iload C d_L_law_232 rfl ?_
          refine vg_if_ne (tgt := 249) C d_L_law_234 (by decide) (fun c_234 => ?_) (fun c_234 => ?_)
          · skip
            refine vg_goto (tgt := 861) C d_L_law_249 (by decide) ?_
            refine vg_lv [2, 3, 4, 5, 6] rfl ?_
            first
              | exact NX (by omega) υ P1 hW2 (IC_fr fM iC) iM
              | exact vg_widen (Nat.le_succ _) (Nat.le_add_right _ 6) (NX (by omega) υ _ (PW_R (v := nI (pd P)) hW ⟨rfl, rfl⟩) (IC_fr fM iC) iM)
              | exact vg_widen (Nat.le_succ _) (Nat.le_add_right _ 6) (NX (by omega) σ P hW hC hM)
          · skip
            refine vg_aload_n C d_L_law_237 rfl ?_
            refine vg_iconst (v := 0) C d_L_law_238 (by decide) ?_
            refine wr_lald C d_L_law_239 rfl rfl (by exact (by decide : ¬ ((0 : Int32) < 0 ∨ 1 ≤ (0 : Int32).toNatClampNeg))) ?_
            rw [show υ.2 136 (Int32.toNatClampNeg 0) = b2.toInt64 from by rw [← eb c_234, (fM 136 (Or.inr rfl)).2]; exact ho c_234]
            refine vg_iload C d_L_law_240 rfl ?_
            refine vg_i2l C d_L_law_242 ?_
            refine vg_lcmp C d_L_law_243 ?_
            refine vg_if_eq (tgt := 249) C d_L_law_244 (by decide) (fun _ => ?_) (fun c_244 => absurd (lg_eq.mpr rfl) c_244)
            refine vg_goto (tgt := 861) C d_L_law_249 (by decide) ?_
            refine vg_lv [2, 3, 4, 5, 6] rfl ?_
            first
              | exact NX (by omega) υ P1 hW2 (IC_fr fM iC) iM
              | exact vg_widen (Nat.le_succ _) (Nat.le_add_right _ 6) (NX (by omega) υ _ (PW_R (v := nI (pd P)) hW ⟨rfl, rfl⟩) (IC_fr fM iC) iM)
              | exact vg_widen (Nat.le_succ _) (Nat.le_add_right _ 6) (NX (by omega) σ P hW hC hM)
        · skip
          rw [es_39]
          refine vg_tabIn (tgt := 252) C d_L_law_39 (by decide) (by decide) rfl (by decide) ?_
          refine vg_aload_n C d_L_law_252 rfl ?_
          refine vg_aload_n C d_L_law_253 rfl ?_
          refine vg_iload C d_L_law_254 rfl ?_
          refine vg_iconst (v := 1) C d_L_law_256 (by decide) ?_
          refine vg_iadd C d_L_law_257 ?_
          rw [show (1 : Int32) = nI 1 from rfl, nI_add]
          refine vg_sld C hX hbl hbA (by exact vp_in_nI (by omega) (by omega)) d_L_law_258 ?_
          rw [nI_clamp (by omega)]
          refine vg_aload_n C d_L_law_259 rfl ?_
          refine vg_callSW (As := [_, _, _]) C (c_L_open Z hZ ad σ (xs (4 * n + 1)) P hW hC) l_L_law_L_open k_L_74 rfl rfl (Nat.le_of_ble_eq_true rfl) d_L_law_260 ⟨by show _ ≤ 601024; omega, by show _ ≤ 7293034; omega⟩ (fun v_260 w_260 h_260 => ?_)
          obtain ⟨c, bv, P1, τ, s1', rfl, iC, fC, ho, rfl⟩ := h_260
          refine vg_istore C d_L_law_263 (Nat.le_of_ble_eq_true rfl) rfl ?_
          refine vg_aload_n C d_L_law_265 rfl ?_
          refine vg_aload_n C d_L_law_266 rfl ?_
          refine vg_iload C d_L_law_267 rfl ?_
          refine vg_iconst (v := 1) C d_L_law_269 (by decide) ?_
          refine vg_iadd C d_L_law_270 ?_
          rw [show (1 : Int32) = nI 1 from rfl, nI_add]
          refine vg_sld C hX hbl hbA (by exact vp_in_nI (by omega) (by omega)) d_L_law_271 ?_
          rw [nI_clamp (by omega)]
          refine wr_callV (As := [_]) C (c_R_open Z hst ad τ (xs (4 * n + 1)) P hW (IM_fW fC hM)) l_L_law_R_open k_L_77 rfl rfl rfl rfl rfl (Nat.le_of_ble_eq_true rfl) d_L_law_272 ⟨by show _ ≤ 601024; omega, by show _ ≤ 7293034; omega⟩ (fun v_272 w_272 h_272 => ?_)
          obtain ⟨c2, b2, P2, υ, s2', rfl, iM, fM, e0, rfl⟩ := h_272
          obtain ⟨ec, rfl, eb⟩ := SpO_d P _ _ _ _ _ _ _ s1' s2'
          subst ec
          have hW2 : PW P1 := PW_O hW s1'
          refine vg_istore C d_L_law_275 (Nat.le_of_ble_eq_true rfl) rfl ?_
          refine vg_aload_n C d_L_law_277 rfl ?_
          refine wr_callV (As := []) C (c_R_thrown Z hst ad υ) l_L_law_R_thrown k_L_67 rfl rfl rfl rfl rfl (Nat.le_of_ble_eq_true rfl) d_L_law_278 ⟨by show _ ≤ 601024; omega, by show _ ≤ 7293034; omega⟩ (fun v_278 w_278 h_278 => ?_)
          obtain ⟨rfl, rfl⟩ := h_278
          rw [e0]
          refine vg_iload C d_L_law_281 rfl ?_
          refine vg_icmp_eq (tgt := 288) C d_L_law_283 (by decide) (fun _ => ?_) (fun c_283 => absurd rfl c_283)
          refine vg_iload C d_L_law_288 rfl ?_
          refine vg_if_ne (tgt := 305) C d_L_law_290 (by decide) (fun c_290 => ?_) (fun c_290 => ?_)
          · skip
            refine vg_goto (tgt := 861) C d_L_law_305 (by decide) ?_
            refine vg_lv [2, 3, 4, 5, 6] rfl ?_
            first
              | exact NX (by omega) υ P1 hW2 (IC_fr fM iC) iM
              | exact vg_widen (Nat.le_succ _) (Nat.le_add_right _ 6) (NX (by omega) υ _ (PW_R (v := nI (pd P)) hW ⟨rfl, rfl⟩) (IC_fr fM iC) iM)
              | exact vg_widen (Nat.le_succ _) (Nat.le_add_right _ 6) (NX (by omega) σ P hW hC hM)
          · skip
            refine vg_aload_n C d_L_law_293 rfl ?_
            refine vg_iconst (v := 0) C d_L_law_294 (by decide) ?_
            refine wr_lald C d_L_law_295 rfl rfl (by exact (by decide : ¬ ((0 : Int32) < 0 ∨ 1 ≤ (0 : Int32).toNatClampNeg))) ?_
            rw [show υ.2 136 (Int32.toNatClampNeg 0) = b2.toInt64 from by rw [← eb c_290, (fM 136 (Or.inr rfl)).2]; exact ho c_290]
            refine vg_iload C d_L_law_296 rfl ?_
            refine vg_i2l C d_L_law_298 ?_
            refine vg_lcmp C d_L_law_299 ?_
            refine vg_if_eq (tgt := 305) C d_L_law_300 (by decide) (fun _ => ?_) (fun c_300 => absurd (lg_eq.mpr rfl) c_300)
            refine vg_goto (tgt := 861) C d_L_law_305 (by decide) ?_
            refine vg_lv [2, 3, 4, 5, 6] rfl ?_
            first
              | exact NX (by omega) υ P1 hW2 (IC_fr fM iC) iM
              | exact vg_widen (Nat.le_succ _) (Nat.le_add_right _ 6) (NX (by omega) υ _ (PW_R (v := nI (pd P)) hW ⟨rfl, rfl⟩) (IC_fr fM iC) iM)
              | exact vg_widen (Nat.le_succ _) (Nat.le_add_right _ 6) (NX (by omega) σ P hW hC hM)
        · skip
          rw [es_39]
          refine vg_tabIn (tgt := 308) C d_L_law_39 (by decide) (by decide) rfl (by decide) ?_
          refine vg_aload_n C d_L_law_308 rfl ?_
          refine vg_aload_n C d_L_law_309 rfl ?_
          refine vg_iload C d_L_law_310 rfl ?_
          refine vg_iconst (v := 1) C d_L_law_312 (by decide) ?_
          refine vg_iadd C d_L_law_313 ?_
          rw [show (1 : Int32) = nI 1 from rfl, nI_add]
          refine vg_sld C hX hbl hbA (by exact vp_in_nI (by omega) (by omega)) d_L_law_314 ?_
          rw [nI_clamp (by omega)]
          refine vg_aload_n C d_L_law_315 rfl ?_
          refine vg_iload C d_L_law_316 rfl ?_
          refine vg_iconst (v := 2) C d_L_law_318 (by decide) ?_
          refine vg_iadd C d_L_law_319 ?_
          rw [show (2 : Int32) = nI 2 from rfl, nI_add]
          refine vg_sld C hX hbl hbA (by exact vp_in_nI (by omega) (by omega)) d_L_law_320 ?_
          rw [nI_clamp (by omega)]
          refine vg_aload_n C d_L_law_321 rfl ?_
          refine vg_callSW (As := [_, _, _, _]) C (c_L_attribute Z hZ ad σ (xs (4 * n + 1)) (xs (4 * n + 2)) P hW hC) l_L_law_L_attribute k_L_78 rfl rfl (Nat.le_of_ble_eq_true rfl) d_L_law_322 ⟨by show _ ≤ 601024; omega, by show _ ≤ 7293034; omega⟩ (fun v_322 w_322 h_322 => ?_)
          obtain ⟨c, bv, P1, τ, s1', rfl, iC, fC, ho, rfl⟩ := h_322
          refine vg_istore C d_L_law_325 (Nat.le_of_ble_eq_true rfl) rfl ?_
          refine vg_aload_n C d_L_law_327 rfl ?_
          refine vg_aload_n C d_L_law_328 rfl ?_
          refine vg_iload C d_L_law_329 rfl ?_
          refine vg_iconst (v := 1) C d_L_law_331 (by decide) ?_
          refine vg_iadd C d_L_law_332 ?_
          rw [show (1 : Int32) = nI 1 from rfl, nI_add]
          refine vg_sld C hX hbl hbA (by exact vp_in_nI (by omega) (by omega)) d_L_law_333 ?_
          rw [nI_clamp (by omega)]
          refine vg_aload_n C d_L_law_334 rfl ?_
          refine vg_iload C d_L_law_335 rfl ?_
          refine vg_iconst (v := 2) C d_L_law_337 (by decide) ?_
          refine vg_iadd C d_L_law_338 ?_
          rw [show (2 : Int32) = nI 2 from rfl, nI_add]
          refine vg_sld C hX hbl hbA (by exact vp_in_nI (by omega) (by omega)) d_L_law_339 ?_
          rw [nI_clamp (by omega)]
          refine wr_callV (As := [_, _]) C (c_R_attribute Z hst ad τ (xs (4 * n + 1)) (xs (4 * n + 2)) P hW (IM_fW fC hM)) l_L_law_R_attribute k_L_80 rfl rfl rfl rfl rfl (Nat.le_of_ble_eq_true rfl) d_L_law_340 ⟨by show _ ≤ 601024; omega, by show _ ≤ 7293034; omega⟩ (fun v_340 w_340 h_340 => ?_)
          obtain ⟨c2, b2, P2, υ, s2', rfl, iM, fM, e0, rfl⟩ := h_340
          obtain ⟨ec, rfl, eb⟩ := SpA_d P _ _ _ _ _ _ _ _ s1' s2'
          subst ec
          have hW2 : PW P1 := PW_A hW s1'
          refine vg_istore C d_L_law_343 (Nat.le_of_ble_eq_true rfl) rfl ?_
          refine vg_aload_n C d_L_law_345 rfl ?_
          refine wr_callV (As := []) C (c_R_thrown Z hst ad υ) l_L_law_R_thrown k_L_67 rfl rfl rfl rfl rfl (Nat.le_of_ble_eq_true rfl) d_L_law_346 ⟨by show _ ≤ 601024; omega, by show _ ≤ 7293034; omega⟩ (fun v_346 w_346 h_346 => ?_)
          obtain ⟨rfl, rfl⟩ := h_346
          rw [e0]
          refine vg_iload C d_L_law_349 rfl ?_
          refine vg_icmp_eq (tgt := 356) C d_L_law_351 (by decide) (fun _ => ?_) (fun c_351 => absurd rfl c_351)
          refine vg_iload C d_L_law_356 rfl ?_
          refine vg_if_ne (tgt := 373) C d_L_law_358 (by decide) (fun c_358 => ?_) (fun c_358 => ?_)
          · skip
            refine vg_goto (tgt := 861) C d_L_law_373 (by decide) ?_
            refine vg_lv [2, 3, 4, 5, 6] rfl ?_
            first
              | exact NX (by omega) υ P1 hW2 (IC_fr fM iC) iM
              | exact vg_widen (Nat.le_succ _) (Nat.le_add_right _ 6) (NX (by omega) υ _ (PW_R (v := nI (pd P)) hW ⟨rfl, rfl⟩) (IC_fr fM iC) iM)
              | exact vg_widen (Nat.le_succ _) (Nat.le_add_right _ 6) (NX (by omega) σ P hW hC hM)
          · skip
            refine vg_aload_n C d_L_law_361 rfl ?_
            refine vg_iconst (v := 0) C d_L_law_362 (by decide) ?_
            refine wr_lald C d_L_law_363 rfl rfl (by exact (by decide : ¬ ((0 : Int32) < 0 ∨ 1 ≤ (0 : Int32).toNatClampNeg))) ?_
            rw [show υ.2 136 (Int32.toNatClampNeg 0) = b2.toInt64 from by rw [← eb c_358, (fM 136 (Or.inr rfl)).2]; exact ho c_358]
            refine vg_iload C d_L_law_364 rfl ?_
            refine vg_i2l C d_L_law_366 ?_
            refine vg_lcmp C d_L_law_367 ?_
            refine vg_if_eq (tgt := 373) C d_L_law_368 (by decide) (fun _ => ?_) (fun c_368 => absurd (lg_eq.mpr rfl) c_368)
            refine vg_goto (tgt := 861) C d_L_law_373 (by decide) ?_
            refine vg_lv [2, 3, 4, 5, 6] rfl ?_
            first
              | exact NX (by omega) υ P1 hW2 (IC_fr fM iC) iM
              | exact vg_widen (Nat.le_succ _) (Nat.le_add_right _ 6) (NX (by omega) υ _ (PW_R (v := nI (pd P)) hW ⟨rfl, rfl⟩) (IC_fr fM iC) iM)
              | exact vg_widen (Nat.le_succ _) (Nat.le_add_right _ 6) (NX (by omega) σ P hW hC hM)
        · skip
          rw [es_39]
          refine vg_tabIn (tgt := 376) C d_L_law_39 (by decide) (by decide) rfl (by decide) ?_
          refine vg_aload_n C d_L_law_376 rfl ?_
          refine vg_aload_n C d_L_law_377 rfl ?_
          refine vg_iload C d_L_law_378 rfl ?_
          refine vg_iconst (v := 1) C d_L_law_380 (by decide) ?_
          refine vg_iadd C d_L_law_381 ?_
          rw [show (1 : Int32) = nI 1 from rfl, nI_add]
          refine vg_sld C hX hbl hbA (by exact vp_in_nI (by omega) (by omega)) d_L_law_382 ?_
          rw [nI_clamp (by omega)]
          refine vg_aload_n C d_L_law_383 rfl ?_
          refine vg_callSW (As := [_, _, _]) C (c_L_text Z hZ ad σ (xs (4 * n + 1)) P hW hC) l_L_law_L_text k_L_81 rfl rfl (Nat.le_of_ble_eq_true rfl) d_L_law_384 ⟨by show _ ≤ 601024; omega, by show _ ≤ 7293034; omega⟩ (fun v_384 w_384 h_384 => ?_)
          obtain ⟨c, bv, P1, τ, s1', rfl, iC, fC, ho, rfl⟩ := h_384
          refine vg_istore C d_L_law_387 (Nat.le_of_ble_eq_true rfl) rfl ?_
          refine vg_aload_n C d_L_law_389 rfl ?_
          refine vg_aload_n C d_L_law_390 rfl ?_
          refine vg_iload C d_L_law_391 rfl ?_
          refine vg_iconst (v := 1) C d_L_law_393 (by decide) ?_
          refine vg_iadd C d_L_law_394 ?_
          rw [show (1 : Int32) = nI 1 from rfl, nI_add]
          refine vg_sld C hX hbl hbA (by exact vp_in_nI (by omega) (by omega)) d_L_law_395 ?_
          rw [nI_clamp (by omega)]
          refine wr_callV (As := [_]) C (c_R_text Z hst ad τ (xs (4 * n + 1)) P hW (IM_fW fC hM)) l_L_law_R_text k_L_83 rfl rfl rfl rfl rfl (Nat.le_of_ble_eq_true rfl) d_L_law_396 ⟨by show _ ≤ 601024; omega, by show _ ≤ 7293034; omega⟩ (fun v_396 w_396 h_396 => ?_)
          obtain ⟨c2, b2, P2, υ, s2', rfl, iM, fM, e0, rfl⟩ := h_396
          obtain ⟨ec, rfl, eb⟩ := SpT_d P _ _ _ _ _ _ _ s1' s2'
          subst ec
          have hW2 : PW P1 := PW_T hW s1'
          refine vg_istore C d_L_law_399 (Nat.le_of_ble_eq_true rfl) rfl ?_
          refine vg_aload_n C d_L_law_401 rfl ?_
          refine wr_callV (As := []) C (c_R_thrown Z hst ad υ) l_L_law_R_thrown k_L_67 rfl rfl rfl rfl rfl (Nat.le_of_ble_eq_true rfl) d_L_law_402 ⟨by show _ ≤ 601024; omega, by show _ ≤ 7293034; omega⟩ (fun v_402 w_402 h_402 => ?_)
          obtain ⟨rfl, rfl⟩ := h_402
          rw [e0]
          refine vg_iload C d_L_law_405 rfl ?_
          refine vg_icmp_eq (tgt := 412) C d_L_law_407 (by decide) (fun _ => ?_) (fun c_407 => absurd rfl c_407)
          refine vg_iload C d_L_law_412 rfl ?_
          refine vg_if_ne (tgt := 429) C d_L_law_414 (by decide) (fun c_414 => ?_) (fun c_414 => ?_)
          · skip
            refine vg_goto (tgt := 861) C d_L_law_429 (by decide) ?_
            refine vg_lv [2, 3, 4, 5, 6] rfl ?_
            first
              | exact NX (by omega) υ P1 hW2 (IC_fr fM iC) iM
              | exact vg_widen (Nat.le_succ _) (Nat.le_add_right _ 6) (NX (by omega) υ _ (PW_R (v := nI (pd P)) hW ⟨rfl, rfl⟩) (IC_fr fM iC) iM)
              | exact vg_widen (Nat.le_succ _) (Nat.le_add_right _ 6) (NX (by omega) σ P hW hC hM)
          · skip
            refine vg_aload_n C d_L_law_417 rfl ?_
            refine vg_iconst (v := 0) C d_L_law_418 (by decide) ?_
            refine wr_lald C d_L_law_419 rfl rfl (by exact (by decide : ¬ ((0 : Int32) < 0 ∨ 1 ≤ (0 : Int32).toNatClampNeg))) ?_
            rw [show υ.2 136 (Int32.toNatClampNeg 0) = b2.toInt64 from by rw [← eb c_414, (fM 136 (Or.inr rfl)).2]; exact ho c_414]
            refine vg_iload C d_L_law_420 rfl ?_
            refine vg_i2l C d_L_law_422 ?_
            refine vg_lcmp C d_L_law_423 ?_
            refine vg_if_eq (tgt := 429) C d_L_law_424 (by decide) (fun _ => ?_) (fun c_424 => absurd (lg_eq.mpr rfl) c_424)
            refine vg_goto (tgt := 861) C d_L_law_429 (by decide) ?_
            refine vg_lv [2, 3, 4, 5, 6] rfl ?_
            first
              | exact NX (by omega) υ P1 hW2 (IC_fr fM iC) iM
              | exact vg_widen (Nat.le_succ _) (Nat.le_add_right _ 6) (NX (by omega) υ _ (PW_R (v := nI (pd P)) hW ⟨rfl, rfl⟩) (IC_fr fM iC) iM)
              | exact vg_widen (Nat.le_succ _) (Nat.le_add_right _ 6) (NX (by omega) σ P hW hC hM)
        · skip
          rw [es_39]
          refine vg_tabIn (tgt := 432) C d_L_law_39 (by decide) (by decide) rfl (by decide) ?_
          refine vg_aload_n C d_L_law_432 rfl ?_
          refine vg_aload_n C d_L_law_433 rfl ?_
          refine vg_callSW (As := [_, _]) C (c_L_close Z hZ ad σ  P hW hC) l_L_law_L_close k_L_84 rfl rfl (Nat.le_of_ble_eq_true rfl) d_L_law_434 ⟨by show _ ≤ 601024; omega, by show _ ≤ 7293034; omega⟩ (fun v_434 w_434 h_434 => ?_)
          obtain ⟨c, bv, P1, τ, s1', rfl, iC, fC, ho, rfl⟩ := h_434
          refine vg_istore C d_L_law_437 (Nat.le_of_ble_eq_true rfl) rfl ?_
          refine vg_aload_n C d_L_law_439 rfl ?_
          refine wr_callV (As := []) C (c_R_close Z hst ad τ  P hW (IM_fW fC hM)) l_L_law_R_close k_L_87 rfl rfl rfl rfl rfl (Nat.le_of_ble_eq_true rfl) d_L_law_440 ⟨by show _ ≤ 601024; omega, by show _ ≤ 7293034; omega⟩ (fun v_440 w_440 h_440 => ?_)
          obtain ⟨c2, b2, P2, υ, s2', rfl, iM, fM, e0, rfl⟩ := h_440
          obtain ⟨ec, rfl, eb⟩ := SpC_d P  _ _ _ _ _ _ s1' s2'
          subst ec
          have hW2 : PW P1 := PW_C hW s1'
          refine vg_istore C d_L_law_443 (Nat.le_of_ble_eq_true rfl) rfl ?_
          refine vg_aload_n C d_L_law_445 rfl ?_
          refine wr_callV (As := []) C (c_R_thrown Z hst ad υ) l_L_law_R_thrown k_L_67 rfl rfl rfl rfl rfl (Nat.le_of_ble_eq_true rfl) d_L_law_446 ⟨by show _ ≤ 601024; omega, by show _ ≤ 7293034; omega⟩ (fun v_446 w_446 h_446 => ?_)
          obtain ⟨rfl, rfl⟩ := h_446
          rw [e0]
          refine vg_iload C d_L_law_449 rfl ?_
          refine vg_icmp_eq (tgt := 456) C d_L_law_451 (by decide) (fun _ => ?_) (fun c_451 => absurd rfl c_451)
          refine vg_iload C d_L_law_456 rfl ?_
          refine vg_if_ne (tgt := 473) C d_L_law_458 (by decide) (fun c_458 => ?_) (fun c_458 => ?_)
          · skip
            refine vg_goto (tgt := 861) C d_L_law_473 (by decide) ?_
            refine vg_lv [2, 3, 4, 5, 6] rfl ?_
            first
              | exact NX (by omega) υ P1 hW2 (IC_fr fM iC) iM
              | exact vg_widen (Nat.le_succ _) (Nat.le_add_right _ 6) (NX (by omega) υ _ (PW_R (v := nI (pd P)) hW ⟨rfl, rfl⟩) (IC_fr fM iC) iM)
              | exact vg_widen (Nat.le_succ _) (Nat.le_add_right _ 6) (NX (by omega) σ P hW hC hM)
          · skip
            refine vg_aload_n C d_L_law_461 rfl ?_
            refine vg_iconst (v := 0) C d_L_law_462 (by decide) ?_
            refine wr_lald C d_L_law_463 rfl rfl (by exact (by decide : ¬ ((0 : Int32) < 0 ∨ 1 ≤ (0 : Int32).toNatClampNeg))) ?_
            rw [show υ.2 136 (Int32.toNatClampNeg 0) = b2.toInt64 from by rw [← eb c_458, (fM 136 (Or.inr rfl)).2]; exact ho c_458]
            refine vg_iload C d_L_law_464 rfl ?_
            refine vg_i2l C d_L_law_466 ?_
            refine vg_lcmp C d_L_law_467 ?_
            refine vg_if_eq (tgt := 473) C d_L_law_468 (by decide) (fun _ => ?_) (fun c_468 => absurd (lg_eq.mpr rfl) c_468)
            refine vg_goto (tgt := 861) C d_L_law_473 (by decide) ?_
            refine vg_lv [2, 3, 4, 5, 6] rfl ?_
            first
              | exact NX (by omega) υ P1 hW2 (IC_fr fM iC) iM
              | exact vg_widen (Nat.le_succ _) (Nat.le_add_right _ 6) (NX (by omega) υ _ (PW_R (v := nI (pd P)) hW ⟨rfl, rfl⟩) (IC_fr fM iC) iM)
              | exact vg_widen (Nat.le_succ _) (Nat.le_add_right _ 6) (NX (by omega) σ P hW hC hM)
        · skip
          rw [es_39]
          refine vg_tabIn (tgt := 476) C d_L_law_39 (by decide) (by decide) rfl (by decide) ?_
          refine vg_aload_n C d_L_law_476 rfl ?_
          refine wr_callV (As := []) C (c_V_clear Z hst ad σ P hW hC) l_L_law_V_clear k_L_88 rfl rfl rfl rfl rfl (Nat.le_of_ble_eq_true rfl) d_L_law_477 ⟨by show _ ≤ 601024; omega, by show _ ≤ 7293034; omega⟩ (fun v_477 w_477 h_477 => ?_)
          obtain ⟨bv, P1, τ, ⟨s1', rfl⟩, rfl, iC, fC, rfl⟩ := h_477
          refine vg_aload_n C d_L_law_480 rfl ?_
          refine wr_callV (As := []) C (c_R_clear Z hst ad τ P hW (IM_fr fC hM)) l_L_law_R_clear k_L_91 rfl rfl rfl rfl rfl (Nat.le_of_ble_eq_true rfl) d_L_law_481 ⟨by show _ ≤ 601024; omega, by show _ ≤ 7293034; omega⟩ (fun v_481 w_481 h_481 => ?_)
          obtain ⟨b2, P2, υ, ⟨s2', rfl⟩, rfl, iM, fM, rfl⟩ := h_481
          refine vg_icmp_eq (tgt := 861) C d_L_law_484 (by decide) (fun _ => ?_) (fun c_484 => absurd (s1'.trans s2'.symm) c_484)
          first
            | exact NX (by omega) υ P1 hW2 (IC_fr fM iC) iM
            | exact vg_widen (Nat.le_succ _) (Nat.le_add_right _ 6) (NX (by omega) υ _ (PW_R (v := nI (pd P)) hW ⟨rfl, rfl⟩) (IC_fr fM iC) iM)
            | exact vg_widen (Nat.le_succ _) (Nat.le_add_right _ 6) (NX (by omega) σ P hW hC hM)
        · skip
          rw [es_39]
          refine vg_tabIn (tgt := 489) C d_L_law_39 (by decide) (by decide) rfl (by decide) ?_
          refine vg_aload_n C d_L_law_489 rfl ?_
          refine vg_aload_n C d_L_law_490 rfl ?_
          refine vg_iload C d_L_law_491 rfl ?_
          refine vg_iconst (v := 1) C d_L_law_493 (by decide) ?_
          refine vg_iadd C d_L_law_494 ?_
          rw [show (1 : Int32) = nI 1 from rfl, nI_add]
          refine vg_sld C hX hbl hbA (by exact vp_in_nI (by omega) (by omega)) d_L_law_495 ?_
          rw [nI_clamp (by omega)]
          refine vg_aload_n C d_L_law_496 rfl ?_
          refine vg_iload C d_L_law_497 rfl ?_
          refine vg_iconst (v := 2) C d_L_law_499 (by decide) ?_
          refine vg_iadd C d_L_law_500 ?_
          rw [show (2 : Int32) = nI 2 from rfl, nI_add]
          refine vg_sld C hX hbl hbA (by exact vp_in_nI (by omega) (by omega)) d_L_law_501 ?_
          rw [nI_clamp (by omega)]
          refine vg_aload_n C d_L_law_502 rfl ?_
          refine vg_callSW (As := [_, _, _, _]) C (c_L_matches Z hZ ad σ (xs (4 * n + 1)) (xs (4 * n + 2)) P hW hC) l_L_law_L_matches k_L_92 rfl rfl (Nat.le_of_ble_eq_true rfl) d_L_law_503 ⟨by show _ ≤ 601024; omega, by show _ ≤ 7293034; omega⟩ (fun v_503 w_503 h_503 => ?_)
          obtain ⟨c, bv, P1, τ, s1', rfl, iC, fC, ho, rfl⟩ := h_503
          refine vg_istore C d_L_law_506 (Nat.le_of_ble_eq_true rfl) rfl ?_
          refine vg_aload_n C d_L_law_508 rfl ?_
          refine vg_aload_n C d_L_law_509 rfl ?_
          refine vg_iload C d_L_law_510 rfl ?_
          refine vg_iconst (v := 1) C d_L_law_512 (by decide) ?_
          refine vg_iadd C d_L_law_513 ?_
          rw [show (1 : Int32) = nI 1 from rfl, nI_add]
          refine vg_sld C hX hbl hbA (by exact vp_in_nI (by omega) (by omega)) d_L_law_514 ?_
          rw [nI_clamp (by omega)]
          refine vg_aload_n C d_L_law_515 rfl ?_
          refine vg_iload C d_L_law_516 rfl ?_
          refine vg_iconst (v := 2) C d_L_law_518 (by decide) ?_
          refine vg_iadd C d_L_law_519 ?_
          rw [show (2 : Int32) = nI 2 from rfl, nI_add]
          refine vg_sld C hX hbl hbA (by exact vp_in_nI (by omega) (by omega)) d_L_law_520 ?_
          rw [nI_clamp (by omega)]
          refine wr_callV (As := [_, _]) C (c_R_matches Z hst ad τ (xs (4 * n + 1)) (xs (4 * n + 2)) P hW (IM_fW fC hM)) l_L_law_R_matches k_L_94 rfl rfl rfl rfl rfl (Nat.le_of_ble_eq_true rfl) d_L_law_521 ⟨by show _ ≤ 601024; omega, by show _ ≤ 7293034; omega⟩ (fun v_521 w_521 h_521 => ?_)
          obtain ⟨c2, b2, P2, υ, s2', rfl, iM, fM, e0, rfl⟩ := h_521
          obtain ⟨ec, rfl, eb⟩ := SpM_d P _ _ _ _ _ _ _ _ s1' s2'
          subst ec
          have hW2 : PW P1 := by
            obtain ⟨rfl, -⟩ := id s1'
            exact hW
          refine vg_istore C d_L_law_524 (Nat.le_of_ble_eq_true rfl) rfl ?_
          refine vg_aload_n C d_L_law_526 rfl ?_
          refine wr_callV (As := []) C (c_R_thrown Z hst ad υ) l_L_law_R_thrown k_L_67 rfl rfl rfl rfl rfl (Nat.le_of_ble_eq_true rfl) d_L_law_527 ⟨by show _ ≤ 601024; omega, by show _ ≤ 7293034; omega⟩ (fun v_527 w_527 h_527 => ?_)
          obtain ⟨rfl, rfl⟩ := h_527
          rw [e0]
          refine vg_iload C d_L_law_530 rfl ?_
          refine vg_icmp_eq (tgt := 537) C d_L_law_532 (by decide) (fun _ => ?_) (fun c_532 => absurd rfl c_532)
          refine vg_iload C d_L_law_537 rfl ?_
          refine vg_if_ne (tgt := 554) C d_L_law_539 (by decide) (fun c_539 => ?_) (fun c_539 => ?_)
          · skip
            refine vg_goto (tgt := 861) C d_L_law_554 (by decide) ?_
            refine vg_lv [2, 3, 4, 5, 6] rfl ?_
            first
              | exact NX (by omega) υ P1 hW2 (IC_fr fM iC) iM
              | exact vg_widen (Nat.le_succ _) (Nat.le_add_right _ 6) (NX (by omega) υ _ (PW_R (v := nI (pd P)) hW ⟨rfl, rfl⟩) (IC_fr fM iC) iM)
              | exact vg_widen (Nat.le_succ _) (Nat.le_add_right _ 6) (NX (by omega) σ P hW hC hM)
          · skip
            refine vg_aload_n C d_L_law_542 rfl ?_
            refine vg_iconst (v := 0) C d_L_law_543 (by decide) ?_
            refine wr_lald C d_L_law_544 rfl rfl (by exact (by decide : ¬ ((0 : Int32) < 0 ∨ 1 ≤ (0 : Int32).toNatClampNeg))) ?_
            rw [show υ.2 136 (Int32.toNatClampNeg 0) = b2.toInt64 from by rw [← eb c_539, (fM 136 (Or.inr rfl)).2]; exact ho c_539]
            refine vg_iload C d_L_law_545 rfl ?_
            refine vg_i2l C d_L_law_547 ?_
            refine vg_lcmp C d_L_law_548 ?_
            refine vg_if_eq (tgt := 554) C d_L_law_549 (by decide) (fun _ => ?_) (fun c_549 => absurd (lg_eq.mpr rfl) c_549)
            refine vg_goto (tgt := 861) C d_L_law_554 (by decide) ?_
            refine vg_lv [2, 3, 4, 5, 6] rfl ?_
            first
              | exact NX (by omega) υ P1 hW2 (IC_fr fM iC) iM
              | exact vg_widen (Nat.le_succ _) (Nat.le_add_right _ 6) (NX (by omega) υ _ (PW_R (v := nI (pd P)) hW ⟨rfl, rfl⟩) (IC_fr fM iC) iM)
              | exact vg_widen (Nat.le_succ _) (Nat.le_add_right _ 6) (NX (by omega) σ P hW hC hM)
        · skip
          rw [es_39]
          refine vg_tabIn (tgt := 557) C d_L_law_39 (by decide) (by decide) rfl (by decide) ?_
          refine vg_aload_n C d_L_law_557 rfl ?_
          refine vg_aload_n C d_L_law_558 rfl ?_
          refine vg_iload C d_L_law_559 rfl ?_
          refine vg_iconst (v := 1) C d_L_law_561 (by decide) ?_
          refine vg_iadd C d_L_law_562 ?_
          rw [show (1 : Int32) = nI 1 from rfl, nI_add]
          refine vg_sld C hX hbl hbA (by exact vp_in_nI (by omega) (by omega)) d_L_law_563 ?_
          rw [nI_clamp (by omega)]
          refine vg_aload_n C d_L_law_564 rfl ?_
          refine vg_iload C d_L_law_565 rfl ?_
          refine vg_iconst (v := 2) C d_L_law_567 (by decide) ?_
          refine vg_iadd C d_L_law_568 ?_
          rw [show (2 : Int32) = nI 2 from rfl, nI_add]
          refine vg_sld C hX hbl hbA (by exact vp_in_nI (by omega) (by omega)) d_L_law_569 ?_
          rw [nI_clamp (by omega)]
          refine vg_aload_n C d_L_law_570 rfl ?_
          refine vg_callSW (As := [_, _, _, _]) C (c_L_content Z hZ ad σ (xs (4 * n + 1)) (xs (4 * n + 2)) P hW hC) l_L_law_L_content k_L_95 rfl rfl (Nat.le_of_ble_eq_true rfl) d_L_law_571 ⟨by show _ ≤ 601024; omega, by show _ ≤ 7293034; omega⟩ (fun v_571 w_571 h_571 => ?_)
          obtain ⟨c, bv, P1, τ, s1', rfl, iC, fC, ho, rfl⟩ := h_571
          refine vg_istore C d_L_law_574 (Nat.le_of_ble_eq_true rfl) rfl ?_
          refine vg_aload_n C d_L_law_576 rfl ?_
          refine vg_aload_n C d_L_law_577 rfl ?_
          refine vg_iload C d_L_law_578 rfl ?_
          refine vg_iconst (v := 1) C d_L_law_580 (by decide) ?_
          refine vg_iadd C d_L_law_581 ?_
          rw [show (1 : Int32) = nI 1 from rfl, nI_add]
          refine vg_sld C hX hbl hbA (by exact vp_in_nI (by omega) (by omega)) d_L_law_582 ?_
          rw [nI_clamp (by omega)]
          refine vg_aload_n C d_L_law_583 rfl ?_
          refine vg_iload C d_L_law_584 rfl ?_
          refine vg_iconst (v := 2) C d_L_law_586 (by decide) ?_
          refine vg_iadd C d_L_law_587 ?_
          rw [show (2 : Int32) = nI 2 from rfl, nI_add]
          refine vg_sld C hX hbl hbA (by exact vp_in_nI (by omega) (by omega)) d_L_law_588 ?_
          rw [nI_clamp (by omega)]
          refine wr_callV (As := [_, _]) C (c_R_content Z hst ad τ (xs (4 * n + 1)) (xs (4 * n + 2)) P hW (IM_fW fC hM)) l_L_law_R_content k_L_97 rfl rfl rfl rfl rfl (Nat.le_of_ble_eq_true rfl) d_L_law_589 ⟨by show _ ≤ 601024; omega, by show _ ≤ 7293034; omega⟩ (fun v_589 w_589 h_589 => ?_)
          obtain ⟨c2, b2, P2, υ, s2', rfl, iM, fM, e0, rfl⟩ := h_589
          obtain ⟨ec, rfl, eb⟩ := SpK_d P _ _ _ _ _ _ _ _ s1' s2'
          subst ec
          have hW2 : PW P1 := by
            obtain ⟨rfl, -⟩ := id s1'
            exact hW
          refine vg_istore C d_L_law_592 (Nat.le_of_ble_eq_true rfl) rfl ?_
          refine vg_aload_n C d_L_law_594 rfl ?_
          refine wr_callV (As := []) C (c_R_thrown Z hst ad υ) l_L_law_R_thrown k_L_67 rfl rfl rfl rfl rfl (Nat.le_of_ble_eq_true rfl) d_L_law_595 ⟨by show _ ≤ 601024; omega, by show _ ≤ 7293034; omega⟩ (fun v_595 w_595 h_595 => ?_)
          obtain ⟨rfl, rfl⟩ := h_595
          rw [e0]
          refine vg_iload C d_L_law_598 rfl ?_
          refine vg_icmp_eq (tgt := 605) C d_L_law_600 (by decide) (fun _ => ?_) (fun c_600 => absurd rfl c_600)
          refine vg_iload C d_L_law_605 rfl ?_
          refine vg_if_ne (tgt := 622) C d_L_law_607 (by decide) (fun c_607 => ?_) (fun c_607 => ?_)
          · skip
            refine vg_goto (tgt := 861) C d_L_law_622 (by decide) ?_
            refine vg_lv [2, 3, 4, 5, 6] rfl ?_
            first
              | exact NX (by omega) υ P1 hW2 (IC_fr fM iC) iM
              | exact vg_widen (Nat.le_succ _) (Nat.le_add_right _ 6) (NX (by omega) υ _ (PW_R (v := nI (pd P)) hW ⟨rfl, rfl⟩) (IC_fr fM iC) iM)
              | exact vg_widen (Nat.le_succ _) (Nat.le_add_right _ 6) (NX (by omega) σ P hW hC hM)
          · skip
            refine vg_aload_n C d_L_law_610 rfl ?_
            refine vg_iconst (v := 0) C d_L_law_611 (by decide) ?_
            refine wr_lald C d_L_law_612 rfl rfl (by exact (by decide : ¬ ((0 : Int32) < 0 ∨ 1 ≤ (0 : Int32).toNatClampNeg))) ?_
            rw [show υ.2 136 (Int32.toNatClampNeg 0) = b2.toInt64 from by rw [← eb c_607, (fM 136 (Or.inr rfl)).2]; exact ho c_607]
            refine vg_iload C d_L_law_613 rfl ?_
            refine vg_i2l C d_L_law_615 ?_
            refine vg_lcmp C d_L_law_616 ?_
            refine vg_if_eq (tgt := 622) C d_L_law_617 (by decide) (fun _ => ?_) (fun c_617 => absurd (lg_eq.mpr rfl) c_617)
            refine vg_goto (tgt := 861) C d_L_law_622 (by decide) ?_
            refine vg_lv [2, 3, 4, 5, 6] rfl ?_
            first
              | exact NX (by omega) υ P1 hW2 (IC_fr fM iC) iM
              | exact vg_widen (Nat.le_succ _) (Nat.le_add_right _ 6) (NX (by omega) υ _ (PW_R (v := nI (pd P)) hW ⟨rfl, rfl⟩) (IC_fr fM iC) iM)
              | exact vg_widen (Nat.le_succ _) (Nat.le_add_right _ 6) (NX (by omega) σ P hW hC hM)
        · skip
          rw [es_39]
          refine vg_tabIn (tgt := 625) C d_L_law_39 (by decide) (by decide) rfl (by decide) ?_
          refine vg_aload_n C d_L_law_625 rfl ?_
          refine vg_aload_n C d_L_law_626 rfl ?_
          refine vg_iload C d_L_law_627 rfl ?_
          refine vg_iconst (v := 1) C d_L_law_629 (by decide) ?_
          refine vg_iadd C d_L_law_630 ?_
          rw [show (1 : Int32) = nI 1 from rfl, nI_add]
          refine vg_sld C hX hbl hbA (by exact vp_in_nI (by omega) (by omega)) d_L_law_631 ?_
          rw [nI_clamp (by omega)]
          refine vg_aload_n C d_L_law_632 rfl ?_
          refine vg_iload C d_L_law_633 rfl ?_
          refine vg_iconst (v := 2) C d_L_law_635 (by decide) ?_
          refine vg_iadd C d_L_law_636 ?_
          rw [show (2 : Int32) = nI 2 from rfl, nI_add]
          refine vg_sld C hX hbl hbA (by exact vp_in_nI (by omega) (by omega)) d_L_law_637 ?_
          rw [nI_clamp (by omega)]
          refine vg_aload_n C d_L_law_638 rfl ?_
          refine vg_callSW (As := [_, _, _, _]) C (c_L_longest Z hZ ad σ (xs (4 * n + 1)) (xs (4 * n + 2)) P hW hC) l_L_law_L_longest k_L_98 rfl rfl (Nat.le_of_ble_eq_true rfl) d_L_law_639 ⟨by show _ ≤ 601024; omega, by show _ ≤ 7293034; omega⟩ (fun v_639 w_639 h_639 => ?_)
          obtain ⟨c, bv, P1, τ, s1', rfl, iC, fC, ho, rfl⟩ := h_639
          refine vg_istore C d_L_law_642 (Nat.le_of_ble_eq_true rfl) rfl ?_
          refine vg_aload_n C d_L_law_644 rfl ?_
          refine vg_aload_n C d_L_law_645 rfl ?_
          refine vg_iload C d_L_law_646 rfl ?_
          refine vg_iconst (v := 1) C d_L_law_648 (by decide) ?_
          refine vg_iadd C d_L_law_649 ?_
          rw [show (1 : Int32) = nI 1 from rfl, nI_add]
          refine vg_sld C hX hbl hbA (by exact vp_in_nI (by omega) (by omega)) d_L_law_650 ?_
          rw [nI_clamp (by omega)]
          refine vg_aload_n C d_L_law_651 rfl ?_
          refine vg_iload C d_L_law_652 rfl ?_
          refine vg_iconst (v := 2) C d_L_law_654 (by decide) ?_
          refine vg_iadd C d_L_law_655 ?_
          rw [show (2 : Int32) = nI 2 from rfl, nI_add]
          refine vg_sld C hX hbl hbA (by exact vp_in_nI (by omega) (by omega)) d_L_law_656 ?_
          rw [nI_clamp (by omega)]
          refine wr_callV (As := [_, _]) C (c_R_longest Z hst ad τ (xs (4 * n + 1)) (xs (4 * n + 2)) P hW (IM_fW fC hM)) l_L_law_R_longest k_L_100 rfl rfl rfl rfl rfl (Nat.le_of_ble_eq_true rfl) d_L_law_657 ⟨by show _ ≤ 601024; omega, by show _ ≤ 7293034; omega⟩ (fun v_657 w_657 h_657 => ?_)
          obtain ⟨c2, b2, P2, υ, s2', rfl, iM, fM, e0, rfl⟩ := h_657
          obtain ⟨ec, rfl, eb⟩ := SpL_d P _ _ _ _ _ _ _ _ s1' s2'
          subst ec
          have hW2 : PW P1 := by
            obtain ⟨rfl, -⟩ := id s1'
            exact hW
          refine vg_istore C d_L_law_660 (Nat.le_of_ble_eq_true rfl) rfl ?_
          refine vg_aload_n C d_L_law_662 rfl ?_
          refine wr_callV (As := []) C (c_R_thrown Z hst ad υ) l_L_law_R_thrown k_L_67 rfl rfl rfl rfl rfl (Nat.le_of_ble_eq_true rfl) d_L_law_663 ⟨by show _ ≤ 601024; omega, by show _ ≤ 7293034; omega⟩ (fun v_663 w_663 h_663 => ?_)
          obtain ⟨rfl, rfl⟩ := h_663
          rw [e0]
          refine vg_iload C d_L_law_666 rfl ?_
          refine vg_icmp_eq (tgt := 673) C d_L_law_668 (by decide) (fun _ => ?_) (fun c_668 => absurd rfl c_668)
          refine vg_iload C d_L_law_673 rfl ?_
          refine vg_if_ne (tgt := 690) C d_L_law_675 (by decide) (fun c_675 => ?_) (fun c_675 => ?_)
          · skip
            refine vg_goto (tgt := 861) C d_L_law_690 (by decide) ?_
            refine vg_lv [2, 3, 4, 5, 6] rfl ?_
            first
              | exact NX (by omega) υ P1 hW2 (IC_fr fM iC) iM
              | exact vg_widen (Nat.le_succ _) (Nat.le_add_right _ 6) (NX (by omega) υ _ (PW_R (v := nI (pd P)) hW ⟨rfl, rfl⟩) (IC_fr fM iC) iM)
              | exact vg_widen (Nat.le_succ _) (Nat.le_add_right _ 6) (NX (by omega) σ P hW hC hM)
          · skip
            refine vg_aload_n C d_L_law_678 rfl ?_
            refine vg_iconst (v := 0) C d_L_law_679 (by decide) ?_
            refine wr_lald C d_L_law_680 rfl rfl (by exact (by decide : ¬ ((0 : Int32) < 0 ∨ 1 ≤ (0 : Int32).toNatClampNeg))) ?_
            rw [show υ.2 136 (Int32.toNatClampNeg 0) = b2.toInt64 from by rw [← eb c_675, (fM 136 (Or.inr rfl)).2]; exact ho c_675]
            refine vg_iload C d_L_law_681 rfl ?_
            refine vg_i2l C d_L_law_683 ?_
            refine vg_lcmp C d_L_law_684 ?_
            refine vg_if_eq (tgt := 690) C d_L_law_685 (by decide) (fun _ => ?_) (fun c_685 => absurd (lg_eq.mpr rfl) c_685)
            refine vg_goto (tgt := 861) C d_L_law_690 (by decide) ?_
            refine vg_lv [2, 3, 4, 5, 6] rfl ?_
            first
              | exact NX (by omega) υ P1 hW2 (IC_fr fM iC) iM
              | exact vg_widen (Nat.le_succ _) (Nat.le_add_right _ 6) (NX (by omega) υ _ (PW_R (v := nI (pd P)) hW ⟨rfl, rfl⟩) (IC_fr fM iC) iM)
              | exact vg_widen (Nat.le_succ _) (Nat.le_add_right _ 6) (NX (by omega) σ P hW hC hM)
        · skip
          rw [es_39]
          refine vg_tabIn (tgt := 693) C d_L_law_39 (by decide) (by decide) rfl (by decide) ?_
          refine vg_aload_n C d_L_law_693 rfl ?_
          refine vg_aload_n C d_L_law_694 rfl ?_
          refine vg_iload C d_L_law_695 rfl ?_
          refine vg_iconst (v := 1) C d_L_law_697 (by decide) ?_
          refine vg_iadd C d_L_law_698 ?_
          rw [show (1 : Int32) = nI 1 from rfl, nI_add]
          refine vg_sld C hX hbl hbA (by exact vp_in_nI (by omega) (by omega)) d_L_law_699 ?_
          rw [nI_clamp (by omega)]
          refine vg_aload_n C d_L_law_700 rfl ?_
          refine vg_callSW (As := [_, _, _]) C (c_L_find Z hZ ad σ (xs (4 * n + 1)) P hW hC) l_L_law_L_find k_L_101 rfl rfl (Nat.le_of_ble_eq_true rfl) d_L_law_701 ⟨by show _ ≤ 601024; omega, by show _ ≤ 7293034; omega⟩ (fun v_701 w_701 h_701 => ?_)
          obtain ⟨c, bv, P1, τ, s1', rfl, iC, fC, ho, rfl⟩ := h_701
          refine vg_istore C d_L_law_704 (Nat.le_of_ble_eq_true rfl) rfl ?_
          refine vg_aload_n C d_L_law_706 rfl ?_
          refine vg_aload_n C d_L_law_707 rfl ?_
          refine vg_iload C d_L_law_708 rfl ?_
          refine vg_iconst (v := 1) C d_L_law_710 (by decide) ?_
          refine vg_iadd C d_L_law_711 ?_
          rw [show (1 : Int32) = nI 1 from rfl, nI_add]
          refine vg_sld C hX hbl hbA (by exact vp_in_nI (by omega) (by omega)) d_L_law_712 ?_
          rw [nI_clamp (by omega)]
          refine wr_callV (As := [_]) C (c_R_find Z hst ad τ (xs (4 * n + 1)) P hW (IM_fW fC hM)) l_L_law_R_find k_L_103 rfl rfl rfl rfl rfl (Nat.le_of_ble_eq_true rfl) d_L_law_713 ⟨by show _ ≤ 601024; omega, by show _ ≤ 7293034; omega⟩ (fun v_713 w_713 h_713 => ?_)
          obtain ⟨c2, b2, P2, υ, s2', rfl, iM, fM, e0, rfl⟩ := h_713
          obtain ⟨ec, rfl, eb⟩ := SpF_d P _ _ _ _ _ _ _ s1' s2'
          subst ec
          have hW2 : PW P1 := by
            obtain ⟨rfl, -⟩ := id s1'
            exact hW
          refine vg_istore C d_L_law_716 (Nat.le_of_ble_eq_true rfl) rfl ?_
          refine vg_aload_n C d_L_law_718 rfl ?_
          refine wr_callV (As := []) C (c_R_thrown Z hst ad υ) l_L_law_R_thrown k_L_67 rfl rfl rfl rfl rfl (Nat.le_of_ble_eq_true rfl) d_L_law_719 ⟨by show _ ≤ 601024; omega, by show _ ≤ 7293034; omega⟩ (fun v_719 w_719 h_719 => ?_)
          obtain ⟨rfl, rfl⟩ := h_719
          rw [e0]
          refine vg_iload C d_L_law_722 rfl ?_
          refine vg_icmp_eq (tgt := 729) C d_L_law_724 (by decide) (fun _ => ?_) (fun c_724 => absurd rfl c_724)
          refine vg_iload C d_L_law_729 rfl ?_
          refine vg_if_ne (tgt := 746) C d_L_law_731 (by decide) (fun c_731 => ?_) (fun c_731 => ?_)
          · skip
            refine vg_goto (tgt := 861) C d_L_law_746 (by decide) ?_
            refine vg_lv [2, 3, 4, 5, 6] rfl ?_
            first
              | exact NX (by omega) υ P1 hW2 (IC_fr fM iC) iM
              | exact vg_widen (Nat.le_succ _) (Nat.le_add_right _ 6) (NX (by omega) υ _ (PW_R (v := nI (pd P)) hW ⟨rfl, rfl⟩) (IC_fr fM iC) iM)
              | exact vg_widen (Nat.le_succ _) (Nat.le_add_right _ 6) (NX (by omega) σ P hW hC hM)
          · skip
            refine vg_aload_n C d_L_law_734 rfl ?_
            refine vg_iconst (v := 0) C d_L_law_735 (by decide) ?_
            refine wr_lald C d_L_law_736 rfl rfl (by exact (by decide : ¬ ((0 : Int32) < 0 ∨ 1 ≤ (0 : Int32).toNatClampNeg))) ?_
            rw [show υ.2 136 (Int32.toNatClampNeg 0) = b2.toInt64 from by rw [← eb c_731, (fM 136 (Or.inr rfl)).2]; exact ho c_731]
            refine vg_iload C d_L_law_737 rfl ?_
            refine vg_i2l C d_L_law_739 ?_
            refine vg_lcmp C d_L_law_740 ?_
            refine vg_if_eq (tgt := 746) C d_L_law_741 (by decide) (fun _ => ?_) (fun c_741 => absurd (lg_eq.mpr rfl) c_741)
            refine vg_goto (tgt := 861) C d_L_law_746 (by decide) ?_
            refine vg_lv [2, 3, 4, 5, 6] rfl ?_
            first
              | exact NX (by omega) υ P1 hW2 (IC_fr fM iC) iM
              | exact vg_widen (Nat.le_succ _) (Nat.le_add_right _ 6) (NX (by omega) υ _ (PW_R (v := nI (pd P)) hW ⟨rfl, rfl⟩) (IC_fr fM iC) iM)
              | exact vg_widen (Nat.le_succ _) (Nat.le_add_right _ 6) (NX (by omega) σ P hW hC hM)
        · skip
          rw [es_39]
          refine vg_tabIn (tgt := 749) C d_L_law_39 (by decide) (by decide) rfl (by decide) ?_
          refine vg_aload_n C d_L_law_749 rfl ?_
          refine vg_aload_n C d_L_law_750 rfl ?_
          refine vg_iload C d_L_law_751 rfl ?_
          refine vg_iconst (v := 1) C d_L_law_753 (by decide) ?_
          refine vg_iadd C d_L_law_754 ?_
          rw [show (1 : Int32) = nI 1 from rfl, nI_add]
          refine vg_sld C hX hbl hbA (by exact vp_in_nI (by omega) (by omega)) d_L_law_755 ?_
          rw [nI_clamp (by omega)]
          refine vg_aload_n C d_L_law_756 rfl ?_
          refine vg_callSW (As := [_, _, _]) C (c_L_nullable Z hZ ad σ (xs (4 * n + 1)) P hW hC) l_L_law_L_nullable k_L_104 rfl rfl (Nat.le_of_ble_eq_true rfl) d_L_law_757 ⟨by show _ ≤ 601024; omega, by show _ ≤ 7293034; omega⟩ (fun v_757 w_757 h_757 => ?_)
          obtain ⟨c, bv, P1, τ, s1', rfl, iC, fC, ho, rfl⟩ := h_757
          refine vg_istore C d_L_law_760 (Nat.le_of_ble_eq_true rfl) rfl ?_
          refine vg_aload_n C d_L_law_762 rfl ?_
          refine vg_aload_n C d_L_law_763 rfl ?_
          refine vg_iload C d_L_law_764 rfl ?_
          refine vg_iconst (v := 1) C d_L_law_766 (by decide) ?_
          refine vg_iadd C d_L_law_767 ?_
          rw [show (1 : Int32) = nI 1 from rfl, nI_add]
          refine vg_sld C hX hbl hbA (by exact vp_in_nI (by omega) (by omega)) d_L_law_768 ?_
          rw [nI_clamp (by omega)]
          refine wr_callV (As := [_]) C (c_R_nullable Z hst ad τ (xs (4 * n + 1)) P hW (IM_fW fC hM)) l_L_law_R_nullable k_L_106 rfl rfl rfl rfl rfl (Nat.le_of_ble_eq_true rfl) d_L_law_769 ⟨by show _ ≤ 601024; omega, by show _ ≤ 7293034; omega⟩ (fun v_769 w_769 h_769 => ?_)
          obtain ⟨c2, b2, P2, υ, s2', rfl, iM, fM, e0, rfl⟩ := h_769
          obtain ⟨ec, rfl, eb⟩ := SpN_d P _ _ _ _ _ _ _ s1' s2'
          subst ec
          have hW2 : PW P1 := by
            obtain ⟨rfl, -⟩ := id s1'
            exact hW
          refine vg_istore C d_L_law_772 (Nat.le_of_ble_eq_true rfl) rfl ?_
          refine vg_aload_n C d_L_law_774 rfl ?_
          refine wr_callV (As := []) C (c_R_thrown Z hst ad υ) l_L_law_R_thrown k_L_67 rfl rfl rfl rfl rfl (Nat.le_of_ble_eq_true rfl) d_L_law_775 ⟨by show _ ≤ 601024; omega, by show _ ≤ 7293034; omega⟩ (fun v_775 w_775 h_775 => ?_)
          obtain ⟨rfl, rfl⟩ := h_775
          rw [e0]
          refine vg_iload C d_L_law_778 rfl ?_
          refine vg_icmp_eq (tgt := 785) C d_L_law_780 (by decide) (fun _ => ?_) (fun c_780 => absurd rfl c_780)
          refine vg_iload C d_L_law_785 rfl ?_
          refine vg_if_ne (tgt := 802) C d_L_law_787 (by decide) (fun c_787 => ?_) (fun c_787 => ?_)
          · skip
            refine vg_goto (tgt := 861) C d_L_law_802 (by decide) ?_
            refine vg_lv [2, 3, 4, 5, 6] rfl ?_
            first
              | exact NX (by omega) υ P1 hW2 (IC_fr fM iC) iM
              | exact vg_widen (Nat.le_succ _) (Nat.le_add_right _ 6) (NX (by omega) υ _ (PW_R (v := nI (pd P)) hW ⟨rfl, rfl⟩) (IC_fr fM iC) iM)
              | exact vg_widen (Nat.le_succ _) (Nat.le_add_right _ 6) (NX (by omega) σ P hW hC hM)
          · skip
            refine vg_aload_n C d_L_law_790 rfl ?_
            refine vg_iconst (v := 0) C d_L_law_791 (by decide) ?_
            refine wr_lald C d_L_law_792 rfl rfl (by exact (by decide : ¬ ((0 : Int32) < 0 ∨ 1 ≤ (0 : Int32).toNatClampNeg))) ?_
            rw [show υ.2 136 (Int32.toNatClampNeg 0) = b2.toInt64 from by rw [← eb c_787, (fM 136 (Or.inr rfl)).2]; exact ho c_787]
            refine vg_iload C d_L_law_793 rfl ?_
            refine vg_i2l C d_L_law_795 ?_
            refine vg_lcmp C d_L_law_796 ?_
            refine vg_if_eq (tgt := 802) C d_L_law_797 (by decide) (fun _ => ?_) (fun c_797 => absurd (lg_eq.mpr rfl) c_797)
            refine vg_goto (tgt := 861) C d_L_law_802 (by decide) ?_
            refine vg_lv [2, 3, 4, 5, 6] rfl ?_
            first
              | exact NX (by omega) υ P1 hW2 (IC_fr fM iC) iM
              | exact vg_widen (Nat.le_succ _) (Nat.le_add_right _ 6) (NX (by omega) υ _ (PW_R (v := nI (pd P)) hW ⟨rfl, rfl⟩) (IC_fr fM iC) iM)
              | exact vg_widen (Nat.le_succ _) (Nat.le_add_right _ 6) (NX (by omega) σ P hW hC hM)
        · skip
          rw [es_39]
          refine vg_tabIn (tgt := 805) C d_L_law_39 (by decide) (by decide) rfl (by decide) ?_
          refine vg_aload_n C d_L_law_805 rfl ?_
          refine vg_aload_n C d_L_law_806 rfl ?_
          refine vg_iload C d_L_law_807 rfl ?_
          refine vg_iconst (v := 1) C d_L_law_809 (by decide) ?_
          refine vg_iadd C d_L_law_810 ?_
          rw [show (1 : Int32) = nI 1 from rfl, nI_add]
          refine vg_sld C hX hbl hbA (by exact vp_in_nI (by omega) (by omega)) d_L_law_811 ?_
          rw [nI_clamp (by omega)]
          refine vg_aload_n C d_L_law_812 rfl ?_
          refine vg_callSW (As := [_, _, _]) C (c_L_count Z hZ ad σ (xs (4 * n + 1)) P hW hC) l_L_law_L_count k_L_107 rfl rfl (Nat.le_of_ble_eq_true rfl) d_L_law_813 ⟨by show _ ≤ 601024; omega, by show _ ≤ 7293034; omega⟩ (fun v_813 w_813 h_813 => ?_)
          obtain ⟨c, bv, P1, τ, s1', rfl, iC, fC, ho, rfl⟩ := h_813
          refine vg_istore C d_L_law_816 (Nat.le_of_ble_eq_true rfl) rfl ?_
          refine vg_aload_n C d_L_law_818 rfl ?_
          refine vg_aload_n C d_L_law_819 rfl ?_
          refine vg_iload C d_L_law_820 rfl ?_
          refine vg_iconst (v := 1) C d_L_law_822 (by decide) ?_
          refine vg_iadd C d_L_law_823 ?_
          rw [show (1 : Int32) = nI 1 from rfl, nI_add]
          refine vg_sld C hX hbl hbA (by exact vp_in_nI (by omega) (by omega)) d_L_law_824 ?_
          rw [nI_clamp (by omega)]
          refine wr_callV (As := [_]) C (c_R_count Z hst ad τ (xs (4 * n + 1)) P hW (IM_fW fC hM)) l_L_law_R_count k_L_109 rfl rfl rfl rfl rfl (Nat.le_of_ble_eq_true rfl) d_L_law_825 ⟨by show _ ≤ 601024; omega, by show _ ≤ 7293034; omega⟩ (fun v_825 w_825 h_825 => ?_)
          obtain ⟨c2, b2, P2, υ, s2', rfl, iM, fM, e0, rfl⟩ := h_825
          obtain ⟨ec, rfl, eb⟩ := SpU_d P _ _ _ _ _ _ _ s1' s2'
          subst ec
          have hW2 : PW P1 := by
            obtain ⟨rfl, -⟩ := id s1'
            exact hW
          refine vg_istore C d_L_law_828 (Nat.le_of_ble_eq_true rfl) rfl ?_
          refine vg_aload_n C d_L_law_830 rfl ?_
          refine wr_callV (As := []) C (c_R_thrown Z hst ad υ) l_L_law_R_thrown k_L_67 rfl rfl rfl rfl rfl (Nat.le_of_ble_eq_true rfl) d_L_law_831 ⟨by show _ ≤ 601024; omega, by show _ ≤ 7293034; omega⟩ (fun v_831 w_831 h_831 => ?_)
          obtain ⟨rfl, rfl⟩ := h_831
          rw [e0]
          refine vg_iload C d_L_law_834 rfl ?_
          refine vg_icmp_eq (tgt := 841) C d_L_law_836 (by decide) (fun _ => ?_) (fun c_836 => absurd rfl c_836)
          refine vg_iload C d_L_law_841 rfl ?_
          refine vg_if_ne (tgt := 858) C d_L_law_843 (by decide) (fun c_843 => ?_) (fun c_843 => ?_)
          · skip
            refine vg_goto (tgt := 861) C d_L_law_858 (by decide) ?_
            refine vg_lv [2, 3, 4, 5, 6] rfl ?_
            first
              | exact NX (by omega) υ P1 hW2 (IC_fr fM iC) iM
              | exact vg_widen (Nat.le_succ _) (Nat.le_add_right _ 6) (NX (by omega) υ _ (PW_R (v := nI (pd P)) hW ⟨rfl, rfl⟩) (IC_fr fM iC) iM)
              | exact vg_widen (Nat.le_succ _) (Nat.le_add_right _ 6) (NX (by omega) σ P hW hC hM)
          · skip
            refine vg_aload_n C d_L_law_846 rfl ?_
            refine vg_iconst (v := 0) C d_L_law_847 (by decide) ?_
            refine wr_lald C d_L_law_848 rfl rfl (by exact (by decide : ¬ ((0 : Int32) < 0 ∨ 1 ≤ (0 : Int32).toNatClampNeg))) ?_
            rw [show υ.2 136 (Int32.toNatClampNeg 0) = b2.toInt64 from by rw [← eb c_843, (fM 136 (Or.inr rfl)).2]; exact ho c_843]
            refine vg_iload C d_L_law_849 rfl ?_
            refine vg_i2l C d_L_law_851 ?_
            refine vg_lcmp C d_L_law_852 ?_
            refine vg_if_eq (tgt := 858) C d_L_law_853 (by decide) (fun _ => ?_) (fun c_853 => absurd (lg_eq.mpr rfl) c_853)
            refine vg_goto (tgt := 861) C d_L_law_858 (by decide) ?_
            refine vg_lv [2, 3, 4, 5, 6] rfl ?_
            first
              | exact NX (by omega) υ P1 hW2 (IC_fr fM iC) iM
              | exact vg_widen (Nat.le_succ _) (Nat.le_add_right _ 6) (NX (by omega) υ _ (PW_R (v := nI (pd P)) hW ⟨rfl, rfl⟩) (IC_fr fM iC) iM)
              | exact vg_widen (Nat.le_succ _) (Nat.le_add_right _ 6) (NX (by omega) σ P hW hC hM)
