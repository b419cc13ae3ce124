/-! methods that may throw, over all cells -/
def vg_Xc (Z : vg_Z) (px : String → va_W → Prop) : String → State → State → Prop := fun E st t => ∃ w, px E w ∧ va_P (vz_D Z) vg_cl w t.heap ∧ va_D (fun q => vz_b Z ≤ q) w ∧ va_F (fun q => vz_b Z ≤ q) st t
def vg_TX (Z : vg_Z) (M : vg_M) (mc ms : Nat) (as : List Value) (ws : va_W) (post : Option Value → va_W → Prop) (px : String → va_W → Prop) : Prop := vx_Met (vz_l Z) (vm_y M) (vm_ws M) (vm_R M) (vg_Pc Z as ws) (vg_Qc Z post) (vg_Xc Z px) mc ms (fun q => vz_b Z ≤ q)
def vg_RX (Z : vg_Z) (G : vg_G) (mc ms : Nat) (post : Option Value → va_W → Prop) (px : String → va_W → Prop) : Prop := vh_Q G = vx_MQ (vh_bl G) (vg_Qc Z post) (vg_Xc Z px) (vh_a G) (vh_s G) mc ms (fun q => vz_b Z ≤ q)
def vg_NE (G : vg_G) : Prop := ∀ x ∈ (vh_c G).exceptionTable.toList, False
def nm2 : List String := ["java/lang/RuntimeException", "java/lang/Exception"]
/-- what a throw of the class needs of the tables -/
def vg_TF (own : String) (ik ic : Nat) (cls : String) : Prop := Bundle.fit cls = true ∧ Cond.classLink own ik cls ∈ vg_ws ∧ Cond.initialized cls ∈ vg_ws ∧ (∀ w ∈ vx_at0 own ic cls nm2, w ∈ vg_ws ∨ w ∈ vg_nw) ∧ ∀ w ∈ Cond.classLink own ik cls :: Cond.initialized cls :: vx_at0 own ic cls nm2, vx_ot w = true
theorem tx_mem {L : List Cond} (ps : List Nat) (hp : L = ps.filterMap (fun i => lw_tbl[i]?)) (h : L.all (fun w => goodWord w || vg_isN w) = true) : ∀ w ∈ L, w ∈ vg_ws ∨ w ∈ vg_nw := by
  intro w hw
  have hm : w ∈ lw_tbl := by
    rw [hp] at hw
    obtain ⟨i, -, hi⟩ := List.mem_filterMap.mp hw
    exact List.mem_of_getElem? hi
  have hg := List.all_eq_true.mp h w hw
  rcases (Bool.or_eq_true _ _).mp hg with g | g
  · exact Or.inl (List.mem_filter.mpr ⟨hm, g⟩)
  · rcases List.mem_append.mp hm with q | q
    · unfold k2_sels at q
      obtain ⟨z, -, rfl⟩ := List.mem_map.mp q
      simp [vg_isN] at g
    · exact Or.inr (List.mem_filter.mpr ⟨q, g⟩)
theorem tx_1 {w : Cond} {i : Nat} (h : lw_tbl[i]? = some w) (g : goodWord w = true) : w ∈ vg_ws := List.mem_filter.mpr ⟨List.mem_of_getElem? h, g⟩
theorem tf_A : vg_TF "PatternValidator" 36 38 "java/lang/IllegalArgumentException" := ⟨by decide +kernel, tx_1 (i := 237) (by decide +kernel) (by decide +kernel), tx_1 (i := 41) (by decide +kernel) (by decide +kernel), tx_mem [38, 259, 268, 273, 276, 278, 260, 261, 53, 54, 262, 267, 274, 290, 249, 291, 251, 292, 253, 263, 265, 255, 280, 281, 282, 283, 240, 283, 284, 285, 286, 242, 286, 287, 288, 260, 244, 279, 238, 239, 246, 247, 248, 250, 252, 254, 258, 257, 256] (by decide +kernel) (by decide +kernel), List.all_eq_true.mp (by decide +kernel)⟩
theorem tf_S : vg_TF "PatternValidator" 42 44 "java/lang/IllegalStateException" := ⟨by decide +kernel, tx_1 (i := 318) (by decide +kernel) (by decide +kernel), tx_1 (i := 43) (by decide +kernel) (by decide +kernel), tx_mem [38, 259, 268, 273, 276, 278, 260, 261, 53, 54, 262, 267, 274, 290, 249, 291, 251, 292, 253, 263, 265, 255, 328, 329, 330, 283, 240, 283, 284, 285, 286, 242, 286, 287, 288, 260, 244, 327, 319, 320, 321, 270, 322, 323, 324, 325, 258, 257, 326] (by decide +kernel) (by decide +kernel), List.all_eq_true.mp (by decide +kernel)⟩
theorem tf_N : vg_TF "PatternValidator" 53 55 "java/util/NoSuchElementException" := ⟨by decide +kernel, tx_1 (i := 347) (by decide +kernel) (by decide +kernel), tx_1 (i := 44) (by decide +kernel) (by decide +kernel), tx_mem [38, 259, 268, 273, 276, 278, 260, 261, 53, 54, 262, 267, 274, 290, 249, 291, 251, 292, 253, 263, 265, 255, 357, 358, 359, 283, 240, 283, 284, 285, 286, 242, 286, 287, 288, 260, 244, 356, 348, 349, 350, 272, 351, 352, 353, 354, 258, 257, 355] (by decide +kernel) (by decide +kernel), List.all_eq_true.mp (by decide +kernel)⟩
theorem tf_U : vg_TF "PatternValidator" 60 62 "java/lang/UnsupportedOperationException" := ⟨by decide +kernel, tx_1 (i := 374) (by decide +kernel) (by decide +kernel), tx_1 (i := 45) (by decide +kernel) (by decide +kernel), tx_mem [38, 259, 268, 273, 276, 278, 260, 261, 53, 54, 262, 267, 274, 290, 249, 291, 251, 292, 253, 263, 265, 255, 384, 385, 386, 283, 240, 283, 284, 285, 286, 242, 286, 287, 288, 260, 244, 383, 375, 376, 377, 271, 378, 379, 380, 381, 258, 257, 382] (by decide +kernel) (by decide +kernel), List.all_eq_true.mp (by decide +kernel)⟩
/-- what is known below the base: Throwable's two statics, which of the four isn't which, the array WITHOUT -/
def ex4 : List String := ["java/lang/IllegalArgumentException", "java/lang/IllegalStateException", "java/util/NoSuchElementException", "java/lang/UnsupportedOperationException"]
def fW : Nat → Int64 := fun j => match j with
  | 0 => 6148914691236517205
  | 1 => 3689348814741910323
  | 2 => 1085102592571150095
  | 3 => 71777214294589695
  | 4 => 281470681808895
  | _ => 4294967295
def vg_P0 (b : Nat) (U : State) : Prop := vx_Zq Bundle.tN "UNASSIGNED_STACK" Bundle.steD (fun q => b ≤ q) U U.heap ∧ vx_Zq Bundle.tN "SUPPRESSED_SENTINEL" Bundle.listD (fun q => b ≤ q) U U.heap ∧ (∀ E ∈ ex4, ∀ F ∈ ex4, E ≠ F → va_Nc E F U) ∧ ∃ t, va_Z "PatternValidator$Matcher" "WITHOUT" "[J" (.ref t) (fun q => b ≤ q) U U.heap ∧ va_T .long t 6 (fun j => .long (fW j)) (fun q => b ≤ q) U U.heap ∧ va_AO "PatternValidator$Node" U
def vg_ZP (Z : vg_Z) : Prop := vz_P Z = vg_P0 (vz_b Z) ∧ (vz_l Z).stackTraces = false
theorem vg_ZP_St {Z : vg_Z} (h : vg_ZP Z) : vg_St Z := by
  intro U V hU hA hq
  rw [h.1] at hU ⊢
  obtain ⟨h1, h2, h3, t, h4, h5, h6⟩ := hU
  have k : ∀ a : Nat, a < U.heap.size → ¬ vz_b Z ≤ a → V.heap[a]? = U.heap[a]? := fun a _ h => hq a (Nat.not_le.mp h)
  exact ⟨vx_Zq.moved hA (h1.kept k), vx_Zq.moved hA (h2.kept k), fun E hE F hF hn => va_Nc.moved hA (h3 E hE F hF hn), t, va_Z.moved hA (h4.kept k), va_T.moved hA (h5.kept k), va_AO.moved hA h6⟩
section VGX
variable {Z : vg_Z} {M : vg_M} {G : vg_G} {cells slots pc : Nat} {lv : List (Nat × Value)} {rest : List Value} {ws : va_W} {post : Option Value → va_W → Prop} {px : String → va_W → Prop} {mc ms : Nat}
theorem vg_enterX {as : List Value} (hst : vg_St Z) (hy : plainName (vm_own M) = true) (hw : vm_cw M = Cond.code (vm_y M) (vm_cc M) (vm_n M) (vm_ret M)) (hlen : (lg_sl as).length ≤ vm_n M)
    (body : ∀ G : vg_G, vg_C Z M G → vg_NE G → vg_RX Z G mc ms post px → vg_K Z M G 0 0 0 (lv_args 0 as) [] ws) : vg_TX Z M mc ms as ws post px := by
  refine vx_ofW (cc := vm_cc M) (maxL := vm_n M) (ret := vm_ret M) (ws' := vg_ws) hy (congrArg (· :: vg_ws) hw) ?_
  intro p e s m args below meth c s₁ B hml hne hv
  obtain ⟨rfl, hP, hD, hK, hb, hp, hnw⟩ := hv
  have hts := atoms_spec (ws := vm_ws M) B.pre
  have hown' : s.vm.findClass (vm_own M) = some m.cls := findClass_of_methodNamed B.named
  have hnm : meth.name = (vm_y M).name := (name_of_methodNamed B.named B.method).1
  have hl := lv_entry as (n := vm_n M) hlen
  rw [lg_entry_eq]
  exact body (p, e, s, m, as.toArray, below, meth, c, vx_MQ below (vg_Qc Z post) (vg_Xc Z px) as.toArray s mc ms (fun q => vz_b Z ≤ q)) ⟨B.exec, B.bytes, hml, hown', hts, hK, hb, hp, hst, B.returns, B.notSynchronized, hnm, hnw⟩ hne rfl s.heap [] _ hP hD va_S.rf hl
theorem vg_iretX (C : vg_C Z M G) (hQ : vg_RX Z G mc ms post px) {v : Int32} {ty : FieldType} (d : decode (vm_cc M) pc = .ok (.ireturn, 1)) (hr : vm_ret M = some ty) (hn : narrow ty (.int v) = .int v) (hc : cells ≤ mc) (hs : slots ≤ ms) (hp : post (some (.int v)) ws) : vg_K Z M G cells slots pc lv [.int v] ws := by
  intro H locs ls hP hD hS hl
  rw [hQ]
  have k := vx_ret (XC := vg_Xc Z px) (W.zret (p := vh_p G) (l := vz_l Z) (e := vh_e G) (R := vm_R M) (s := vh_s G) (m := vh_m G) (args := vh_a G) (below := vh_bl G) (meth := vh_me G) (c := vh_c G) (H := H) (locs := locs) (cells := mc) (slots := ms) (Qc := vg_Qc Z post) (free := fun q => vz_b Z ≤ q) (ls := ls) C.1 C.2.1 (C.2.2.2.2.2.2.2.2.2.1.trans hr) hn (fun t ht hW => ⟨⟨_, ws, rfl, hp, by rw [ht]; exact hP, hD⟩, hS.F ht⟩) hS.2.2 d C.2.2.2.2.2.2.2.2.2.2.1)
  exact fun T hT X => k T hT (stand_widen X hc hs)
theorem vg_throw0 (C : vg_C Z M G) (hne : vg_NE G) (hQ : vg_RX Z G mc ms post px) (hZ : vg_ZP Z) {cls : String} {ik ic : Nat} (hF : vg_TF (vm_own M) ik ic cls)
    (d0 : decode (vm_cc M) pc = .ok (.new ik, 3)) (d3 : decode (vm_cc M) (pc + 3) = .ok (.dup, 1)) (d4 : decode (vm_cc M) (pc + 4) = .ok (.invokespecial ic, 3)) (d7 : decode (vm_cc M) (pc + 7) = .ok (.athrow, 1))
    (hr : 5 < (vm_R M).frames ∧ (rest.map fun v => v.category).sum + 81 ≤ (vm_R M).locals ∧ cells + 1 ≤ (vm_R M).cells ∧ slots + 6 ≤ (vm_R M).slots) (hc : cells + 1 ≤ mc) (hs : slots + 6 ≤ ms) (hx : px cls ws) : vg_K Z M G cells slots pc lv rest ws := by
  intro H locs ls hP hD hS hl
  rw [hQ]
  obtain ⟨hfit, hk, hini, hat, hot⟩ := hF
  have hts := C.2.2.2.2.1
  have hp := C.2.2.2.2.2.2.2.1
  have hnw := C.2.2.2.2.2.2.2.2.2.2.2.2
  rw [hZ.1] at hp
  have gs : ∀ w ∈ vg_ws, w.before (vh_a G) (vh_s G) = true := fun w h => hts w (List.mem_cons_of_mem _ h)
  exact vx_throw0 (own := vm_own M) (cls := cls) (names := nm2) (ik := ik) (ic := ic) C.1 C.2.1 hZ.2 C.2.2.2.1 hfit (by decide +kernel) (gs _ hk) (gs _ hini) (fun w hw => (hat w hw).elim (gs w) (fun h => va_Nw.use (vg_nw_tab h) (hnw w h))) hot hp.1 hp.2.1 hS (hl.1.trans C.2.2.1.symm) d0 d3 d4 d7 (fun x hx => (hne x hx).elim) hr.1 hr.2.1 hr.2.2.1 hr.2.2.2 C.2.2.2.2.2.2.2.2.2.2.1
    (fun t _ hz hk => ⟨ws, hx, va_P.kept hP (fun k q hq => hk q.1 (vx_lt hP hq)), hD, ⟨Nat.le_trans hS.1 hz, fun q h1 h2 => (hk q (Nat.lt_of_lt_of_le h1 hS.1)).trans (hS.2.1 q h1 h2)⟩⟩) hS.2.2 hc hs
/-! and methods that catch -/
/-- q of the class E is thrown over the frame at pc -/
def vg_KX (Z : vg_Z) (M : vg_M) (G : vg_G) (cells slots pc : Nat) (lv : List (Nat × Value)) (rest : List Value) (ws : va_W) (E : String) : Prop :=
  ∀ (H : Heap) (locs : List Loc) (ls : Array Slot) (q : Addr) (ce : Cell), va_P (vz_D Z) vg_cl ws H → va_D (fun q => vz_b Z ≤ q) ws → va_S (fun q => vz_b Z ≤ q) (vh_s G).heap H locs → lv_has ls (vm_n M) lv → H[q]? = some ce → ce.vm = .none → (vh_s G).vm.findClass E = some ce.cls →
    vx_W (vh_p G) (vz_l Z) (vh_e G) (vm_R M) (vh_s G) (vh_m G) (vh_a G) (vh_bl G) (vh_me G) (vh_c G) H locs cells slots (vh_Q G) (F0 (vh_m G) pc ls rest) q
theorem vg_callVX {M' : vg_M} {n idx ci a i : Nat} {As st : List Value} {fs : List Value} {T : u_T} {N : Nat} (C : vg_C Z M G) (hM : vg_TX Z M' mc ms (.ref a :: As) ws post px) (hL : vg_L M M' n mc ms)
    (hk : Cond.methodLink (vm_own M) idx (vm_y M') ∈ vg_ws ∧ Cond.instanceMethod (vm_y M') ∈ vg_ws ∧ Cond.selects (vm_own M') (vm_y M') (vm_y M') ∈ vg_ws) (he : ws[i]? = some (a, .inr (ci, fs))) (hcl : vg_cl[ci]? = some (vm_own M', T, N)) (hn : As.length = n) (hst : st = As.reverse ++ .ref a :: rest) (hW : (rest.map fun v => v.category).sum ≤ 8)
    (d : decode (vm_cc M) pc = .ok (.invokevirtual idx, 3)) (hf : cells + mc ≤ (vm_R M).cells ∧ slots + ms ≤ (vm_R M).slots) (kk : ∀ (v : Option Value) (w : va_W), post v w → vg_K Z M G (cells + mc) (slots + ms) (pc + 3) lv (v.toList ++ rest) w) (kx : ∀ (E : String) (w : va_W), px E w → vg_KX Z M G (cells + mc) (slots + ms) pc lv rest w E) : vg_K Z M G cells slots pc lv st ws := by
  intro H locs ls hP hD hS hl
  obtain ⟨hcw, hw, hrc, hrs, hd, hR, hini⟩ := hL
  have hts := C.2.2.2.2.1
  have hG : GoodIn (vm_ws M) (vm_ws M') := vg_goodIn hcw
  have hw : vm_ws M' = Cond.code (vm_y M') (vm_cc M') (vm_n M') (vm_ret M') :: vg_ws := congrArg (· :: vg_ws) hw
  have hgs : ∀ w ∈ vg_ws, w.before (vh_a G) (vh_s G) = true := fun w h => hts w (List.mem_cons_of_mem _ h)
  have hb : CallB (vm_R M) (vh_s G) (vh_a G) (vm_own M) idx (vm_y M') (vm_cc M') (vm_n M') (vm_ret M') (vm_ws M') (vm_R M') mc ms n := callB_of n hts hG hw hrc hrs (hgs _ hini) (hgs _ hk.1) hd hR
  intro T0 hT0 X
  rcases vx_runV (C := vm_own M') (As := As) (rest := rest) (g := F0 (vh_m G) pc ls st) ⟨C.1, C.2.1, C.2.2.1, C.2.2.2.1, hts⟩ hM ⟨hb, hgs _ hk.2.1, hgs _ hk.2.2⟩ ⟨vg_blind C.2.2.2.2.2.2.2.2.1 _, va_recv C.2.2.2.2.2.1 hP hcl he, vg_pre C hP hD hS _⟩ rfl hn hl.1 hst (lv_room hW) d hf T0 hT0 X with ⟨v, st₀, t, T', L, h0, X', hL, e1, e2, ⟨⟨v', w, hv, hp, hP1, hD1⟩, hz, hk⟩, stp⟩ | ⟨q, st₀, t, T', L, E, ce, h0, X', hL, e1, e2, ⟨w, hp, hP1, hD1, hz, hk⟩, hce, hcv, hcl, stp⟩
  · cases hv
    rw [h0] at hz hk
    have hS1 : va_S (fun q => vz_b Z ≤ q) (vh_s G).heap T'.heap (locs ++ L) := ⟨Nat.le_trans hS.1 (by rw [e1]; exact hz), fun q h1 h2 => by rw [e1, hk q (Nat.lt_of_lt_of_le h1 hS.1) h2]; exact hS.2.1 q h1 h2, fun q hq => by
        rcases List.mem_append.mp hq with h | h
        · exact hS.2.2 q h
        · exact hL q h⟩
    obtain ⟨t2, a1, b1⟩ := kk v w hp T'.heap (locs ++ L) ls (by rw [e1]; exact hP1) hD1 hS1 hl T' rfl X'
    exact ⟨t2, stp t2 a1, b1⟩
  · rw [h0] at hz hk
    have hS1 : va_S (fun q => vz_b Z ≤ q) (vh_s G).heap T'.heap (locs ++ L) := ⟨Nat.le_trans hS.1 (by rw [e1]; exact hz), fun q h1 h2 => by rw [e1, hk q (Nat.lt_of_lt_of_le h1 hS.1) h2]; exact hS.2.1 q h1 h2, fun q hq => by
        rcases List.mem_append.mp hq with h | h
        · exact hS.2.2 q h
        · exact hL q h⟩
    obtain ⟨t2, a1, b1⟩ := kx E w hp T'.heap (locs ++ L) ls q ce (by rw [e1]; exact hP1) hD1 hS1 hl (by rw [e1]; exact hce) hcv hcl T' rfl X'
    exact ⟨t2, stp.trans a1, b1⟩
theorem vg_catch {name E : String} (C : vg_C Z M G) (hZ : vg_ZP Z) (pre : List ExceptionTableEntry) (x : ExceptionTableEntry) (suf : List ExceptionTableEntry) (hsplit : (vh_c G).exceptionTable.toList = pre ++ x :: suf)
    (hpass : ∀ z ∈ pre, z.catchType ≠ 0 ∧ ∃ nm : String, Cond.classLink (vm_own M) z.catchType nm ∈ vg_ws ∧ E ∈ ex4 ∧ nm ∈ ex4 ∧ E ≠ nm) (hx : covers x pc = true) (h0 : x.catchType ≠ 0)
    (hlink : Cond.classLink (vm_own M) x.catchType name ∈ vg_ws) (hcast : Cond.castable E name ∈ vg_nw) (kk : ∀ q : Nat, vg_K Z M G cells slots x.handlerPc lv [.ref q] ws) : vg_KX Z M G cells slots pc lv rest ws E := by
  intro H locs ls q ce hP hD hS hl hce hcv hcl
  have hts := C.2.2.2.2.1
  have hgs : ∀ w ∈ vg_ws, w.before (vh_a G) (vh_s G) = true := fun w h => hts w (List.mem_cons_of_mem _ h)
  have hnw := C.2.2.2.2.2.2.2.2.2.2.2.2
  have hp := C.2.2.2.2.2.2.2.1
  rw [hZ.1] at hp
  exact vx_catch (own := vm_own M) (name := name) (E := E) C.2.2.2.1 pre x suf hsplit (fun z hz => by
    obtain ⟨a1, nm, a2, a3, a4, a5⟩ := hpass z hz
    exact Or.inr ⟨a1, nm, hgs _ a2, hp.2.2.1 E a3 nm a4 a5⟩) hx h0 (hgs _ hlink) (va_Nw.use (vg_nw_tab hcast) (hnw _ hcast)) hce hcv hcl (kk q H locs ls hP hD hS hl)
end VGX
