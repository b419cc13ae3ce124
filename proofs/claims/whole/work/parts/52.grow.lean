/-! worlds that grow: k cells, their places and what they hold -/
def wl (k : Nat) (ad : Nat → Nat) (f : Nat → va_E) : va_W := (List.range k).map fun j => (ad j, f j)
def fu {X : Type} (f : Nat → X) (i : Nat) (e : X) : Nat → X := fun j => if j = i then e else f j
theorem fu_s {X : Type} {f : Nat → X} {i : Nat} {e : X} : fu f i e i = e := if_pos rfl
theorem fu_n {X : Type} {f : Nat → X} {i j : Nat} {e : X} (h : j ≠ i) : fu f i e j = f j := if_neg h
section WL
variable {k i : Nat} {ad : Nat → Nat} {f : Nat → va_E}
theorem wl_at (h : i < k) : (wl k ad f)[i]? = some (ad i, f i) := by
  unfold wl
  rw [List.getElem?_map, List.getElem?_range h]
  rfl
theorem wl_len : (wl k ad f).length = k := by
  unfold wl
  rw [List.length_map, List.length_range]
theorem wl_cg {ad' : Nat → Nat} {f' : Nat → va_E} (h : ∀ j, j < k → ad' j = ad j ∧ f' j = f j) : wl k ad f = wl k ad' f' := by
  unfold wl
  apply List.map_congr_left
  intro j hj
  obtain ⟨a, b⟩ := h j (List.mem_range.mp hj)
  rw [a, b]
theorem wl_set (h : i < k) (e : va_E) : (wl k ad f).set i (ad i, e) = wl k ad (fu f i e) := by
  apply List.ext_getElem?
  intro j
  by_cases hj : j < k
  · by_cases q : i = j
    · subst q
      rw [wl_at h, List.getElem?_set_self (by rw [wl_len]; exact h), fu_s]
    · rw [wl_at hj, List.getElem?_set_ne q, wl_at hj, fu_n (fun z => q z.symm)]
  · rw [List.getElem?_eq_none (by rw [List.length_set, wl_len]; omega), List.getElem?_eq_none (by rw [wl_len]; omega)]
theorem wl_new (a : Nat) (e : va_E) : wl k ad f ++ [(a, e)] = wl (k + 1) (fu ad k a) (fu f k e) := by
  show _ = (List.range (k + 1)).map _
  rw [List.range_succ, List.map_append]
  show _ = wl k (fu ad k a) (fu f k e) ++ [(fu ad k a k, fu f k e k)]
  rw [fu_s, fu_s]
  congr 1
  exact wl_cg (fun j hj => ⟨fu_n (by omega), fu_n (by omega)⟩)
theorem wd_wl {Z : vg_Z} {σ : sg} : wd Z ad σ = wl 137 ad (fun j => wd_c Z ad σ j (wd_kl.getD j 99)) := rfl
end WL
section VGN
variable {Z : vg_Z} {M : vg_M} {G : vg_G} {cells slots pc : Nat} {lv : List (Nat × Value)} {rest : List Value} {ws : va_W} {k i : Nat} {ad : Nat → Nat} {f : Nat → va_E}
theorem ob_i : Cond.instanceMethod Lib.objectInit ∈ vg_ws := vg_in (i := 22) (by decide +kernel) (by decide +kernel)
theorem ob_c : Cond.code Lib.objectInit ⟨#[0xb1]⟩ 1 none ∈ vg_ws := vg_in (i := 23) (by decide +kernel) (by decide +kernel)
theorem vg_objI (C : vg_C Z M G) {idx a : Nat} (hk : Cond.methodLink (vm_own M) idx Lib.objectInit ∈ vg_ws) (d : decode (vm_cc M) pc = .ok (.invokespecial idx, 3)) (hr : 1 ≤ (vm_R M).frames ∧ (rest.map fun v => v.category).sum + 12 ≤ (vm_R M).locals) (kk : vg_K Z M G cells slots (pc + 3) lv rest ws) : vg_K Z M G cells slots pc lv (.ref a :: rest) ws := by
  intro H locs ls hP hD hS hl
  have hgs : ∀ w ∈ vg_ws, w.before (vh_a G) (vh_s G) = true := fun w h => C.2.2.2.2.1 w (List.mem_cons_of_mem _ h)
  exact W.objInit C.1 C.2.1 C.2.2.2.1 (hgs _ hk) (hgs _ ob_i) (hgs _ ob_c) rfl (hl.1.trans C.2.2.1.symm) rfl d hr.1 (by have := hr.2; show 2 * JFrame.monitorRoom _ + _ + 12 ≤ _; have e : JFrame.monitorRoom (F0 (vh_m G) pc ls (.ref a :: rest)) = 0 := rfl; rw [e]; omega) (kk H locs ls hP hD hS hl)
/-- what 'new' needs of the tables -/
def vg_NW (own : String) (idx ci N : Nat) (fs : List Value) : Prop := ∃ (C : String) (T : u_T) (ty : Nat → FieldType), vg_cl[ci]? = some (C, T, N) ∧ (∀ w ∈ u_ws C T N, w ∈ vg_ws) ∧ (∀ k, k < N → parseFieldDescriptor (T k).2.2.1 = some (ty k)) ∧ Cond.classLink own idx C ∈ vg_ws ∧ Cond.instantiable C N ∈ vg_ws ∧ Cond.initialized C ∈ vg_ws ∧ ∀ j, j < N → defaultValue (ty j) = vp_V fs j
theorem wl_newo (C : vg_C Z M G) {idx ci N : Nat} {fs : List Value} (hN : vg_NW (vm_own M) idx ci N fs) (d : decode (vm_cc M) pc = .ok (.new idx, 3)) (hf : cells + 1 ≤ (vm_R M).cells ∧ slots + N ≤ (vm_R M).slots) (kk : ∀ ad' : Nat → Nat, (∀ j, j < k → ad' j = ad j) → vg_K Z M G (cells + 1) (slots + N) (pc + 3) lv (.ref (ad' k) :: rest) (wl (k + 1) ad' (fu f k (.inr (ci, fs))))) : vg_K Z M G cells slots pc lv rest (wl k ad f) := by
  intro H locs ls hP hD hS hl
  obtain ⟨nm, T, ty, hc, hin, hty, h1, h2, h3, hd⟩ := hN
  have hgs : ∀ w ∈ vg_ws, w.before (vh_a G) (vh_s G) = true := fun w h => C.2.2.2.2.1 w (List.mem_cons_of_mem _ h)
  refine va_new C.1 C.2.1 C.2.2.2.2.1 (fun w h => List.mem_cons_of_mem _ (hin w h)) ty hty C.2.2.2.1 (hgs _ h1) (hgs _ h2) (hgs _ h3) C.2.2.2.2.2.1 hP hD hS (fun q hq => Nat.le_trans C.2.2.2.2.2.2.1 hq) hc hd hf.1 hf.2 d (fun q H1 hP1 hD1 hS1 => ?_)
  rw [wl_new] at hP1 hD1
  have K := kk (fu ad k q) (fun j hj => fu_n (by omega)) H1 locs ls hP1 hD1 hS1 hl
  rw [fu_s] at K
  exact K
theorem ra_eq {U : State} {c c' : ClassId} {ty : FieldType} (h : va_RA U c ty) (h' : va_RA U c' ty) : c = c' := by
  cases ty with
  | object C =>
    obtain ⟨-, -, -, -, -, a⟩ := h
    obtain ⟨-, -, -, -, -, b⟩ := h'
    exact Option.some.inj (a.symm.trans b)
  | _ => exact Option.some.inj (Eq.trans (Eq.symm h) h')
theorem wl_newa (C : vg_C Z M G) (t : Nat) {cA : ClassId} {ty : FieldType} {atype : ArrayType} {n : Int32} {N : Nat} {a0 : vp_A} (harr : Cond.arrayClass (newarray.typeOf atype) ∈ vg_ws) (hty : newarray.typeOf atype = ty) (ht : (vz_ty Z)[t]? = some (cA, ty)) (ha : ∀ cA : ClassId, vp_cell cA a0 = arrV cA N (fun _ => defaultValue ty)) (hn : ¬ n < 0) (hN : n.toNatClampNeg = N) (hb : N * componentBytes ty ≤ 536870912) (d : decode (vm_cc M) pc = .ok (.newarray atype, 2)) (hf : cells + 1 ≤ (vm_R M).cells ∧ slots + N ≤ (vm_R M).slots) (kk : ∀ ad' : Nat → Nat, (∀ j, j < k → ad' j = ad j) → vg_K Z M G (cells + 1) (slots + N) (pc + 2) lv (.ref (ad' k) :: rest) (wl (k + 1) ad' (fu f k (.inl (cA, a0))))) : vg_K Z M G cells slots pc lv (.int n :: rest) (wl k ad f) := by
  intro H locs ls hP hD hS hl
  have hgs : ∀ w ∈ vg_ws, w.before (vh_a G) (vh_s G) = true := fun w h => C.2.2.2.2.1 w (List.mem_cons_of_mem _ h)
  refine va_newa C.1 C.2.1 (hgs _ harr) hty C.2.2.2.2.2.1 hP hD hS (fun q hq => Nat.le_trans C.2.2.2.2.2.2.1 hq) ha hn hN hb hf.1 hf.2 d (fun q cB H1 hK1 hP1 hD1 hS1 => ?_)
  have e : cB = cA := ra_eq (hK1.2 (vz_ty Z).length (cB, ty) (by rw [List.getElem?_append_right (Nat.le_refl _), Nat.sub_self]; rfl)).2 (C.2.2.2.2.2.1.2 t _ ht).2
  subst e
  rw [wl_new] at hP1 hD1
  have K := kk (fu ad k q) (fun j hj => fu_n (by omega)) H1 locs ls hP1 hD1 hS1 hl
  rw [fu_s] at K
  exact K
theorem wl_anew (C : vg_C Z M G) (hZ : vg_ZP Z) {idx : Nat} {n : Int32} {N : Nat} (hk : Cond.classLink (vm_own M) idx "PatternValidator$Node" ∈ vg_ws) (hn : ¬ n < 0) (hN : n.toNatClampNeg = N) (hb : N * 4 ≤ 536870912) (d : decode (vm_cc M) pc = .ok (.anewarray idx, 3)) (hf : cells + 1 ≤ (vm_R M).cells ∧ slots + N ≤ (vm_R M).slots) (kk : ∀ ad' : Nat → Nat, (∀ j, j < k → ad' j = ad j) → vg_K Z M G (cells + 1) (slots + N) (pc + 3) lv (.ref (ad' k) :: rest) (wl (k + 1) ad' (fu f k (.inl (vz_cN Z, N, .inr (.inr (.inr (.inr (fun _ => none))))))))) : vg_K Z M G cells slots pc lv (.int n :: rest) (wl k ad f) := by
  intro H locs ls hP hD hS hl
  have hgs : ∀ w ∈ vg_ws, w.before (vh_a G) (vh_s G) = true := fun w h => C.2.2.2.2.1 w (List.mem_cons_of_mem _ h)
  have hp := C.2.2.2.2.2.2.2.1
  rw [hZ.1] at hp
  refine va_newq C.1 C.2.1 C.2.2.2.1 (hgs _ hk) hp.2.2.2.choose_spec.2.2 C.2.2.2.2.2.1 hP hD hS (fun q hq => Nat.le_trans C.2.2.2.2.2.2.1 hq) hn hN hb hf.1 hf.2 d (fun q cB H1 hK1 hP1 hD1 hS1 => ?_)
  have e : cB = vz_cN Z := ra_eq (ty := .object "PatternValidator$Node") (hK1.2 (vz_ty Z).length (cB, .object "PatternValidator$Node") (by rw [List.getElem?_append_right (Nat.le_refl _), Nat.sub_self]; rfl)).2 (C.2.2.2.2.2.1.2 3 (vz_cN Z, .object "PatternValidator$Node") rfl).2
  subst e
  rw [wl_new] at hP1 hD1
  have K := kk (fu ad k q) (fun j hj => fu_n (by omega)) H1 locs ls hP1 hD1 hS1 hl
  rw [fu_s] at K
  exact K
/-- a final field of the method's own class, written in its constructor -/
def vg_FF (own : String) (idx ci k : Nat) : Prop := ∃ (T : u_T) (N : Nat), vg_cl[ci]? = some (own, T, N) ∧ k < N ∧ (∀ w ∈ u_ws own T N, w ∈ vg_ws) ∧ (T k).1 = own ∧ Cond.fieldLink own idx own (T k).2.1 (T k).2.2.1 ∈ vg_ws
theorem vg_putF (C : vg_C Z M G) (i : Nat) {idx ci k a : Nat} {fs : List Value} {v : Value} {ty : FieldType} (d : decode (vm_cc M) pc = .ok (.putfield idx, 3)) (hF : vg_FF (vm_own M) idx ci k) (hp : vg_Fp ci k true ty) (hini : (vm_y M).name = "<init>") (he : ws[i]? = some (a, .inr (ci, fs))) (hn : narrow ty v = v) (hfit : fits ty v = true) (hl0 : k < fs.length) (kk : vg_K Z M G cells slots (pc + 3) lv rest (ws.set i (a, .inr (ci, fs.set k v)))) : vg_K Z M G cells slots pc lv (v :: .ref a :: rest) ws := by
  intro H locs ls hP hD hS hl
  obtain ⟨T, N, hc, hk, hin, hC, hlink⟩ := hF
  obtain ⟨nm2, T2, N2, t0, hc2, hty, hnm, hd, hfi⟩ := hp
  cases hc.symm.trans hc2
  have hin : ∀ w ∈ u_ws (vm_own M) T N, w ∈ vm_ws M := fun w h => List.mem_cons_of_mem _ (hin w h)
  have hm : (vh_me G).name = "<init>" := C.2.2.2.2.2.2.2.2.2.2.2.1.trans hini
  exact va_putF (ref := vm_own M) C.1 C.2.1 C.2.2.2.2.1 hin t0 hty hnm C.2.2.2.1 C.2.2.2.2.2.1 hP hD hS i he hc k hk (C.2.2.2.2.1 _ (List.mem_cons_of_mem _ hlink)) (fun x hx => by rw [hC] at hx; exact hx) hfi hm hC hd hn hfit hl0 d (fun H1 locs1 hP1 hD1 hS1 => kk H1 locs1 ls hP1 hD1 hS1 hl)
/-- the same rows over a growing world: the object is cell i, at the place a -/
theorem wl_putF (C : vg_C Z M G) (i : Nat) (hi : i < k) {idx ci n a : Nat} {fs fs' : List Value} {v : Value} {ty : FieldType} (d : decode (vm_cc M) pc = .ok (.putfield idx, 3)) (hF : vg_FF (vm_own M) idx ci n) (hp : vg_Fp ci n true ty) (hini : (vm_y M).name = "<init>") (ha : ad i = a) (hf : f i = .inr (ci, fs)) (hn : narrow ty v = v) (hfit : fits ty v = true) (hl0 : n < fs.length) (hs : fs.set n v = fs') (kk : vg_K Z M G cells slots (pc + 3) lv rest (wl k ad (fu f i (.inr (ci, fs'))))) : vg_K Z M G cells slots pc lv (v :: .ref a :: rest) (wl k ad f) := by
  subst ha hs
  refine vg_putF C i d hF hp hini (by rw [wl_at hi, hf]) hn hfit hl0 ?_
  rw [wl_set hi]
  exact kk
theorem wl_put (C : vg_C Z M G) (i : Nat) (hi : i < k) {idx ci n a : Nat} {fs fs' : List Value} {v : Value} {ty : FieldType} (d : decode (vm_cc M) pc = .ok (.putfield idx, 3)) (hF : vg_F (vm_own M) idx ci n) (hp : vg_Fp ci n false ty) (ha : ad i = a) (hf : f i = .inr (ci, fs)) (hn : narrow ty v = v) (hfit : fits ty v = true) (hl0 : n < fs.length) (hs : fs.set n v = fs') (kk : vg_K Z M G cells slots (pc + 3) lv rest (wl k ad (fu f i (.inr (ci, fs'))))) : vg_K Z M G cells slots pc lv (v :: .ref a :: rest) (wl k ad f) := by
  subst ha hs
  refine vg_put C i d hF hp (by rw [wl_at hi, hf]) hn hfit hl0 ?_
  rw [wl_set hi]
  exact kk
theorem wl_get (C : vg_C Z M G) (i : Nat) (hi : i < k) {idx ci n a : Nat} {fs : List Value} {v : Value} (d : decode (vm_cc M) pc = .ok (.getfield idx, 3)) (hF : vg_F (vm_own M) idx ci n) (ha : ad i = a) (hf : f i = .inr (ci, fs)) (hv : fs[n]? = some v) (kk : vg_K Z M G cells slots (pc + 3) lv (v :: rest) (wl k ad f)) : vg_K Z M G cells slots pc lv (.ref a :: rest) (wl k ad f) := by
  subst ha
  exact vg_get C i d hF (by rw [wl_at hi, hf]) hv kk
theorem wl_iast (C : vg_C Z M G) (i : Nat) (hi : i < k) {n a : Nat} {r : Nat → Int32} {u v : Int32} (d : decode (vm_cc M) pc = .ok (.iastore, 1)) (ha : ad i = a) (hf : f i = .inl (vz_cI Z, n, .inl r)) (hin : vp_in u n) (kk : vg_K Z M G cells slots (pc + 1) lv rest (wl k ad (fu f i (.inl (vz_cI Z, n, .inl (upd r u.toNatClampNeg v)))))) : vg_K Z M G cells slots pc lv (.int v :: .int u :: .ref a :: rest) (wl k ad f) := by
  subst ha
  refine vg_iast C i 0 d (by rw [wl_at hi, hf]) rfl hin ?_
  rw [wl_set hi]
  exact kk
theorem wl_last (C : vg_C Z M G) (i : Nat) (hi : i < k) {n a : Nat} {r : Nat → Int64} {u : Int32} {v : Int64} (d : decode (vm_cc M) pc = .ok (.lastore, 1)) (ha : ad i = a) (hf : f i = .inl (vz_cL Z, n, .inr (.inl r))) (hin : vp_in u n) (kk : vg_K Z M G cells slots (pc + 1) lv rest (wl k ad (fu f i (.inl (vz_cL Z, n, .inr (.inl (vp_updL r u.toNatClampNeg v))))))) : vg_K Z M G cells slots pc lv (.long v :: .int u :: .ref a :: rest) (wl k ad f) := by
  subst ha
  refine vg_last C i 1 d (by rw [wl_at hi, hf]) rfl hin ?_
  rw [wl_set hi]
  exact kk
theorem wl_aast (C : vg_C Z M G) (i o : Nat) (hi : i < k) (ho : o < k) {n a v : Nat} {r : Nat → Option Nat} {u : Int32} {vs : List Value} (d : decode (vm_cc M) pc = .ok (.aastore, 1)) (ha : ad i = a) (hv : ad o = v) (hf : f i = .inl (vz_cN Z, n, .inr (.inr (.inr (.inr r))))) (hg : f o = .inr (3, vs)) (hin : vp_in u n) (kk : vg_K Z M G cells slots (pc + 1) lv rest (wl k ad (fu f i (.inl (vz_cN Z, n, .inr (.inr (.inr (.inr (va_up r u.toNatClampNeg (some v)))))))))) : vg_K Z M G cells slots pc lv (.ref v :: .int u :: .ref a :: rest) (wl k ad f) := by
  subst ha hv
  intro H locs ls hP hD hS hl
  refine va_astq C.1 C.2.1 C.2.2.2.2.2.1 hP hD hS i 3 o 3 (by rw [wl_at hi, hf]) (r := ("PatternValidator$Node", F_N, 9)) rfl (by rw [wl_at ho, hg]) rfl hin d (fun H1 locs1 hP1 hD1 hS1 => ?_)
  rw [wl_set hi] at hP1 hD1
  exact kk H1 locs1 ls hP1 hD1 hS1 hl
theorem vg_widen {k n : Nat} (h1 : cells ≤ k) (h2 : slots ≤ n) {st : List Value} (kk : vg_K Z M G k n pc lv st ws) : vg_K Z M G cells slots pc lv st ws := fun H locs ls hP hD hS hl T hT X => kk H locs ls hP hD hS hl T hT (stand_widen X h1 h2)
/-- the static array WITHOUT, and its places -/
theorem vg_without (C : vg_C Z M G) (hZ : vg_ZP Z) {idx : Nat} {u : Int32} (ho : vm_own M = "PatternValidator$Matcher") (hk : Cond.fieldLink (vm_own M) idx "PatternValidator$Matcher" "WITHOUT" "[J" ∈ vg_ws) (d : decode (vm_cc M) pc = .ok (.getstatic idx, 3)) {pc2 : Nat} (hin : vp_in u 6) (d2 : decode (vm_cc M) (pc + 3) = .ok (.iload pc2, 2)) (hl2 : lv_get lv pc2 = some (.int u)) (d3 : decode (vm_cc M) (pc + 5) = .ok (.laload, 1)) (kk : vg_K Z M G cells slots (pc + 6) lv (.long (fW u.toNatClampNeg) :: rest) ws) : vg_K Z M G cells slots pc lv rest ws := by
  intro H locs ls hP hD hS hl
  have hgs : ∀ w ∈ vg_ws, w.before (vh_a G) (vh_s G) = true := fun w h => C.2.2.2.2.1 w (List.mem_cons_of_mem _ h)
  have hp := C.2.2.2.2.2.2.2.1
  rw [hZ.1] at hp
  obtain ⟨-, -, -, t, h4, h5, -⟩ := hp
  refine va_gets C.1 C.2.1 h4 hS C.2.2.2.1 (hgs _ hk) (fun x hx => hx) d ?_
  refine lv_iload C.1 C.2.1 d2 (lv_get_at hl hl2) ?_
  exact va_tl C.1 C.2.1 h5 hS hin rfl d3 (kk H locs ls hP hD hS hl)
end VGN
theorem ob_V : Cond.methodLink "PatternValidator" 1 Lib.objectInit ∈ vg_ws := vg_in (i := 21) (by decide +kernel) (by decide +kernel)
theorem ob_G : Cond.methodLink "PatternValidator$Grammar" 3 Lib.objectInit ∈ vg_ws := vg_in (i := 29) (by decide +kernel) (by decide +kernel)
theorem ob_D : Cond.methodLink "PatternValidator$Document" 3 Lib.objectInit ∈ vg_ws := vg_in (i := 71) (by decide +kernel) (by decide +kernel)
theorem cn_D_9 : Cond.classLink "PatternValidator$Document" 9 "PatternValidator$Node" ∈ vg_ws := vg_in (i := 72) (by decide +kernel) (by decide +kernel)
theorem ob_N : Cond.methodLink "PatternValidator$Node" 3 Lib.objectInit ∈ vg_ws := vg_in (i := 78) (by decide +kernel) (by decide +kernel)
theorem ob_T : Cond.methodLink "PatternValidator$Matcher" 3 Lib.objectInit ∈ vg_ws := vg_in (i := 143) (by decide +kernel) (by decide +kernel)
theorem ob_R : Cond.methodLink "PatternValidatorModel" 1 Lib.objectInit ∈ vg_ws := vg_in (i := 581) (by decide +kernel) (by decide +kernel)
theorem nw_V_7 : vg_NW "PatternValidator" 7 1 9 [.null, .null, .null, .null, .int 0, .null, .null, .int 0, .long 0] := ⟨"PatternValidator$Grammar", F_G, ft_G, rfl, in_G, ft_G_ok, vg_in (i := 24) (by decide +kernel) (by decide +kernel), vg_in (i := 25) (by decide +kernel) (by decide +kernel), vg_in (i := 2) (by decide +kernel) (by decide +kernel), by decide +kernel⟩
theorem nw_V_16 : vg_NW "PatternValidator" 16 0 4 [.null, .int 0, .null, .int 0] := ⟨"PatternValidator$Document", F_D, ft_D, rfl, in_D, ft_D_ok, vg_in (i := 66) (by decide +kernel) (by decide +kernel), vg_in (i := 67) (by decide +kernel) (by decide +kernel), vg_in (i := 3) (by decide +kernel) (by decide +kernel), by decide +kernel⟩
theorem nw_V_23 : vg_NW "PatternValidator" 23 2 7 [.null, .null, .null, .null, .null, .int 0, .null] := ⟨"PatternValidator$Matcher", F_T, ft_T, rfl, in_T, ft_T_ok, vg_in (i := 138) (by decide +kernel) (by decide +kernel), vg_in (i := 139) (by decide +kernel) (by decide +kernel), vg_in (i := 5) (by decide +kernel) (by decide +kernel), by decide +kernel⟩
theorem nw_D_9 : vg_NW "PatternValidator$Document" 9 3 9 [.int 0, .null, .null, .null, .int 0, .null, .null, .int 0, .long 0] := ⟨"PatternValidator$Node", F_N, ft_N, rfl, in_N, ft_N_ok, vg_in (i := 72) (by decide +kernel) (by decide +kernel), vg_in (i := 74) (by decide +kernel) (by decide +kernel), vg_in (i := 4) (by decide +kernel) (by decide +kernel), by decide +kernel⟩
theorem nw_T_21 : vg_NW "PatternValidator$Matcher" 21 3 9 [.int 0, .null, .null, .null, .int 0, .null, .null, .int 0, .long 0] := ⟨"PatternValidator$Node", F_N, ft_N, rfl, in_N, ft_N_ok, vg_in (i := 144) (by decide +kernel) (by decide +kernel), vg_in (i := 74) (by decide +kernel) (by decide +kernel), vg_in (i := 4) (by decide +kernel) (by decide +kernel), by decide +kernel⟩
theorem nw_L_8 : vg_NW "PatternValidatorLaw" 8 4 3 [.null, .null, .null] := ⟨"PatternValidator", F_V, ft_V, rfl, in_V, ft_V_ok, vg_in (i := 16) (by decide +kernel) (by decide +kernel), vg_in (i := 17) (by decide +kernel) (by decide +kernel), vg_in (i := 1) (by decide +kernel) (by decide +kernel), by decide +kernel⟩
theorem nw_L_58 : vg_NW "PatternValidatorLaw" 58 5 23 [.int 0, .null, .null, .null, .null, .int 0, .null, .null, .null, .null, .null, .null, .null, .null, .null, .int 0, .int 0, .null, .null, .null, .null, .null, .int 0] := ⟨"PatternValidatorModel", F_R, ft_R, rfl, in_R, ft_R_ok, vg_in (i := 576) (by decide +kernel) (by decide +kernel), vg_in (i := 577) (by decide +kernel) (by decide +kernel), vg_in (i := 6) (by decide +kernel) (by decide +kernel), by decide +kernel⟩
theorem ar_int : Cond.arrayClass .int ∈ vg_ws := vg_in (i := 65) (by decide +kernel) (by decide +kernel)
theorem ar_long : Cond.arrayClass .long ∈ vg_ws := vg_in (i := 119) (by decide +kernel) (by decide +kernel)
theorem ar_boolean : Cond.arrayClass .boolean ∈ vg_ws := vg_in (i := 652) (by decide +kernel) (by decide +kernel)
theorem wi_T : Cond.fieldLink "PatternValidator$Matcher" 38 "PatternValidator$Matcher" "WITHOUT" "[J" ∈ vg_ws := vg_in (i := 147) (by decide +kernel) (by decide +kernel)
theorem ff_V_10 : vg_FF "PatternValidator" 10 4 0 := ⟨F_V, 3, rfl, by decide, in_V, rfl, (vg_in (i := 171) (by decide +kernel) (by decide +kernel))⟩
theorem ff_V_19 : vg_FF "PatternValidator" 19 4 1 := ⟨F_V, 3, rfl, by decide, in_V, rfl, (vg_in (i := 172) (by decide +kernel) (by decide +kernel))⟩
theorem ff_V_28 : vg_FF "PatternValidator" 28 4 2 := ⟨F_V, 3, rfl, by decide, in_V, rfl, (vg_in (i := 173) (by decide +kernel) (by decide +kernel))⟩
theorem ff_G_9 : vg_FF "PatternValidator$Grammar" 9 1 0 := ⟨F_G, 9, rfl, by decide, in_G, rfl, (vg_in (i := 30) (by decide +kernel) (by decide +kernel))⟩
theorem ff_G_15 : vg_FF "PatternValidator$Grammar" 15 1 1 := ⟨F_G, 9, rfl, by decide, in_G, rfl, (vg_in (i := 32) (by decide +kernel) (by decide +kernel))⟩
theorem ff_G_18 : vg_FF "PatternValidator$Grammar" 18 1 2 := ⟨F_G, 9, rfl, by decide, in_G, rfl, (vg_in (i := 34) (by decide +kernel) (by decide +kernel))⟩
theorem ff_G_21 : vg_FF "PatternValidator$Grammar" 21 1 3 := ⟨F_G, 9, rfl, by decide, in_G, rfl, (vg_in (i := 36) (by decide +kernel) (by decide +kernel))⟩
theorem ff_G_24 : vg_FF "PatternValidator$Grammar" 24 1 5 := ⟨F_G, 9, rfl, by decide, in_G, rfl, (vg_in (i := 39) (by decide +kernel) (by decide +kernel))⟩
theorem ff_G_27 : vg_FF "PatternValidator$Grammar" 27 1 6 := ⟨F_G, 9, rfl, by decide, in_G, rfl, (vg_in (i := 41) (by decide +kernel) (by decide +kernel))⟩
theorem ff_D_11 : vg_FF "PatternValidator$Document" 11 0 0 := ⟨F_D, 4, rfl, by decide, in_D, rfl, (vg_in (i := 120) (by decide +kernel) (by decide +kernel))⟩
theorem ff_D_17 : vg_FF "PatternValidator$Document" 17 0 2 := ⟨F_D, 4, rfl, by decide, in_D, rfl, (vg_in (i := 126) (by decide +kernel) (by decide +kernel))⟩
theorem ff_N_9 : vg_FF "PatternValidator$Node" 9 3 1 := ⟨F_N, 9, rfl, by decide, in_N, rfl, (vg_in (i := 82) (by decide +kernel) (by decide +kernel))⟩
theorem ff_N_15 : vg_FF "PatternValidator$Node" 15 3 2 := ⟨F_N, 9, rfl, by decide, in_N, rfl, (vg_in (i := 84) (by decide +kernel) (by decide +kernel))⟩
theorem ff_N_18 : vg_FF "PatternValidator$Node" 18 3 3 := ⟨F_N, 9, rfl, by decide, in_N, rfl, (vg_in (i := 86) (by decide +kernel) (by decide +kernel))⟩
theorem ff_N_22 : vg_FF "PatternValidator$Node" 22 3 5 := ⟨F_N, 9, rfl, by decide, in_N, rfl, (vg_in (i := 91) (by decide +kernel) (by decide +kernel))⟩
theorem ff_N_25 : vg_FF "PatternValidator$Node" 25 3 6 := ⟨F_N, 9, rfl, by decide, in_N, rfl, (vg_in (i := 93) (by decide +kernel) (by decide +kernel))⟩
theorem ff_T_11 : vg_FF "PatternValidator$Matcher" 11 2 2 := ⟨F_T, 7, rfl, by decide, in_T, rfl, (vg_in (i := 151) (by decide +kernel) (by decide +kernel))⟩
theorem ff_T_15 : vg_FF "PatternValidator$Matcher" 15 2 3 := ⟨F_T, 7, rfl, by decide, in_T, rfl, (vg_in (i := 152) (by decide +kernel) (by decide +kernel))⟩
theorem ff_T_18 : vg_FF "PatternValidator$Matcher" 18 2 4 := ⟨F_T, 7, rfl, by decide, in_T, rfl, (vg_in (i := 153) (by decide +kernel) (by decide +kernel))⟩
theorem ff_T_24 : vg_FF "PatternValidator$Matcher" 24 2 6 := ⟨F_T, 7, rfl, by decide, in_T, rfl, (vg_in (i := 155) (by decide +kernel) (by decide +kernel))⟩
theorem ff_T_28 : vg_FF "PatternValidator$Matcher" 28 2 0 := ⟨F_T, 7, rfl, by decide, in_T, rfl, (vg_in (i := 149) (by decide +kernel) (by decide +kernel))⟩
theorem ff_T_32 : vg_FF "PatternValidator$Matcher" 32 2 1 := ⟨F_T, 7, rfl, by decide, in_T, rfl, (vg_in (i := 150) (by decide +kernel) (by decide +kernel))⟩
theorem ff_R_7 : vg_FF "PatternValidatorModel" 7 5 1 := ⟨F_R, 23, rfl, by decide, in_R, rfl, (vg_in (i := 583) (by decide +kernel) (by decide +kernel))⟩
theorem ff_R_13 : vg_FF "PatternValidatorModel" 13 5 2 := ⟨F_R, 23, rfl, by decide, in_R, rfl, (vg_in (i := 584) (by decide +kernel) (by decide +kernel))⟩
theorem ff_R_16 : vg_FF "PatternValidatorModel" 16 5 3 := ⟨F_R, 23, rfl, by decide, in_R, rfl, (vg_in (i := 585) (by decide +kernel) (by decide +kernel))⟩
theorem ff_R_19 : vg_FF "PatternValidatorModel" 19 5 4 := ⟨F_R, 23, rfl, by decide, in_R, rfl, (vg_in (i := 586) (by decide +kernel) (by decide +kernel))⟩
theorem ff_R_22 : vg_FF "PatternValidatorModel" 22 5 6 := ⟨F_R, 23, rfl, by decide, in_R, rfl, (vg_in (i := 588) (by decide +kernel) (by decide +kernel))⟩
theorem ff_R_25 : vg_FF "PatternValidatorModel" 25 5 7 := ⟨F_R, 23, rfl, by decide, in_R, rfl, (vg_in (i := 589) (by decide +kernel) (by decide +kernel))⟩
theorem ff_R_28 : vg_FF "PatternValidatorModel" 28 5 8 := ⟨F_R, 23, rfl, by decide, in_R, rfl, (vg_in (i := 590) (by decide +kernel) (by decide +kernel))⟩
theorem ff_R_31 : vg_FF "PatternValidatorModel" 31 5 9 := ⟨F_R, 23, rfl, by decide, in_R, rfl, (vg_in (i := 591) (by decide +kernel) (by decide +kernel))⟩
theorem ff_R_34 : vg_FF "PatternValidatorModel" 34 5 10 := ⟨F_R, 23, rfl, by decide, in_R, rfl, (vg_in (i := 592) (by decide +kernel) (by decide +kernel))⟩
theorem ff_R_38 : vg_FF "PatternValidatorModel" 38 5 11 := ⟨F_R, 23, rfl, by decide, in_R, rfl, (vg_in (i := 593) (by decide +kernel) (by decide +kernel))⟩
theorem ff_R_41 : vg_FF "PatternValidatorModel" 41 5 12 := ⟨F_R, 23, rfl, by decide, in_R, rfl, (vg_in (i := 594) (by decide +kernel) (by decide +kernel))⟩
theorem ff_R_44 : vg_FF "PatternValidatorModel" 44 5 13 := ⟨F_R, 23, rfl, by decide, in_R, rfl, (vg_in (i := 595) (by decide +kernel) (by decide +kernel))⟩
theorem ff_R_47 : vg_FF "PatternValidatorModel" 47 5 14 := ⟨F_R, 23, rfl, by decide, in_R, rfl, (vg_in (i := 596) (by decide +kernel) (by decide +kernel))⟩
theorem ff_R_50 : vg_FF "PatternValidatorModel" 50 5 16 := ⟨F_R, 23, rfl, by decide, in_R, rfl, (vg_in (i := 598) (by decide +kernel) (by decide +kernel))⟩
theorem ff_R_54 : vg_FF "PatternValidatorModel" 54 5 17 := ⟨F_R, 23, rfl, by decide, in_R, rfl, (vg_in (i := 599) (by decide +kernel) (by decide +kernel))⟩
theorem ff_R_58 : vg_FF "PatternValidatorModel" 58 5 18 := ⟨F_R, 23, rfl, by decide, in_R, rfl, (vg_in (i := 600) (by decide +kernel) (by decide +kernel))⟩
theorem ff_R_61 : vg_FF "PatternValidatorModel" 61 5 19 := ⟨F_R, 23, rfl, by decide, in_R, rfl, (vg_in (i := 601) (by decide +kernel) (by decide +kernel))⟩
theorem ff_R_64 : vg_FF "PatternValidatorModel" 64 5 20 := ⟨F_R, 23, rfl, by decide, in_R, rfl, (vg_in (i := 602) (by decide +kernel) (by decide +kernel))⟩
theorem ff_R_67 : vg_FF "PatternValidatorModel" 67 5 21 := ⟨F_R, 23, rfl, by decide, in_R, rfl, (vg_in (i := 603) (by decide +kernel) (by decide +kernel))⟩
