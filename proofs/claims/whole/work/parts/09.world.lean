/-! the world: 137 cells, by numbers; what they hold: ints and longs by cell and place -/
abbrev sg : Type := (Nat → Nat → Int32) × (Nat → Nat → Int64)
def wd_kl : List Nat := [0, 1, 2, 2, 2, 2, 3, 2, 4, 5, 3, 6, 7, 7, 8, 9, 9, 6, 7, 7, 8, 9, 9, 6, 7, 7, 8, 9, 9, 6, 7, 7, 8, 9, 9, 6, 7, 7, 8, 9, 9, 6, 7, 7, 8, 9, 9, 6, 7, 7, 8, 9, 9, 6, 7, 7, 8, 9, 9, 6, 7, 7, 8, 9, 9, 6, 7, 7, 8, 9, 9, 6, 7, 7, 8, 9, 9, 6, 7, 7, 8, 9, 9, 6, 7, 7, 8, 9, 9, 6, 7, 7, 8, 9, 9, 6, 7, 7, 8, 9, 9, 6, 7, 7, 8, 9, 9, 10, 11, 11, 12, 6, 7, 7, 8, 9, 9, 13, 2, 2, 2, 2, 3, 14, 14, 14, 15, 16, 16, 16, 14, 17, 18, 19, 19, 20, 21]
/-- of an array's kind: what it holds (0 ints, 1 longs, 2 booleans, 3 nodes), how many -/
def wd_ar (kd : Nat) : Option (Nat × Nat) := match kd with
  | 2 => some (0, 40)
  | 3 => some (0, 4)
  | 5 => some (3, 16)
  | 7 => some (0, 3)
  | 8 => some (1, 3)
  | 9 => some (0, 6)
  | 11 => some (1, 64)
  | 12 => some (1, 320)
  | 14 => some (0, 16)
  | 15 => some (2, 96)
  | 16 => some (0, 96)
  | 17 => some (1, 2560)
  | 18 => some (2, 640)
  | 19 => some (2, 40)
  | 20 => some (2, 240)
  | 21 => some (1, 1)
  | _ => none
/-- an object's class -/
def wd_oc (kd : Nat) : Nat := match kd with
  | 0 => 4
  | 1 => 1
  | 4 => 0
  | 6 => 3
  | 10 => 2
  | _ => 5
/-- an object's fields -/
def wf (ad : Nat → Nat) (σ : sg) (k kd : Nat) : List Value := match kd with
  | 0 => [.ref (ad 1), .ref (ad 8), .ref (ad 107)]
  | 1 => [.ref (ad 2), .ref (ad 3), .ref (ad 4), .ref (ad 5), .int (σ.1 k 4), .ref (ad 6), .ref (ad 7), .int (σ.1 k 7), .long (σ.2 k 8)]
  | 4 => [.ref (ad 9), .int (σ.1 k 1), .ref (ad 10), .int (σ.1 k 3)]
  | 6 => [.int (σ.1 k 0), .ref (ad (k + 1)), .ref (ad (k + 2)), .ref (ad (k + 3)), .int (σ.1 k 4), .ref (ad (k + 4)), .ref (ad (k + 5)), .int (σ.1 k 7), .long (σ.2 k 8)]
  | 10 => [.ref (ad 1), .ref (ad 8), .ref (ad 108), .ref (ad 109), .ref (ad 110), .int (σ.1 k 5), .ref (ad 111)]
  | _ => [.int (σ.1 k 0), .ref (ad 118), .ref (ad 119), .ref (ad 120), .ref (ad 121), .int (σ.1 k 5), .ref (ad 122), .ref (ad 123), .ref (ad 124), .ref (ad 125), .ref (ad 126), .ref (ad 127), .ref (ad 128), .ref (ad 129), .ref (ad 130), .int (σ.1 k 15), .int (σ.1 k 16), .ref (ad 131), .ref (ad 132), .ref (ad 133), .ref (ad 134), .ref (ad 135), .int (σ.1 k 22)]
def wd_c (Z : vg_Z) (ad : Nat → Nat) (σ : sg) (k kd : Nat) : va_E := match wd_ar kd with
  | some (0, n) => .inl (vz_cI Z, n, .inl (σ.1 k))
  | some (1, n) => .inl (vz_cL Z, n, .inr (.inl (σ.2 k)))
  | some (2, n) => .inl (vz_cB Z, n, .inl (σ.1 k))
  | some (_, n) => .inl (vz_cN Z, n, .inr (.inr (.inr (.inr (fun i => some (ad (11 + 6 * i)))))))
  | none => .inr (wd_oc kd, wf ad σ k kd)
def wd (Z : vg_Z) (ad : Nat → Nat) (σ : sg) : va_W := (List.range 137).map fun k => (ad k, wd_c Z ad σ k (wd_kl.getD k 99))
/-- the row k of the ints, of the longs, anew -/
def sI (σ : sg) (k : Nat) (r : Nat → Int32) : sg := (fun c => if c = k then r else σ.1 c, σ.2)
def sL (σ : sg) (k : Nat) (r : Nat → Int64) : sg := (σ.1, fun c => if c = k then r else σ.2 c)
section WD
variable {Z : vg_Z} {ad : Nat → Nat} {σ τ : sg} {k kd : Nat}
theorem wd_lt (h : wd_kl[k]? = some kd) : k < 137 := (List.getElem?_eq_some_iff.mp h).1
theorem wd_at (h : wd_kl[k]? = some kd) : (wd Z ad σ)[k]? = some (ad k, wd_c Z ad σ k kd) := by
  have h1 : wd_kl.getD k 99 = kd := by rw [List.getD_eq_getElem?_getD, h]; rfl
  unfold wd
  rw [List.getElem?_map, List.getElem?_range (wd_lt h)]
  show some (ad k, wd_c Z ad σ k (wd_kl.getD k 99)) = _
  rw [h1]
theorem wd_set (h : wd_kl[k]? = some kd) {e : va_E} (hk : wd_c Z ad τ k kd = e) (ho : ∀ j q, j ≠ k → wd_c Z ad τ j q = wd_c Z ad σ j q) : (wd Z ad σ).set k (ad k, e) = wd Z ad τ := by
  have h1 : wd_kl.getD k 99 = kd := by rw [List.getD_eq_getElem?_getD, h]; rfl
  apply List.ext_getElem?
  intro i
  rw [List.getElem?_set]
  by_cases hi : k = i
  · subst hi
    have hl : k < (wd Z ad σ).length := by unfold wd; rw [List.length_map, List.length_range]; exact wd_lt h
    rw [if_pos rfl, if_pos hl, wd_at h, hk]
  · rw [if_neg hi]
    unfold wd
    rw [List.getElem?_map, List.getElem?_map]
    by_cases hl : i < 137
    · rw [List.getElem?_range hl]
      show some (ad i, wd_c Z ad σ i (wd_kl.getD i 99)) = some (ad i, wd_c Z ad τ i (wd_kl.getD i 99))
      rw [ho i _ (fun q => hi q.symm)]
    · have hn : (List.range 137)[i]? = none := by simp; omega
      rw [hn]
      rfl
theorem sI_at (r : Nat → Int32) : (sI σ k r).1 k = r := if_pos rfl
theorem sI_ne (r : Nat → Int32) {j : Nat} (h : j ≠ k) : (sI σ k r).1 j = σ.1 j := if_neg h
theorem sL_at (r : Nat → Int64) : (sL σ k r).2 k = r := if_pos rfl
theorem sL_ne (r : Nat → Int64) {j : Nat} (h : j ≠ k) : (sL σ k r).2 j = σ.2 j := if_neg h
theorem wd_c_eq {j q : Nat} (h1 : τ.1 j = σ.1 j) (h2 : τ.2 j = σ.2 j) : wd_c Z ad τ j q = wd_c Z ad σ j q := by
  unfold wd_c
  have hw : wf ad τ j q = wf ad σ j q := by
    unfold wf
    rw [h1, h2]
  rw [h1, h2, hw]
theorem wd_offI (r : Nat → Int32) : ∀ j q, j ≠ k → wd_c Z ad (sI σ k r) j q = wd_c Z ad σ j q := fun j q h => wd_c_eq (sI_ne r h) rfl
theorem wd_offL (r : Nat → Int64) : ∀ j q, j ≠ k → wd_c Z ad (sL σ k r) j q = wd_c Z ad σ j q := fun j q h => wd_c_eq rfl (sL_ne r h)
theorem wd_cI {n : Nat} (ha : wd_ar kd = some (0, n)) : wd_c Z ad σ k kd = .inl (vz_cI Z, n, .inl (σ.1 k)) := by
  unfold wd_c
  rw [ha]
  rfl
theorem wd_cL {n : Nat} (ha : wd_ar kd = some (1, n)) : wd_c Z ad σ k kd = .inl (vz_cL Z, n, .inr (.inl (σ.2 k))) := by
  unfold wd_c
  rw [ha]
  rfl
theorem wd_cB {n : Nat} (ha : wd_ar kd = some (2, n)) : wd_c Z ad σ k kd = .inl (vz_cB Z, n, .inl (σ.1 k)) := by
  unfold wd_c
  rw [ha]
  rfl
end WD
section WR
variable {Z : vg_Z} {M : vg_M} {G : vg_G} {cells slots pc : Nat} {lv : List (Nat × Value)} {rest : List Value} {ad : Nat → Nat} {σ : sg} {k kd n idx ci j : Nat} {u : Int32}
theorem wr_get {v : Value} (C : vg_C Z M G) (d : decode (vm_cc M) pc = .ok (.getfield idx, 3)) (hF : vg_F (vm_own M) idx ci j) (hk : wd_kl[k]? = some kd) (ha : wd_ar kd = none) (hc : wd_oc kd = ci) (hv : (wf ad σ k kd)[j]? = some v) (kk : vg_K Z M G cells slots (pc + 3) lv (v :: rest) (wd Z ad σ)) : vg_K Z M G cells slots pc lv (.ref (ad k) :: rest) (wd Z ad σ) :=
  vg_get C k d hF (by rw [wd_at hk]; unfold wd_c; rw [ha, hc]) hv kk
theorem wr_puti {v : Int32} {ty : FieldType} (C : vg_C Z M G) (d : decode (vm_cc M) pc = .ok (.putfield idx, 3)) (hF : vg_F (vm_own M) idx ci j) (hp : vg_Fp ci j false ty) (hk : wd_kl[k]? = some kd) (ha : wd_ar kd = none) (hc : wd_oc kd = ci) (hn : narrow ty (.int v) = .int v) (hfit : fits ty (.int v) = true) (hl : j < (wf ad σ k kd).length)
    (hs : wf ad (sI σ k (upd (σ.1 k) j v)) k kd = (wf ad σ k kd).set j (.int v)) (kk : vg_K Z M G cells slots (pc + 3) lv rest (wd Z ad (sI σ k (upd (σ.1 k) j v)))) : vg_K Z M G cells slots pc lv (.int v :: .ref (ad k) :: rest) (wd Z ad σ) := by
  refine vg_put C k d hF hp (by rw [wd_at hk]; unfold wd_c; rw [ha, hc]) hn hfit hl ?_
  rw [wd_set hk (τ := sI σ k (upd (σ.1 k) j v)) (by unfold wd_c; rw [ha, hc, hs]) (wd_offI _)]
  exact kk
theorem wr_putl {v : Int64} (C : vg_C Z M G) (d : decode (vm_cc M) pc = .ok (.putfield idx, 3)) (hF : vg_F (vm_own M) idx ci j) (hp : vg_Fp ci j false .long) (hk : wd_kl[k]? = some kd) (ha : wd_ar kd = none) (hc : wd_oc kd = ci) (hl : j < (wf ad σ k kd).length)
    (hs : wf ad (sL σ k (vp_updL (σ.2 k) j v)) k kd = (wf ad σ k kd).set j (.long v)) (kk : vg_K Z M G cells slots (pc + 3) lv rest (wd Z ad (sL σ k (vp_updL (σ.2 k) j v)))) : vg_K Z M G cells slots pc lv (.long v :: .ref (ad k) :: rest) (wd Z ad σ) := by
  refine vg_put C k d hF hp (by rw [wd_at hk]; unfold wd_c; rw [ha, hc]) rfl rfl hl ?_
  rw [wd_set hk (τ := sL σ k (vp_updL (σ.2 k) j v)) (by unfold wd_c; rw [ha, hc, hs]) (wd_offL _)]
  exact kk
theorem wr_iald (C : vg_C Z M G) (d : decode (vm_cc M) pc = .ok (.iaload, 1)) (hk : wd_kl[k]? = some kd) (ha : wd_ar kd = some (0, n)) (hin : vp_in u n) (kk : vg_K Z M G cells slots (pc + 1) lv (.int (σ.1 k u.toNatClampNeg) :: rest) (wd Z ad σ)) : vg_K Z M G cells slots pc lv (.int u :: .ref (ad k) :: rest) (wd Z ad σ) :=
  vg_iald C k 0 d (by rw [wd_at hk, wd_cI ha]) rfl hin kk
theorem wr_zald (C : vg_C Z M G) (d : decode (vm_cc M) pc = .ok (.baload, 1)) (hk : wd_kl[k]? = some kd) (ha : wd_ar kd = some (2, n)) (hin : vp_in u n) (kk : vg_K Z M G cells slots (pc + 1) lv (.int (σ.1 k u.toNatClampNeg) :: rest) (wd Z ad σ)) : vg_K Z M G cells slots pc lv (.int u :: .ref (ad k) :: rest) (wd Z ad σ) :=
  vg_zald C k 2 d (by rw [wd_at hk, wd_cB ha]) rfl hin kk
theorem wr_lald (C : vg_C Z M G) (d : decode (vm_cc M) pc = .ok (.laload, 1)) (hk : wd_kl[k]? = some kd) (ha : wd_ar kd = some (1, n)) (hin : vp_in u n) (kk : vg_K Z M G cells slots (pc + 1) lv (.long (σ.2 k u.toNatClampNeg) :: rest) (wd Z ad σ)) : vg_K Z M G cells slots pc lv (.int u :: .ref (ad k) :: rest) (wd Z ad σ) :=
  vg_lald C k 1 d (by rw [wd_at hk, wd_cL ha]) rfl hin kk
theorem wr_nald (C : vg_C Z M G) (d : decode (vm_cc M) pc = .ok (.aaload, 1)) (hin : vp_in u 16) (kk : vg_K Z M G cells slots (pc + 1) lv (.ref (ad (11 + 6 * u.toNatClampNeg)) :: rest) (wd Z ad σ)) : vg_K Z M G cells slots pc lv (.int u :: .ref (ad 9) :: rest) (wd Z ad σ) :=
  vg_aald C 9 3 d (wd_at (k := 9) (kd := 5) rfl) rfl hin rfl kk
theorem wr_iast {v : Int32} (C : vg_C Z M G) (d : decode (vm_cc M) pc = .ok (.iastore, 1)) (hk : wd_kl[k]? = some kd) (ha : wd_ar kd = some (0, n)) (hin : vp_in u n) (kk : vg_K Z M G cells slots (pc + 1) lv rest (wd Z ad (sI σ k (upd (σ.1 k) u.toNatClampNeg v)))) : vg_K Z M G cells slots pc lv (.int v :: .int u :: .ref (ad k) :: rest) (wd Z ad σ) := by
  refine vg_iast C k 0 d (by rw [wd_at hk, wd_cI ha]) rfl hin ?_
  rw [wd_set hk (τ := sI σ k (upd (σ.1 k) u.toNatClampNeg v)) (by rw [wd_cI ha, sI_at]) (wd_offI _)]
  exact kk
theorem wr_zast {v : Int32} (C : vg_C Z M G) (d : decode (vm_cc M) pc = .ok (.bastore, 1)) (hk : wd_kl[k]? = some kd) (ha : wd_ar kd = some (2, n)) (hin : vp_in u n) (kk : vg_K Z M G cells slots (pc + 1) lv rest (wd Z ad (sI σ k (upd (σ.1 k) u.toNatClampNeg (vp_nar .boolean v))))) : vg_K Z M G cells slots pc lv (.int v :: .int u :: .ref (ad k) :: rest) (wd Z ad σ) := by
  refine vg_zast C k 2 d (by rw [wd_at hk, wd_cB ha]) rfl hin ?_
  rw [wd_set hk (τ := sI σ k (upd (σ.1 k) u.toNatClampNeg (vp_nar .boolean v))) (by rw [wd_cB ha, sI_at]) (wd_offI _)]
  exact kk
theorem wr_last {v : Int64} (C : vg_C Z M G) (d : decode (vm_cc M) pc = .ok (.lastore, 1)) (hk : wd_kl[k]? = some kd) (ha : wd_ar kd = some (1, n)) (hin : vp_in u n) (kk : vg_K Z M G cells slots (pc + 1) lv rest (wd Z ad (sL σ k (vp_updL (σ.2 k) u.toNatClampNeg v)))) : vg_K Z M G cells slots pc lv (.long v :: .int u :: .ref (ad k) :: rest) (wd Z ad σ) := by
  refine vg_last C k 1 d (by rw [wd_at hk, wd_cL ha]) rfl hin ?_
  rw [wd_set hk (τ := sL σ k (vp_updL (σ.2 k) u.toNatClampNeg v)) (by rw [wd_cL ha, sL_at]) (wd_offL _)]
  exact kk
theorem wr_alen {v : Int32} {t n : Nat} (C : vg_C Z M G) (d : decode (vm_cc M) pc = .ok (.arraylength, 1)) (hk : wd_kl[k]? = some kd) (ha : wd_ar kd = some (0, n)) (hv : Int32.ofNat n = v) (kk : vg_K Z M G cells slots (pc + 1) lv (.int v :: rest) (wd Z ad σ)) : vg_K Z M G cells slots pc lv (.ref (ad k) :: rest) (wd Z ad σ) :=
  vg_alen C k 0 d (by rw [wd_at hk, wd_cI ha]) rfl hv kk
end WR
section WF
variable {k : Nat}
theorem wf_iG4 (ad : Nat → Nat) (σ : sg) (v : Int32) : wf ad (sI σ k (upd (σ.1 k) 4 v)) k 1 = (wf ad σ k 1).set 4 (.int v) := by simp [wf, sI, upd]
theorem wf_iG7 (ad : Nat → Nat) (σ : sg) (v : Int32) : wf ad (sI σ k (upd (σ.1 k) 7 v)) k 1 = (wf ad σ k 1).set 7 (.int v) := by simp [wf, sI, upd]
theorem wf_lG8 (ad : Nat → Nat) (σ : sg) (v : Int64) : wf ad (sL σ k (vp_updL (σ.2 k) 8 v)) k 1 = (wf ad σ k 1).set 8 (.long v) := by simp [wf, sL, vp_updL]
theorem wf_iD1 (ad : Nat → Nat) (σ : sg) (v : Int32) : wf ad (sI σ k (upd (σ.1 k) 1 v)) k 4 = (wf ad σ k 4).set 1 (.int v) := by simp [wf, sI, upd]
theorem wf_iD3 (ad : Nat → Nat) (σ : sg) (v : Int32) : wf ad (sI σ k (upd (σ.1 k) 3 v)) k 4 = (wf ad σ k 4).set 3 (.int v) := by simp [wf, sI, upd]
theorem wf_iN0 (ad : Nat → Nat) (σ : sg) (v : Int32) : wf ad (sI σ k (upd (σ.1 k) 0 v)) k 6 = (wf ad σ k 6).set 0 (.int v) := by simp [wf, sI, upd]
theorem wf_iN4 (ad : Nat → Nat) (σ : sg) (v : Int32) : wf ad (sI σ k (upd (σ.1 k) 4 v)) k 6 = (wf ad σ k 6).set 4 (.int v) := by simp [wf, sI, upd]
theorem wf_iN7 (ad : Nat → Nat) (σ : sg) (v : Int32) : wf ad (sI σ k (upd (σ.1 k) 7 v)) k 6 = (wf ad σ k 6).set 7 (.int v) := by simp [wf, sI, upd]
theorem wf_lN8 (ad : Nat → Nat) (σ : sg) (v : Int64) : wf ad (sL σ k (vp_updL (σ.2 k) 8 v)) k 6 = (wf ad σ k 6).set 8 (.long v) := by simp [wf, sL, vp_updL]
theorem wf_iT5 (ad : Nat → Nat) (σ : sg) (v : Int32) : wf ad (sI σ k (upd (σ.1 k) 5 v)) k 10 = (wf ad σ k 10).set 5 (.int v) := by simp [wf, sI, upd]
theorem wf_iR0 (ad : Nat → Nat) (σ : sg) (v : Int32) : wf ad (sI σ k (upd (σ.1 k) 0 v)) k 13 = (wf ad σ k 13).set 0 (.int v) := by simp [wf, sI, upd]
theorem wf_iR5 (ad : Nat → Nat) (σ : sg) (v : Int32) : wf ad (sI σ k (upd (σ.1 k) 5 v)) k 13 = (wf ad σ k 13).set 5 (.int v) := by simp [wf, sI, upd]
theorem wf_iR15 (ad : Nat → Nat) (σ : sg) (v : Int32) : wf ad (sI σ k (upd (σ.1 k) 15 v)) k 13 = (wf ad σ k 13).set 15 (.int v) := by simp [wf, sI, upd]
theorem wf_iR16 (ad : Nat → Nat) (σ : sg) (v : Int32) : wf ad (sI σ k (upd (σ.1 k) 16 v)) k 13 = (wf ad σ k 13).set 16 (.int v) := by simp [wf, sI, upd]
theorem wf_iR22 (ad : Nat → Nat) (σ : sg) (v : Int32) : wf ad (sI σ k (upd (σ.1 k) 22 v)) k 13 = (wf ad σ k 13).set 22 (.int v) := by simp [wf, sI, upd]
end WF
theorem nd_all : ∀ k, k < 137 → wd_kl[k]? = some 6 → wd_kl[k + 1]? = some 7 ∧ wd_kl[k + 2]? = some 7 ∧ wd_kl[k + 3]? = some 8 ∧ wd_kl[k + 4]? = some 9 ∧ wd_kl[k + 5]? = some 9 := by decide +kernel
theorem nd_1 {k : Nat} (h : wd_kl[k]? = some 6) : wd_kl[k + 1]? = some 7 := (nd_all k (wd_lt h) h).1
theorem nd_2 {k : Nat} (h : wd_kl[k]? = some 6) : wd_kl[k + 2]? = some 7 := (nd_all k (wd_lt h) h).2.1
theorem nd_3 {k : Nat} (h : wd_kl[k]? = some 6) : wd_kl[k + 3]? = some 8 := (nd_all k (wd_lt h) h).2.2.1
theorem nd_4 {k : Nat} (h : wd_kl[k]? = some 6) : wd_kl[k + 4]? = some 9 := (nd_all k (wd_lt h) h).2.2.2.1
theorem nd_5 {k : Nat} (h : wd_kl[k]? = some 6) : wd_kl[k + 5]? = some 9 := (nd_all k (wd_lt h) h).2.2.2.2
theorem nd_of : ∀ i, i < 16 → wd_kl[11 + 6 * i]? = some 6 := by decide +kernel
theorem nd_111 : wd_kl[111]? = some 6 := rfl
