/-! ROWS OVER ALL CELLS AT ONCE: contracts speak of one list of cells, everything from the base on may change -/
/-- what is the same for all methods: launch, class numbers, array classes (int, long, boolean, Node), base, what is known of the cells below the base -/
abbrev vg_Z : Type := Launch × va_G × (ClassId × ClassId × ClassId × ClassId) × Nat × (State → Prop)
/-- a method: room, words of locals, bytes, its name, returned type, its code word -/
abbrev vg_M : Type := Room × Nat × ByteArray × MethodName × Option FieldType × Cond
/-- a run of it -/
abbrev vg_G := Program × Env × State × MethodId × Array Value × List Frame × Method × Code × (State → Prop)
abbrev vz_l (Z : vg_Z) : Launch := Z.1
abbrev vz_D (Z : vg_Z) : va_G := Z.2.1
abbrev vz_cI (Z : vg_Z) : ClassId := Z.2.2.1.1
abbrev vz_cL (Z : vg_Z) : ClassId := Z.2.2.1.2.1
abbrev vz_cB (Z : vg_Z) : ClassId := Z.2.2.1.2.2.1
abbrev vz_cN (Z : vg_Z) : ClassId := Z.2.2.1.2.2.2
abbrev vz_ty (Z : vg_Z) : List (ClassId × FieldType) := [(vz_cI Z, .int), (vz_cL Z, .long), (vz_cB Z, .boolean), (vz_cN Z, .object "PatternValidator$Node")]
abbrev vz_b (Z : vg_Z) : Nat := Z.2.2.2.1
abbrev vz_P (Z : vg_Z) : State → Prop := Z.2.2.2.2
abbrev vm_R (M : vg_M) : Room := M.1
abbrev vm_n (M : vg_M) : Nat := M.2.1
abbrev vm_cc (M : vg_M) : ByteArray := M.2.2.1
abbrev vm_y (M : vg_M) : MethodName := M.2.2.2.1
abbrev vm_own (M : vg_M) : String := M.2.2.2.1.cls
abbrev vm_ret (M : vg_M) : Option FieldType := M.2.2.2.2.1
abbrev vm_cw (M : vg_M) : Cond := M.2.2.2.2.2
abbrev vm_ws (M : vg_M) : List Cond := vm_cw M :: vg_ws
abbrev vh_p (G : vg_G) : Program := G.1
abbrev vh_e (G : vg_G) : Env := G.2.1
abbrev vh_s (G : vg_G) : State := G.2.2.1
abbrev vh_m (G : vg_G) : MethodId := G.2.2.2.1
abbrev vh_a (G : vg_G) : Array Value := G.2.2.2.2.1
abbrev vh_bl (G : vg_G) : List Frame := G.2.2.2.2.2.1
abbrev vh_me (G : vg_G) : Method := G.2.2.2.2.2.2.1
abbrev vh_c (G : vg_G) : Code := G.2.2.2.2.2.2.2.1
abbrev vh_Q (G : vg_G) : State → Prop := G.2.2.2.2.2.2.2.2
/-- what is known of the cells below the base stays, whatever happens above it -/
def vg_St (Z : vg_Z) : Prop := ∀ U V : State, vz_P Z U → U.vm.Alike V.vm → (∀ q : Nat, q < vz_b Z → V.heap[q]? = U.heap[q]?) → vz_P Z V
def vg_C (Z : vg_Z) (M : vg_M) (G : vg_G) : Prop := (vh_p G).tables.exec = Jvm.exec ∧ (vh_c G).code = vm_cc M ∧ (vh_c G).maxLocals = vm_n M ∧ (vh_s G).vm.findClass (vm_own M) = some (vh_m G).cls ∧ (∀ w ∈ vm_ws M, w.before (vh_a G) (vh_s G) = true) ∧ va_K (vz_D Z) vg_cl (vz_ty Z) (vh_s G) ∧ vz_b Z ≤ (vh_s G).heap.size ∧ vz_P Z (vh_s G) ∧ vg_St Z ∧ (vh_me G).sig.returnType = vm_ret M ∧ (vh_me G).locks = false ∧ (vh_me G).name = (vm_y M).name ∧ (∀ w ∈ vg_nw, va_Nw w (vh_s G))
/-- at pc, with the listed locals lv, the stack st, the cells ws: the machine comes to a state with Q -/
def vg_K (Z : vg_Z) (M : vg_M) (G : vg_G) (cells slots pc : Nat) (lv : List (Nat × Value)) (st : List Value) (ws : va_W) : Prop :=
  ∀ (H : Heap) (locs : List Loc) (ls : Array Slot), va_P (vz_D Z) vg_cl ws H → va_D (fun q => vz_b Z ≤ q) ws → va_S (fun q => vz_b Z ≤ q) (vh_s G).heap H locs → lv_has ls (vm_n M) lv →
    W (vh_p G) (vz_l Z) (vh_e G) (vm_R M) (vh_s G) (vh_m G) (vh_a G) (vh_bl G) (vh_me G) (vh_c G) H locs cells slots (vh_Q G) (F0 (vh_m G) pc ls st)
/-- the value of a local, by its number -/
def lv_get (lv : List (Nat × Value)) (i : Nat) : Option Value := match lv with
  | [] => none
  | (j, v) :: r => if j = i then some v else lv_get r i
theorem lv_get_mem : ∀ {lv : List (Nat × Value)} {i : Nat} {v : Value}, lv_get lv i = some v → (i, v) ∈ lv
  | [], _, _, h => by cases h
  | (j, w) :: r, i, v, h => by
    unfold lv_get at h
    by_cases hj : j = i
    · rw [if_pos hj] at h
      cases h
      subst hj
      exact List.mem_cons_self
    · rw [if_neg hj] at h
      exact List.mem_cons_of_mem _ (lv_get_mem h)
theorem lv_get_at {ls : Array Slot} {nL : Nat} {lv : List (Nat × Value)} {i : Nat} {v : Value} (hl : lv_has ls nL lv) (h : lv_get lv i = some v) : ls[i]? = some (.val v) := hl.2.2 (i, v) (lv_get_mem h)
/-- storing a value of one slot; of two -/
def lv_s1 (lv : List (Nat × Value)) (i : Nat) (v : Value) : List (Nat × Value) := (i, v) :: lv.filter (fun q => !(q.1 == i) && !(q.1 + 1 == i && q.2.category == 2))
def lv_s2 (lv : List (Nat × Value)) (i : Nat) (v : Value) : List (Nat × Value) := (i, v) :: lv.filter (fun q => !(q.1 == i) && (!(q.1 == i + 1) && !(q.1 + 1 == i && q.2.category == 2)))
section VGR
variable {Z : vg_Z} {M : vg_M} {G : vg_G} {cells slots pc : Nat} {lv : List (Nat × Value)} {rest : List Value} {ws : va_W}

theorem vg_iadd (C : vg_C Z M G) {u v : Int32} (d : decode (vm_cc M) pc = .ok (.iadd, 1)) (k : vg_K Z M G cells slots (pc + 1) lv (.int (u + v) :: rest) ws) : vg_K Z M G cells slots pc lv (.int v :: .int u :: rest) ws :=
  fun H locs ls hP hD hS hl => lv_iadd C.1 C.2.1 d (k H locs ls hP hD hS hl)
theorem vg_isub (C : vg_C Z M G) {u v : Int32} (d : decode (vm_cc M) pc = .ok (.isub, 1)) (k : vg_K Z M G cells slots (pc + 1) lv (.int (u - v) :: rest) ws) : vg_K Z M G cells slots pc lv (.int v :: .int u :: rest) ws :=
  fun H locs ls hP hD hS hl => lv_isub C.1 C.2.1 d (k H locs ls hP hD hS hl)
theorem vg_imul (C : vg_C Z M G) {u v : Int32} (d : decode (vm_cc M) pc = .ok (.imul, 1)) (k : vg_K Z M G cells slots (pc + 1) lv (.int (u * v) :: rest) ws) : vg_K Z M G cells slots pc lv (.int v :: .int u :: rest) ws :=
  fun H locs ls hP hD hS hl => lv_imul C.1 C.2.1 d (k H locs ls hP hD hS hl)
theorem vg_iand (C : vg_C Z M G) {u v : Int32} (d : decode (vm_cc M) pc = .ok (.iand, 1)) (k : vg_K Z M G cells slots (pc + 1) lv (.int (u &&& v) :: rest) ws) : vg_K Z M G cells slots pc lv (.int v :: .int u :: rest) ws :=
  fun H locs ls hP hD hS hl => lv_iand C.1 C.2.1 d (k H locs ls hP hD hS hl)
theorem vg_ior (C : vg_C Z M G) {u v : Int32} (d : decode (vm_cc M) pc = .ok (.ior, 1)) (k : vg_K Z M G cells slots (pc + 1) lv (.int (u ||| v) :: rest) ws) : vg_K Z M G cells slots pc lv (.int v :: .int u :: rest) ws :=
  fun H locs ls hP hD hS hl => lv_ior C.1 C.2.1 d (k H locs ls hP hD hS hl)
theorem vg_ixor (C : vg_C Z M G) {u v : Int32} (d : decode (vm_cc M) pc = .ok (.ixor, 1)) (k : vg_K Z M G cells slots (pc + 1) lv (.int (u ^^^ v) :: rest) ws) : vg_K Z M G cells slots pc lv (.int v :: .int u :: rest) ws :=
  fun H locs ls hP hD hS hl => lv_ixor C.1 C.2.1 d (k H locs ls hP hD hS hl)
theorem vg_ladd (C : vg_C Z M G) {u v : Int64} (d : decode (vm_cc M) pc = .ok (.ladd, 1)) (k : vg_K Z M G cells slots (pc + 1) lv (.long (u + v) :: rest) ws) : vg_K Z M G cells slots pc lv (.long v :: .long u :: rest) ws :=
  fun H locs ls hP hD hS hl => lv_ladd C.1 C.2.1 d (k H locs ls hP hD hS hl)
theorem vg_lsub (C : vg_C Z M G) {u v : Int64} (d : decode (vm_cc M) pc = .ok (.lsub, 1)) (k : vg_K Z M G cells slots (pc + 1) lv (.long (u - v) :: rest) ws) : vg_K Z M G cells slots pc lv (.long v :: .long u :: rest) ws :=
  fun H locs ls hP hD hS hl => lv_lsub C.1 C.2.1 d (k H locs ls hP hD hS hl)
theorem vg_lmul (C : vg_C Z M G) {u v : Int64} (d : decode (vm_cc M) pc = .ok (.lmul, 1)) (k : vg_K Z M G cells slots (pc + 1) lv (.long (u * v) :: rest) ws) : vg_K Z M G cells slots pc lv (.long v :: .long u :: rest) ws :=
  fun H locs ls hP hD hS hl => lv_lmul C.1 C.2.1 d (k H locs ls hP hD hS hl)
theorem vg_land (C : vg_C Z M G) {u v : Int64} (d : decode (vm_cc M) pc = .ok (.land, 1)) (k : vg_K Z M G cells slots (pc + 1) lv (.long (u &&& v) :: rest) ws) : vg_K Z M G cells slots pc lv (.long v :: .long u :: rest) ws :=
  fun H locs ls hP hD hS hl => lv_land C.1 C.2.1 d (k H locs ls hP hD hS hl)
theorem vg_lor (C : vg_C Z M G) {u v : Int64} (d : decode (vm_cc M) pc = .ok (.lor, 1)) (k : vg_K Z M G cells slots (pc + 1) lv (.long (u ||| v) :: rest) ws) : vg_K Z M G cells slots pc lv (.long v :: .long u :: rest) ws :=
  fun H locs ls hP hD hS hl => lv_lor C.1 C.2.1 d (k H locs ls hP hD hS hl)
theorem vg_lxor (C : vg_C Z M G) {u v : Int64} (d : decode (vm_cc M) pc = .ok (.lxor, 1)) (k : vg_K Z M G cells slots (pc + 1) lv (.long (u ^^^ v) :: rest) ws) : vg_K Z M G cells slots pc lv (.long v :: .long u :: rest) ws :=
  fun H locs ls hP hD hS hl => lv_lxor C.1 C.2.1 d (k H locs ls hP hD hS hl)
theorem vg_ishl (C : vg_C Z M G) {u v : Int32} (d : decode (vm_cc M) pc = .ok (.ishl, 1)) (k : vg_K Z M G cells slots (pc + 1) lv (.int (u <<< (v &&& 31)) :: rest) ws) : vg_K Z M G cells slots pc lv (.int v :: .int u :: rest) ws :=
  fun H locs ls hP hD hS hl => lv_ishl C.1 C.2.1 d (k H locs ls hP hD hS hl)
theorem vg_ishr (C : vg_C Z M G) {u v : Int32} (d : decode (vm_cc M) pc = .ok (.ishr, 1)) (k : vg_K Z M G cells slots (pc + 1) lv (.int (u >>> (v &&& 31)) :: rest) ws) : vg_K Z M G cells slots pc lv (.int v :: .int u :: rest) ws :=
  fun H locs ls hP hD hS hl => lv_ishr C.1 C.2.1 d (k H locs ls hP hD hS hl)
theorem vg_iushr (C : vg_C Z M G) {u v : Int32} (d : decode (vm_cc M) pc = .ok (.iushr, 1)) (k : vg_K Z M G cells slots (pc + 1) lv (.int (u.toUInt32 >>> (v.toUInt32 &&& Int32.toUInt32 31)).toInt32 :: rest) ws) : vg_K Z M G cells slots pc lv (.int v :: .int u :: rest) ws :=
  fun H locs ls hP hD hS hl => lv_iushr C.1 C.2.1 d rfl (k H locs ls hP hD hS hl)
theorem vg_lushr (C : vg_C Z M G) {u : Int64} {v : Int32} (d : decode (vm_cc M) pc = .ok (.lushr, 1)) (k : vg_K Z M G cells slots (pc + 1) lv (.long (u.toUInt64 >>> (v.toInt64.toUInt64 &&& Int64.toUInt64 63)).toInt64 :: rest) ws) : vg_K Z M G cells slots pc lv (.int v :: .long u :: rest) ws :=
  fun H locs ls hP hD hS hl => lv_lushr C.1 C.2.1 d rfl (k H locs ls hP hD hS hl)
theorem vg_lshl (C : vg_C Z M G) {u : Int64} {v : Int32} (d : decode (vm_cc M) pc = .ok (.lshl, 1)) (k : vg_K Z M G cells slots (pc + 1) lv (.long (u <<< (v.toInt64 &&& 63)) :: rest) ws) : vg_K Z M G cells slots pc lv (.int v :: .long u :: rest) ws :=
  fun H locs ls hP hD hS hl => lv_lshl C.1 C.2.1 d rfl (k H locs ls hP hD hS hl)
theorem vg_lshr (C : vg_C Z M G) {u : Int64} {v : Int32} (d : decode (vm_cc M) pc = .ok (.lshr, 1)) (k : vg_K Z M G cells slots (pc + 1) lv (.long (u >>> (v.toInt64 &&& 63)) :: rest) ws) : vg_K Z M G cells slots pc lv (.int v :: .long u :: rest) ws :=
  fun H locs ls hP hD hS hl => lv_lshr C.1 C.2.1 d rfl (k H locs ls hP hD hS hl)
theorem vg_ineg (C : vg_C Z M G) {u : Int32} (d : decode (vm_cc M) pc = .ok (.ineg, 1)) (k : vg_K Z M G cells slots (pc + 1) lv (.int (-u) :: rest) ws) : vg_K Z M G cells slots pc lv (.int u :: rest) ws :=
  fun H locs ls hP hD hS hl => lv_ineg C.1 C.2.1 d (k H locs ls hP hD hS hl)
theorem vg_lneg (C : vg_C Z M G) {u : Int64} (d : decode (vm_cc M) pc = .ok (.lneg, 1)) (k : vg_K Z M G cells slots (pc + 1) lv (.long (-u) :: rest) ws) : vg_K Z M G cells slots pc lv (.long u :: rest) ws :=
  fun H locs ls hP hD hS hl => lv_lneg C.1 C.2.1 d (k H locs ls hP hD hS hl)
theorem vg_i2l (C : vg_C Z M G) {u : Int32} (d : decode (vm_cc M) pc = .ok (.i2l, 1)) (k : vg_K Z M G cells slots (pc + 1) lv (.long u.toInt64 :: rest) ws) : vg_K Z M G cells slots pc lv (.int u :: rest) ws :=
  fun H locs ls hP hD hS hl => lv_i2l C.1 C.2.1 d rfl (k H locs ls hP hD hS hl)
theorem vg_l2i (C : vg_C Z M G) {u : Int64} (d : decode (vm_cc M) pc = .ok (.l2i, 1)) (k : vg_K Z M G cells slots (pc + 1) lv (.int u.toInt32 :: rest) ws) : vg_K Z M G cells slots pc lv (.long u :: rest) ws :=
  fun H locs ls hP hD hS hl => lv_l2i C.1 C.2.1 d rfl (k H locs ls hP hD hS hl)
theorem vg_lcmp (C : vg_C Z M G) {u v : Int64} (d : decode (vm_cc M) pc = .ok (.lcmp, 1)) (k : vg_K Z M G cells slots (pc + 1) lv (.int (lg_cmp u v) :: rest) ws) : vg_K Z M G cells slots pc lv (.long v :: .long u :: rest) ws :=
  fun H locs ls hP hD hS hl => W.lcmp C.1 C.2.1 d (k H locs ls hP hD hS hl)
theorem vg_iconst (C : vg_C Z M G) {n : Int} {v : Int32} (d : decode (vm_cc M) pc = .ok (.iconst n, 1)) (hv : Int32.ofInt n = v) (k : vg_K Z M G cells slots (pc + 1) lv (.int v :: rest) ws) : vg_K Z M G cells slots pc lv rest ws :=
  fun H locs ls hP hD hS hl => lv_iconst C.1 C.2.1 d hv (k H locs ls hP hD hS hl)
theorem vg_bipush (C : vg_C Z M G) {n : Int} {v : Int32} (d : decode (vm_cc M) pc = .ok (.bipush n, 2)) (hv : (Int8.ofInt n).toInt32 = v) (k : vg_K Z M G cells slots (pc + 2) lv (.int v :: rest) ws) : vg_K Z M G cells slots pc lv rest ws :=
  fun H locs ls hP hD hS hl => lv_bipush C.1 C.2.1 d hv (k H locs ls hP hD hS hl)
theorem vg_sipush (C : vg_C Z M G) {n : Int} {v : Int32} (d : decode (vm_cc M) pc = .ok (.sipush n, 3)) (hv : (Int16.ofInt n).toInt32 = v) (k : vg_K Z M G cells slots (pc + 3) lv (.int v :: rest) ws) : vg_K Z M G cells slots pc lv rest ws :=
  fun H locs ls hP hD hS hl => lv_sipush C.1 C.2.1 d hv (k H locs ls hP hD hS hl)
theorem vg_lconst (C : vg_C Z M G) {n : Fin 2} {v : Int64} (d : decode (vm_cc M) pc = .ok (.lconst n, 1)) (hv : Int64.ofNat (n : Nat) = v) (k : vg_K Z M G cells slots (pc + 1) lv (.long v :: rest) ws) : vg_K Z M G cells slots pc lv rest ws :=
  fun H locs ls hP hD hS hl => lv_lconst C.1 C.2.1 d hv (k H locs ls hP hD hS hl)
theorem vg_ldc2 (C : vg_C Z M G) {i : Nat} {v : Int64} (d : decode (vm_cc M) pc = .ok (.ldc2_w i, 3)) (hv : Cond.constantLong (vm_own M) i v ∈ vg_ws) (k : vg_K Z M G cells slots (pc + 3) lv (.long v :: rest) ws) : vg_K Z M G cells slots pc lv rest ws :=
  fun H locs ls hP hD hS hl => lv_ldc2 C.1 C.2.1 C.2.2.2.1 (C.2.2.2.2.1 _ (List.mem_cons_of_mem _ hv)) d (k H locs ls hP hD hS hl)
theorem vg_iload_n (C : vg_C Z M G) {i : Fin 4} {u : Int32} (d : decode (vm_cc M) pc = .ok (.iload_n i, 1)) (hv : lv_get lv (i : Nat) = some (.int u)) (k : vg_K Z M G cells slots (pc + 1) lv (.int u :: rest) ws) : vg_K Z M G cells slots pc lv rest ws :=
  fun H locs ls hP hD hS hl => lv_iload_n C.1 C.2.1 d rfl (lv_get_at hl hv) (k H locs ls hP hD hS hl)
theorem vg_iload (C : vg_C Z M G) {i : Nat} {u : Int32} (d : decode (vm_cc M) pc = .ok (.iload i, 2)) (hv : lv_get lv i = some (.int u)) (k : vg_K Z M G cells slots (pc + 2) lv (.int u :: rest) ws) : vg_K Z M G cells slots pc lv rest ws :=
  fun H locs ls hP hD hS hl => lv_iload C.1 C.2.1 d (lv_get_at hl hv) (k H locs ls hP hD hS hl)
theorem vg_istore_n (C : vg_C Z M G) {i : Fin 4} {u : Int32} {lv' : List (Nat × Value)} (d : decode (vm_cc M) pc = .ok (.istore_n i, 1)) (hn : (i : Nat) < vm_n M) (hv : lv_s1 lv (i : Nat) (.int u) = lv') (k : vg_K Z M G cells slots (pc + 1) lv' rest ws) : vg_K Z M G cells slots pc lv (.int u :: rest) ws :=
  fun H locs ls hP hD hS hl => lv_istore_n C.1 C.2.1 d rfl hl hn hv (fun ls hl => k H locs ls hP hD hS hl)
theorem vg_istore (C : vg_C Z M G) {i : Nat} {u : Int32} {lv' : List (Nat × Value)} (d : decode (vm_cc M) pc = .ok (.istore i, 2)) (hn : i < vm_n M) (hv : lv_s1 lv i (.int u) = lv') (k : vg_K Z M G cells slots (pc + 2) lv' rest ws) : vg_K Z M G cells slots pc lv (.int u :: rest) ws :=
  fun H locs ls hP hD hS hl => lv_istore C.1 C.2.1 d hl hn hv (fun ls hl => k H locs ls hP hD hS hl)
theorem vg_lload_n (C : vg_C Z M G) {i : Fin 4} {u : Int64} (d : decode (vm_cc M) pc = .ok (.lload_n i, 1)) (hv : lv_get lv (i : Nat) = some (.long u)) (k : vg_K Z M G cells slots (pc + 1) lv (.long u :: rest) ws) : vg_K Z M G cells slots pc lv rest ws :=
  fun H locs ls hP hD hS hl => lv_lload_n C.1 C.2.1 d rfl (lv_get_at hl hv) (k H locs ls hP hD hS hl)
theorem vg_lload (C : vg_C Z M G) {i : Nat} {u : Int64} (d : decode (vm_cc M) pc = .ok (.lload i, 2)) (hv : lv_get lv i = some (.long u)) (k : vg_K Z M G cells slots (pc + 2) lv (.long u :: rest) ws) : vg_K Z M G cells slots pc lv rest ws :=
  fun H locs ls hP hD hS hl => lv_lload C.1 C.2.1 d (lv_get_at hl hv) (k H locs ls hP hD hS hl)
theorem vg_lstore_n (C : vg_C Z M G) {i : Fin 4} {u : Int64} {lv' : List (Nat × Value)} (d : decode (vm_cc M) pc = .ok (.lstore_n i, 1)) (hn : (i : Nat) + 1 < vm_n M) (hv : lv_s2 lv (i : Nat) (.long u) = lv') (k : vg_K Z M G cells slots (pc + 1) lv' rest ws) : vg_K Z M G cells slots pc lv (.long u :: rest) ws :=
  fun H locs ls hP hD hS hl => lv_lstore_n C.1 C.2.1 d rfl hl hn hv (fun ls hl => k H locs ls hP hD hS hl)
theorem vg_lstore (C : vg_C Z M G) {i : Nat} {u : Int64} {lv' : List (Nat × Value)} (d : decode (vm_cc M) pc = .ok (.lstore i, 2)) (hn : i + 1 < vm_n M) (hv : lv_s2 lv i (.long u) = lv') (k : vg_K Z M G cells slots (pc + 2) lv' rest ws) : vg_K Z M G cells slots pc lv (.long u :: rest) ws :=
  fun H locs ls hP hD hS hl => lv_lstore C.1 C.2.1 d hl hn hv (fun ls hl => k H locs ls hP hD hS hl)
theorem vg_aload_n (C : vg_C Z M G) {i : Fin 4} {u : Nat} (d : decode (vm_cc M) pc = .ok (.aload_n i, 1)) (hv : lv_get lv (i : Nat) = some (.ref u)) (k : vg_K Z M G cells slots (pc + 1) lv (.ref u :: rest) ws) : vg_K Z M G cells slots pc lv rest ws :=
  fun H locs ls hP hD hS hl => lv_aload_n C.1 C.2.1 d rfl (lv_get_at hl hv) (k H locs ls hP hD hS hl)
theorem vg_aload (C : vg_C Z M G) {i : Nat} {u : Nat} (d : decode (vm_cc M) pc = .ok (.aload i, 2)) (hv : lv_get lv i = some (.ref u)) (k : vg_K Z M G cells slots (pc + 2) lv (.ref u :: rest) ws) : vg_K Z M G cells slots pc lv rest ws :=
  fun H locs ls hP hD hS hl => lv_aload C.1 C.2.1 d (lv_get_at hl hv) (k H locs ls hP hD hS hl)
theorem vg_astore_n (C : vg_C Z M G) {i : Fin 4} {u : Nat} {lv' : List (Nat × Value)} (d : decode (vm_cc M) pc = .ok (.astore_n i, 1)) (hn : (i : Nat) < vm_n M) (hv : lv_s1 lv (i : Nat) (.ref u) = lv') (k : vg_K Z M G cells slots (pc + 1) lv' rest ws) : vg_K Z M G cells slots pc lv (.ref u :: rest) ws :=
  fun H locs ls hP hD hS hl => lv_astore_n C.1 C.2.1 d rfl hl hn hv (fun ls hl => k H locs ls hP hD hS hl)
theorem vg_astore (C : vg_C Z M G) {i : Nat} {u : Nat} {lv' : List (Nat × Value)} (d : decode (vm_cc M) pc = .ok (.astore i, 2)) (hn : i < vm_n M) (hv : lv_s1 lv i (.ref u) = lv') (k : vg_K Z M G cells slots (pc + 2) lv' rest ws) : vg_K Z M G cells slots pc lv (.ref u :: rest) ws :=
  fun H locs ls hP hD hS hl => lv_astore C.1 C.2.1 d hl hn hv (fun ls hl => k H locs ls hP hD hS hl)
theorem vg_iinc (C : vg_C Z M G) {i : Nat} {n : Int} {u v : Int32} {lv' : List (Nat × Value)} (d : decode (vm_cc M) pc = .ok (.iinc i n, 3)) (hu : lv_get lv i = some (.int u)) (he : u + Int32.ofInt n = v) (hn : i < vm_n M) (hv : lv_s1 lv i (.int v) = lv') (k : vg_K Z M G cells slots (pc + 3) lv' rest ws) : vg_K Z M G cells slots pc lv rest ws :=
  fun H locs ls hP hD hS hl => (List.getElem?_of_mem (lv_get_mem hu)).elim fun j hj => lv_iinc C.1 C.2.1 d hl hj he hn hv (fun ls hl => k H locs ls hP hD hS hl)
theorem vg_dup (C : vg_C Z M G) {v : Value} (d : decode (vm_cc M) pc = .ok (.dup, 1)) (hv : v.category = 1) (k : vg_K Z M G cells slots (pc + 1) lv (v :: v :: rest) ws) : vg_K Z M G cells slots pc lv (v :: rest) ws :=
  fun H locs ls hP hD hS hl => lv_dup C.1 C.2.1 d hv (k H locs ls hP hD hS hl)
theorem vg_pop (C : vg_C Z M G) {v : Value} (d : decode (vm_cc M) pc = .ok (.pop, 1)) (hv : v.category = 1) (k : vg_K Z M G cells slots (pc + 1) lv rest ws) : vg_K Z M G cells slots pc lv (v :: rest) ws :=
  fun H locs ls hP hD hS hl => lv_pop C.1 C.2.1 d hv (k H locs ls hP hD hS hl)
theorem vg_dup_x1 (C : vg_C Z M G) {u v : Value} (d : decode (vm_cc M) pc = .ok (.dup_x1, 1)) (hu : u.category = 1) (hv : v.category = 1) (k : vg_K Z M G cells slots (pc + 1) lv (u :: v :: u :: rest) ws) : vg_K Z M G cells slots pc lv (u :: v :: rest) ws :=
  fun H locs ls hP hD hS hl => lv_dup_x1 C.1 C.2.1 d hu hv (k H locs ls hP hD hS hl)
theorem vg_dup2 (C : vg_C Z M G) {u v : Value} (d : decode (vm_cc M) pc = .ok (.dup2, 1)) (hu : u.category = 1) (hv : v.category = 1) (k : vg_K Z M G cells slots (pc + 1) lv (u :: v :: u :: v :: rest) ws) : vg_K Z M G cells slots pc lv (u :: v :: rest) ws :=
  fun H locs ls hP hD hS hl => lv_dup2_11 C.1 C.2.1 d hu hv (k H locs ls hP hD hS hl)
theorem vg_if_eq (C : vg_C Z M G) {u : Int32} {off : Int} {tgt : Nat} (d : decode (vm_cc M) pc = .ok (.ifCond .eq off, 3)) (ht : (pc : Int) + off = (tgt : Int)) (kt : u = 0 → vg_K Z M G cells slots tgt lv rest ws) (kf : ¬ (u = 0) → vg_K Z M G cells slots (pc + 3) lv rest ws) : vg_K Z M G cells slots pc lv (.int u :: rest) ws :=
  fun H locs ls hP hD hS hl => lv_if_eq C.1 C.2.1 d ht (fun q => kt q H locs ls hP hD hS hl) (fun q => kf q H locs ls hP hD hS hl)
theorem vg_icmp_eq (C : vg_C Z M G) {u v : Int32} {off : Int} {tgt : Nat} (d : decode (vm_cc M) pc = .ok (.if_icmp .eq off, 3)) (ht : (pc : Int) + off = (tgt : Int)) (kt : u = v → vg_K Z M G cells slots tgt lv rest ws) (kf : ¬ (u = v) → vg_K Z M G cells slots (pc + 3) lv rest ws) : vg_K Z M G cells slots pc lv (.int v :: .int u :: rest) ws :=
  fun H locs ls hP hD hS hl => lv_icmp_eq C.1 C.2.1 d ht (fun q => kt q H locs ls hP hD hS hl) (fun q => kf q H locs ls hP hD hS hl)
theorem vg_if_ne (C : vg_C Z M G) {u : Int32} {off : Int} {tgt : Nat} (d : decode (vm_cc M) pc = .ok (.ifCond .ne off, 3)) (ht : (pc : Int) + off = (tgt : Int)) (kt : ¬ u = 0 → vg_K Z M G cells slots tgt lv rest ws) (kf : u = 0 → vg_K Z M G cells slots (pc + 3) lv rest ws) : vg_K Z M G cells slots pc lv (.int u :: rest) ws :=
  fun H locs ls hP hD hS hl => lv_if_ne C.1 C.2.1 d ht (fun q => kt q H locs ls hP hD hS hl) (fun q => kf q H locs ls hP hD hS hl)
theorem vg_icmp_ne (C : vg_C Z M G) {u v : Int32} {off : Int} {tgt : Nat} (d : decode (vm_cc M) pc = .ok (.if_icmp .ne off, 3)) (ht : (pc : Int) + off = (tgt : Int)) (kt : ¬ u = v → vg_K Z M G cells slots tgt lv rest ws) (kf : u = v → vg_K Z M G cells slots (pc + 3) lv rest ws) : vg_K Z M G cells slots pc lv (.int v :: .int u :: rest) ws :=
  fun H locs ls hP hD hS hl => lv_icmp_ne C.1 C.2.1 d ht (fun q => kt q H locs ls hP hD hS hl) (fun q => kf q H locs ls hP hD hS hl)
theorem vg_if_lt (C : vg_C Z M G) {u : Int32} {off : Int} {tgt : Nat} (d : decode (vm_cc M) pc = .ok (.ifCond .lt off, 3)) (ht : (pc : Int) + off = (tgt : Int)) (kt : u < 0 → vg_K Z M G cells slots tgt lv rest ws) (kf : ¬ (u < 0) → vg_K Z M G cells slots (pc + 3) lv rest ws) : vg_K Z M G cells slots pc lv (.int u :: rest) ws :=
  fun H locs ls hP hD hS hl => lv_if_lt C.1 C.2.1 d ht (fun q => kt q H locs ls hP hD hS hl) (fun q => kf q H locs ls hP hD hS hl)
theorem vg_icmp_lt (C : vg_C Z M G) {u v : Int32} {off : Int} {tgt : Nat} (d : decode (vm_cc M) pc = .ok (.if_icmp .lt off, 3)) (ht : (pc : Int) + off = (tgt : Int)) (kt : u < v → vg_K Z M G cells slots tgt lv rest ws) (kf : ¬ (u < v) → vg_K Z M G cells slots (pc + 3) lv rest ws) : vg_K Z M G cells slots pc lv (.int v :: .int u :: rest) ws :=
  fun H locs ls hP hD hS hl => lv_icmp_lt C.1 C.2.1 d ht (fun q => kt q H locs ls hP hD hS hl) (fun q => kf q H locs ls hP hD hS hl)
theorem vg_if_ge (C : vg_C Z M G) {u : Int32} {off : Int} {tgt : Nat} (d : decode (vm_cc M) pc = .ok (.ifCond .ge off, 3)) (ht : (pc : Int) + off = (tgt : Int)) (kt : 0 ≤ u → vg_K Z M G cells slots tgt lv rest ws) (kf : ¬ (0 ≤ u) → vg_K Z M G cells slots (pc + 3) lv rest ws) : vg_K Z M G cells slots pc lv (.int u :: rest) ws :=
  fun H locs ls hP hD hS hl => lv_if_ge C.1 C.2.1 d ht (fun q => kt q H locs ls hP hD hS hl) (fun q => kf q H locs ls hP hD hS hl)
theorem vg_icmp_ge (C : vg_C Z M G) {u v : Int32} {off : Int} {tgt : Nat} (d : decode (vm_cc M) pc = .ok (.if_icmp .ge off, 3)) (ht : (pc : Int) + off = (tgt : Int)) (kt : v ≤ u → vg_K Z M G cells slots tgt lv rest ws) (kf : ¬ (v ≤ u) → vg_K Z M G cells slots (pc + 3) lv rest ws) : vg_K Z M G cells slots pc lv (.int v :: .int u :: rest) ws :=
  fun H locs ls hP hD hS hl => lv_icmp_ge C.1 C.2.1 d ht (fun q => kt q H locs ls hP hD hS hl) (fun q => kf q H locs ls hP hD hS hl)
theorem vg_if_gt (C : vg_C Z M G) {u : Int32} {off : Int} {tgt : Nat} (d : decode (vm_cc M) pc = .ok (.ifCond .gt off, 3)) (ht : (pc : Int) + off = (tgt : Int)) (kt : 0 < u → vg_K Z M G cells slots tgt lv rest ws) (kf : ¬ (0 < u) → vg_K Z M G cells slots (pc + 3) lv rest ws) : vg_K Z M G cells slots pc lv (.int u :: rest) ws :=
  fun H locs ls hP hD hS hl => lv_if_gt C.1 C.2.1 d ht (fun q => kt q H locs ls hP hD hS hl) (fun q => kf q H locs ls hP hD hS hl)
theorem vg_icmp_gt (C : vg_C Z M G) {u v : Int32} {off : Int} {tgt : Nat} (d : decode (vm_cc M) pc = .ok (.if_icmp .gt off, 3)) (ht : (pc : Int) + off = (tgt : Int)) (kt : v < u → vg_K Z M G cells slots tgt lv rest ws) (kf : ¬ (v < u) → vg_K Z M G cells slots (pc + 3) lv rest ws) : vg_K Z M G cells slots pc lv (.int v :: .int u :: rest) ws :=
  fun H locs ls hP hD hS hl => lv_icmp_gt C.1 C.2.1 d ht (fun q => kt q H locs ls hP hD hS hl) (fun q => kf q H locs ls hP hD hS hl)
theorem vg_if_le (C : vg_C Z M G) {u : Int32} {off : Int} {tgt : Nat} (d : decode (vm_cc M) pc = .ok (.ifCond .le off, 3)) (ht : (pc : Int) + off = (tgt : Int)) (kt : u ≤ 0 → vg_K Z M G cells slots tgt lv rest ws) (kf : ¬ (u ≤ 0) → vg_K Z M G cells slots (pc + 3) lv rest ws) : vg_K Z M G cells slots pc lv (.int u :: rest) ws :=
  fun H locs ls hP hD hS hl => lv_if_le C.1 C.2.1 d ht (fun q => kt q H locs ls hP hD hS hl) (fun q => kf q H locs ls hP hD hS hl)
theorem vg_icmp_le (C : vg_C Z M G) {u v : Int32} {off : Int} {tgt : Nat} (d : decode (vm_cc M) pc = .ok (.if_icmp .le off, 3)) (ht : (pc : Int) + off = (tgt : Int)) (kt : u ≤ v → vg_K Z M G cells slots tgt lv rest ws) (kf : ¬ (u ≤ v) → vg_K Z M G cells slots (pc + 3) lv rest ws) : vg_K Z M G cells slots pc lv (.int v :: .int u :: rest) ws :=
  fun H locs ls hP hD hS hl => lv_icmp_le C.1 C.2.1 d ht (fun q => kt q H locs ls hP hD hS hl) (fun q => kf q H locs ls hP hD hS hl)
theorem vg_goto (C : vg_C Z M G) {off : Int} {tgt : Nat} (d : decode (vm_cc M) pc = .ok (.goto off, 3)) (ht : (pc : Int) + off = (tgt : Int)) (k : vg_K Z M G cells slots tgt lv rest ws) : vg_K Z M G cells slots pc lv rest ws :=
  fun H locs ls hP hD hS hl => lv_goto C.1 C.2.1 d ht (k H locs ls hP hD hS hl)
theorem vg_tabIn (C : vg_C Z M G) {u : Int32} {dflt lo hi off : Int} {offs : Array Int} {len tgt : Nat} (d : decode (vm_cc M) pc = .ok (.tableswitch dflt lo hi offs, len)) (h1 : ¬ u.toInt < lo) (h2 : ¬ hi < u.toInt) (ho : offs[(u.toInt - lo).toNat]? = some off) (ht : (pc : Int) + off = (tgt : Int)) (k : vg_K Z M G cells slots tgt lv rest ws) : vg_K Z M G cells slots pc lv (.int u :: rest) ws :=
  fun H locs ls hP hD hS hl => lv_tableIn C.1 C.2.1 d h1 h2 ho ht (k H locs ls hP hD hS hl)
theorem vg_tabOut (C : vg_C Z M G) {u : Int32} {dflt lo hi : Int} {offs : Array Int} {len tgt : Nat} (d : decode (vm_cc M) pc = .ok (.tableswitch dflt lo hi offs, len)) (h1 : u.toInt < lo ∨ hi < u.toInt) (ht : (pc : Int) + dflt = (tgt : Int)) (k : vg_K Z M G cells slots tgt lv rest ws) : vg_K Z M G cells slots pc lv (.int u :: rest) ws :=
  fun H locs ls hP hD hS hl => lv_tableOut C.1 C.2.1 d h1 ht (k H locs ls hP hD hS hl)
theorem vg_iald (C : vg_C Z M G) (i t : Nat) {n a : Nat} {cA : ClassId} {f : Nat → Int32} {u : Int32} (d : decode (vm_cc M) pc = .ok (.iaload, 1)) (he : ws[i]? = some (a, .inl (cA, n, .inl f))) (ht : (vz_ty Z)[t]? = some (cA, .int)) (hin : vp_in u n) (k : vg_K Z M G cells slots (pc + 1) lv (.int (f u.toNatClampNeg) :: rest) ws) : vg_K Z M G cells slots pc lv (.int u :: .ref a :: rest) ws :=
  fun H locs ls hP hD hS hl => va_iald C.1 C.2.1 C.2.2.2.2.2.1 hP i t he ht hin d (k H locs ls hP hD hS hl)
theorem vg_lald (C : vg_C Z M G) (i t : Nat) {n a : Nat} {cA : ClassId} {f : Nat → Int64} {u : Int32} (d : decode (vm_cc M) pc = .ok (.laload, 1)) (he : ws[i]? = some (a, .inl (cA, n, .inr (.inl f)))) (ht : (vz_ty Z)[t]? = some (cA, .long)) (hin : vp_in u n) (k : vg_K Z M G cells slots (pc + 1) lv (.long (f u.toNatClampNeg) :: rest) ws) : vg_K Z M G cells slots pc lv (.int u :: .ref a :: rest) ws :=
  fun H locs ls hP hD hS hl => va_lald C.1 C.2.1 C.2.2.2.2.2.1 hP i t he ht hin d (k H locs ls hP hD hS hl)
theorem vg_aald (C : vg_C Z M G) (i t : Nat) {n a a2 : Nat} {cA : ClassId} {nm : String} {f : Nat → Option Nat} {u : Int32} (d : decode (vm_cc M) pc = .ok (.aaload, 1)) (he : ws[i]? = some (a, .inl (cA, n, .inr (.inr (.inr (.inr f)))))) (ht : (vz_ty Z)[t]? = some (cA, .object nm)) (hin : vp_in u n) (hf : f u.toNatClampNeg = some a2) (k : vg_K Z M G cells slots (pc + 1) lv (.ref a2 :: rest) ws) : vg_K Z M G cells slots pc lv (.int u :: .ref a :: rest) ws :=
  fun H locs ls hP hD hS hl => va_aldq C.1 C.2.1 C.2.2.2.2.2.1 hP i t he ht hin d (by rw [hf]; exact k H locs ls hP hD hS hl)
theorem vg_iast (C : vg_C Z M G) (i t : Nat) {n a : Nat} {cA : ClassId} {f : Nat → Int32} {u v : Int32} (d : decode (vm_cc M) pc = .ok (.iastore, 1)) (he : ws[i]? = some (a, .inl (cA, n, .inl f))) (ht : (vz_ty Z)[t]? = some (cA, .int)) (hin : vp_in u n) (k : vg_K Z M G cells slots (pc + 1) lv rest (ws.set i (a, .inl (cA, n, .inl (upd f u.toNatClampNeg v))))) : vg_K Z M G cells slots pc lv (.int v :: .int u :: .ref a :: rest) ws :=
  fun H locs ls hP hD hS hl => va_iast C.1 C.2.1 C.2.2.2.2.2.1 hP hD hS i t he ht hin d (fun H1 locs1 hP1 hD1 hS1 => k H1 locs1 ls hP1 hD1 hS1 hl)
theorem vg_last (C : vg_C Z M G) (i t : Nat) {n a : Nat} {cA : ClassId} {f : Nat → Int64} {u : Int32} {v : Int64} (d : decode (vm_cc M) pc = .ok (.lastore, 1)) (he : ws[i]? = some (a, .inl (cA, n, .inr (.inl f)))) (ht : (vz_ty Z)[t]? = some (cA, .long)) (hin : vp_in u n) (k : vg_K Z M G cells slots (pc + 1) lv rest (ws.set i (a, .inl (cA, n, .inr (.inl (vp_updL f u.toNatClampNeg v)))))) : vg_K Z M G cells slots pc lv (.long v :: .int u :: .ref a :: rest) ws :=
  fun H locs ls hP hD hS hl => va_last C.1 C.2.1 C.2.2.2.2.2.1 hP hD hS i t he ht hin d (fun H1 locs1 hP1 hD1 hS1 => k H1 locs1 ls hP1 hD1 hS1 hl)
theorem vg_alen (C : vg_C Z M G) (i t : Nat) {a : Nat} {cA : ClassId} {x : vp_A} {ty : FieldType} {v : Int32} (d : decode (vm_cc M) pc = .ok (.arraylength, 1)) (he : ws[i]? = some (a, .inl (cA, x))) (ht : (vz_ty Z)[t]? = some (cA, ty)) (hv : Int32.ofNat x.1 = v) (k : vg_K Z M G cells slots (pc + 1) lv (.int v :: rest) ws) : vg_K Z M G cells slots pc lv (.ref a :: rest) ws :=
  fun H locs ls hP hD hS hl => va_alen C.1 C.2.1 C.2.2.2.2.2.1 hP i t he ht hv d (k H locs ls hP hD hS hl)
theorem vg_zald (C : vg_C Z M G) (i t : Nat) {n a : Nat} {cA : ClassId} {f : Nat → Int32} {u : Int32} (d : decode (vm_cc M) pc = .ok (.baload, 1)) (he : ws[i]? = some (a, .inl (cA, n, .inl f))) (ht : (vz_ty Z)[t]? = some (cA, .boolean)) (hin : vp_in u n) (k : vg_K Z M G cells slots (pc + 1) lv (.int (f u.toNatClampNeg) :: rest) ws) : vg_K Z M G cells slots pc lv (.int u :: .ref a :: rest) ws :=
  fun H locs ls hP hD hS hl => va_zald C.1 C.2.1 C.2.2.2.2.2.1 hP i t he ht hin d (k H locs ls hP hD hS hl)
theorem vg_zast (C : vg_C Z M G) (i t : Nat) {n a : Nat} {cA : ClassId} {f : Nat → Int32} {u v : Int32} (d : decode (vm_cc M) pc = .ok (.bastore, 1)) (he : ws[i]? = some (a, .inl (cA, n, .inl f))) (ht : (vz_ty Z)[t]? = some (cA, .boolean)) (hin : vp_in u n) (k : vg_K Z M G cells slots (pc + 1) lv rest (ws.set i (a, .inl (cA, n, .inl (upd f u.toNatClampNeg (vp_nar .boolean v)))))) : vg_K Z M G cells slots pc lv (.int v :: .int u :: .ref a :: rest) ws :=
  fun H locs ls hP hD hS hl => va_zast C.1 C.2.1 C.2.2.2.2.2.1 hP hD hS i t he ht hin d (fun H1 locs1 hP1 hD1 hS1 => k H1 locs1 ls hP1 hD1 hS1 hl)
/-- the pool's entry idx of the method's class is field k of the class number ci -/
def vg_F (own : String) (idx ci k : Nat) : Prop := ∃ (C : String) (T : u_T) (N : Nat), vg_cl[ci]? = some (C, T, N) ∧ k < N ∧ (∀ w ∈ u_ws C T N, w ∈ vg_ws) ∧ (T k).1 = C ∧ (Cond.fieldLink own idx C (T k).2.1 (T k).2.2.1 ∈ vg_ws ∨ ∃ host, Cond.fieldLinkNest own idx C (T k).2.1 (T k).2.2.1 host ∈ vg_nw)
/-- what may be written there: no final field, of this type; names and types of the class -/
def vg_Fp (ci k : Nat) (fin : Bool) (ty : FieldType) : Prop := ∃ (C : String) (T : u_T) (N : Nat) (t0 : Nat → FieldType), vg_cl[ci]? = some (C, T, N) ∧ (∀ k, k < N → parseFieldDescriptor (T k).2.2.1 = some (t0 k)) ∧ (∀ a, a < N → ∀ b, b < N → a ≠ b → (T a).2.1 ≠ (T b).2.1) ∧ parseFieldDescriptor (T k).2.2.1 = some ty ∧ (T k).2.2.2 = fin
theorem vg_get (C : vg_C Z M G) (i : Nat) {idx ci k a : Nat} {fs : List Value} {v : Value} (d : decode (vm_cc M) pc = .ok (.getfield idx, 3)) (hF : vg_F (vm_own M) idx ci k) (he : ws[i]? = some (a, .inr (ci, fs))) (hv : fs[k]? = some v) (kk : vg_K Z M G cells slots (pc + 3) lv (v :: rest) ws) : vg_K Z M G cells slots pc lv (.ref a :: rest) ws := by
  intro H locs ls hP hD hS hl
  obtain ⟨nm, T, N, hc, hk, hin, hC, hlink⟩ := hF
  have hin : ∀ w ∈ u_ws nm T N, w ∈ vm_ws M := fun w h => List.mem_cons_of_mem _ (hin w h)
  rcases hlink with hlink | ⟨host, hlink⟩
  · exact va_get (ref := nm) C.1 C.2.1 C.2.2.2.2.1 hin C.2.2.2.1 C.2.2.2.2.2.1 hP i he hc k hk (C.2.2.2.2.1 _ (List.mem_cons_of_mem _ hlink)) (fun x hx => by rw [hC] at hx; exact hx) hv d (kk H locs ls hP hD hS hl)
  · exact va_getN (ref := nm) C.1 C.2.1 C.2.2.2.2.1 hin C.2.2.2.1 C.2.2.2.2.2.1 hP i he hc k hk (va_Nw.use rfl (C.2.2.2.2.2.2.2.2.2.2.2.2 _ hlink)) (fun x hx => by rw [hC] at hx; exact hx) hv d (kk H locs ls hP hD hS hl)
theorem vg_put (C : vg_C Z M G) (i : Nat) {idx ci k a : Nat} {fs : List Value} {v : Value} {ty : FieldType} (d : decode (vm_cc M) pc = .ok (.putfield idx, 3)) (hF : vg_F (vm_own M) idx ci k) (hp : vg_Fp ci k false ty) (he : ws[i]? = some (a, .inr (ci, fs))) (hn : narrow ty v = v) (hfit : fits ty v = true) (hl0 : k < fs.length) (kk : vg_K Z M G cells slots (pc + 3) lv rest (ws.set i (a, .inr (ci, fs.set k v)))) : vg_K Z M G cells slots pc lv (v :: .ref a :: rest) ws := by
  intro H locs ls hP hD hS hl
  obtain ⟨nm, T, N, hc, hk, hin, hC, hlink⟩ := hF
  obtain ⟨nm2, T2, N2, t0, hc2, hty, hnm, hd, hfi⟩ := hp
  cases hc.symm.trans hc2
  have hin : ∀ w ∈ u_ws nm T N, w ∈ vm_ws M := fun w h => List.mem_cons_of_mem _ (hin w h)
  rcases hlink with hlink | ⟨host, hlink⟩
  · exact va_put (ref := nm) C.1 C.2.1 C.2.2.2.2.1 hin t0 hty hnm C.2.2.2.1 C.2.2.2.2.2.1 hP hD hS i he hc k hk (C.2.2.2.2.1 _ (List.mem_cons_of_mem _ hlink)) (fun x hx => by rw [hC] at hx; exact hx) hfi hd hn hfit hl0 d (fun H1 locs1 hP1 hD1 hS1 => kk H1 locs1 ls hP1 hD1 hS1 hl)
  · exact va_putN (ref := nm) C.1 C.2.1 C.2.2.2.2.1 hin t0 hty hnm C.2.2.2.1 C.2.2.2.2.2.1 hP hD hS i he hc k hk (va_Nw.use rfl (C.2.2.2.2.2.2.2.2.2.2.2.2 _ hlink)) (fun x hx => by rw [hC] at hx; exact hx) hfi hd hn hfit hl0 d (fun H1 locs1 hP1 hD1 hS1 => kk H1 locs1 ls hP1 hD1 hS1 hl)
/-! contracts over all cells -/
def vg_Pc (Z : vg_Z) (as : List Value) (ws : va_W) : Array Value → State → Prop := va_Pc as (fun U => va_P (vz_D Z) vg_cl ws U.heap ∧ va_D (fun q => vz_b Z ≤ q) ws ∧ va_K (vz_D Z) vg_cl (vz_ty Z) U ∧ vz_b Z ≤ U.heap.size ∧ vz_P Z U ∧ ∀ w ∈ vg_nw, va_Nw w U)
def vg_Qc (Z : vg_Z) (post : Option Value → va_W → Prop) : Array Value → State → Outcome → State → Prop := fun _ st oc t => (∃ (v : Option Value) (w : va_W), oc = .returned v ∧ post v w ∧ va_P (vz_D Z) vg_cl w t.heap ∧ va_D (fun q => vz_b Z ≤ q) w) ∧ va_F (fun q => vz_b Z ≤ q) st t
/-- the method's contract: from the cells ws with the arguments as it returns a value and cells that post allows; it makes at most mc cells of ms slots -/
def vg_T (Z : vg_Z) (M : vg_M) (mc ms : Nat) (as : List Value) (ws : va_W) (post : Option Value → va_W → Prop) : Prop := Met (vz_l Z) (vm_y M) (vm_ws M) (vm_R M) (vg_Pc Z as ws) (vg_Qc Z post) mc ms (fun q => vz_b Z ≤ q)
def vg_Rt (Z : vg_Z) (G : vg_G) (mc ms : Nat) (post : Option Value → va_W → Prop) : Prop := vh_Q G = MQ (vh_bl G) (vg_Qc Z post) (vh_a G) (vh_s G) mc ms (fun q => vz_b Z ≤ q)
theorem vg_enter {post : Option Value → va_W → Prop} {mc ms : Nat} {as : List Value} (hst : vg_St Z) (hy : plainName (vm_own M) = true) (hw : vm_cw M = Cond.code (vm_y M) (vm_cc M) (vm_n M) (vm_ret M)) (hlen : (lg_sl as).length ≤ vm_n M)
    (body : ∀ G : vg_G, vg_C Z M G → vg_Rt Z G mc ms post → vg_K Z M G 0 0 0 (lv_args 0 as) [] ws) : vg_T Z M mc ms as ws post := by
  refine Met.ofW (cc := vm_cc M) (maxL := vm_n M) (ret := vm_ret M) (ws' := vg_ws) hy (congrArg (· :: vg_ws) hw) ?_
  intro p e s m args below meth c s₁ B hml hv
  obtain ⟨rfl, hP, hD, hK, hb, hp, hnw⟩ := hv
  have hts := atoms_spec (ws := vm_ws M) B.pre
  have hown' : s.vm.findClass (vm_own M) = some m.cls := findClass_of_methodNamed B.named
  have hnm : meth.name = (vm_y M).name := (name_of_methodNamed B.named B.method).1
  have hl := lv_entry as (n := vm_n M) hlen
  rw [lg_entry_eq]
  exact body (p, e, s, m, as.toArray, below, meth, c, MQ below (vg_Qc Z post) as.toArray s mc ms (fun q => vz_b Z ≤ q)) ⟨B.exec, B.bytes, hml, hown', hts, hK, hb, hp, hst, B.returns, B.notSynchronized, hnm, hnw⟩ rfl s.heap [] _ hP hD va_S.rf hl
theorem vg_ireturn {post : Option Value → va_W → Prop} {mc ms : Nat} (C : vg_C Z M G) (hQ : vg_Rt Z G mc ms post) {v : Int32} {ty : FieldType} (d : decode (vm_cc M) pc = .ok (.ireturn, 1)) (hr : vm_ret M = some ty) (hn : narrow ty (.int v) = .int v) (hp : post (some (.int v)) ws) : vg_K Z M G mc ms pc lv [.int v] ws := by
  intro H locs ls hP hD hS hl
  rw [hQ]
  exact W.zret C.1 C.2.1 (C.2.2.2.2.2.2.2.2.2.1.trans hr) hn (fun t ht hW => ⟨⟨_, ws, rfl, hp, by rw [ht]; exact hP, hD⟩, hS.F ht⟩) hS.2.2 d C.2.2.2.2.2.2.2.2.2.2.1
theorem vg_lreturn {post : Option Value → va_W → Prop} {mc ms : Nat} (C : vg_C Z M G) (hQ : vg_Rt Z G mc ms post) {v : Int64} (d : decode (vm_cc M) pc = .ok (.lreturn, 1)) (hr : vm_ret M = some .long) (hp : post (some (.long v)) ws) : vg_K Z M G mc ms pc lv [.long v] ws := by
  intro H locs ls hP hD hS hl
  rw [hQ]
  exact W.lret C.1 C.2.1 (C.2.2.2.2.2.2.2.2.2.1.trans hr) (fun t ht hW => ⟨⟨_, ws, rfl, hp, by rw [ht]; exact hP, hD⟩, hS.F ht⟩) hS.2.2 d C.2.2.2.2.2.2.2.2.2.2.1
theorem vg_return {post : Option Value → va_W → Prop} {mc ms : Nat} (C : vg_C Z M G) (hQ : vg_Rt Z G mc ms post) (d : decode (vm_cc M) pc = .ok (.return_, 1)) (hr : vm_ret M = none) (hp : post none ws) : vg_K Z M G mc ms pc lv [] ws := by
  intro H locs ls hP hD hS hl
  rw [hQ]
  exact W.vret C.1 C.2.1 (C.2.2.2.2.2.2.2.2.2.1.trans hr) (fun t ht hW => ⟨⟨_, ws, rfl, hp, by rw [ht]; exact hP, hD⟩, hS.F ht⟩) hS.2.2 d C.2.2.2.2.2.2.2.2.2.2.1
theorem vg_blind (hst : vg_St Z) (as : List Value) : FrameBlind (vg_Pc Z as ws) := fun a U g mk q => by
  obtain ⟨q0, q1, q2, q3, q4, q5, q6⟩ := q
  exact ⟨q0, q1, q2, va_K.moved (u := U) (U := U.calling g mk a) (Vm.Alike.refl U.vm) q3, q4, hst U (U.calling g mk a) q5 (Vm.Alike.refl U.vm) (fun _ _ => rfl), fun w hw => va_Nw.same (u := U) (U := U.calling g mk a) (vg_nw_tab hw) rfl (q6 w hw)⟩
theorem vg_pre (C : vg_C Z M G) {H : Heap} {locs : List Loc} (hP : va_P (vz_D Z) vg_cl ws H) (hD : va_D (fun q => vz_b Z ≤ q) ws) (hS : va_S (fun q => vz_b Z ≤ q) (vh_s G).heap H locs) (as : List Value) : ∀ U : State, U.heap = H → (vh_s G).WarmedH U.vm → vg_Pc Z as ws as.toArray U := fun U hU hW => by
  obtain ⟨-, -, -, -, -, hK, hb, hp, hst, -, -, -, hnw⟩ := C
  refine ⟨rfl, by rw [hU]; exact hP, hD, va_K.moved hW.alike hK, by rw [hU]; exact Nat.le_trans hb hS.1, hst _ U hp hW.alike (fun q hq => ?_), fun w hw => vg_nw_warm hw hW (hnw w hw)⟩
  rw [hU]
  exact hS.2.1 q (Nat.lt_of_lt_of_le hq hb) (Nat.not_le.mpr hq)
/-- behind a call -/
theorem vg_after {post : Option Value → va_W → Prop} {mc ms : Nat} {a : Array Value} {st : List Value} (C : vg_C Z M G) {H : Heap} {locs : List Loc} {ls : Array Slot} (hS : va_S (fun q => vz_b Z ≤ q) (vh_s G).heap H locs) (hl : lv_has ls (vm_n M) lv)
    (hr : va_Run (vh_p G) (vz_l Z) (vh_e G) (vm_R M) (vh_s G) (vh_m G) (vh_a G) (vh_bl G) (vh_me G) (vh_c G) H locs cells slots mc ms (F0 (vh_m G) pc ls st) rest (vg_Qc Z post a) (fun q => vz_b Z ≤ q))
    (kk : ∀ (v : Option Value) (w : va_W), post v w → vg_K Z M G (cells + mc) (slots + ms) (pc + 3) lv (v.toList ++ rest) w) : W (vh_p G) (vz_l Z) (vh_e G) (vm_R M) (vh_s G) (vh_m G) (vh_a G) (vh_bl G) (vh_me G) (vh_c G) H locs cells slots (vh_Q G) (F0 (vh_m G) pc ls st) := by
  intro T hT X
  obtain ⟨v, st₀, t, T', L, h0, X', hL, e1, e2, ⟨⟨v', w, hv, hp, hP1, hD1⟩, hz, hk⟩, stp⟩ := hr T hT X
  cases hv
  rw [h0] at hz hk
  have hS1 : va_S (fun q => vz_b Z ≤ q) (vh_s G).heap T'.heap (locs ++ L) := ⟨Nat.le_trans hS.1 (by rw [e1]; exact hz), fun q h1 h2 => by rw [e1, hk q (Nat.lt_of_lt_of_le h1 hS.1) h2]; exact hS.2.1 q h1 h2, fun q hq => by
      rcases List.mem_append.mp hq with h | h
      · exact hS.2.2 q h
      · exact hL q h⟩
  obtain ⟨t2, a1, b1⟩ := kk v w hp T'.heap (locs ++ L) ls (by rw [e1]; exact hP1) hD1 hS1 hl T' rfl X'
  exact ⟨t2, stp t2 a1, b1⟩
/-- what a call needs of caller and callee, apart from the instruction -/
def vg_L (M M' : vg_M) (n mc ms : Nat) : Prop := vm_cw M' ∈ vg_ws ∧ vm_cw M' = Cond.code (vm_y M') (vm_cc M') (vm_n M') (vm_ret M') ∧ (vm_R M').cells = mc ∧ (vm_R M').slots = ms ∧ ((vm_own M') ≠ "java/lang/invoke/MethodHandle" ∧ (vm_own M') ≠ "java/lang/invoke/VarHandle" ∧ (parseMethodDescriptor (vm_y M').desc).map (fun d => d.parameters.length) = some n) ∧ ((vm_R M').frames + 1 ≤ (vm_R M).frames ∧ 8 + ((vm_n M') + 11) + (vm_R M').locals ≤ (vm_R M).locals) ∧ Cond.initialized (vm_own M') ∈ vg_ws
theorem vg_goodIn {M M' : vg_M} (h : vm_cw M' ∈ vg_ws) : GoodIn (vm_ws M) (vm_ws M') := by
  intro w hw
  have hm : w ∈ vg_ws := by
    rcases List.mem_cons.mp hw with e | e
    · rw [e]; exact h
    · exact e
  exact ⟨List.mem_cons_of_mem _ hm, vg_ws_good hm⟩
theorem vg_callV {post : Option Value → va_W → Prop} {M' : vg_M} {n mc ms idx ci a i : Nat} {As st : List Value} {fs : List Value} {T : u_T} {N : Nat} (C : vg_C Z M G) (hM : vg_T Z M' mc ms (.ref a :: As) ws post) (hL : vg_L M M' n mc ms)
    (hk : Cond.methodLink (vm_own M) idx (vm_y M') ∈ vg_ws ∧ Cond.instanceMethod (vm_y M') ∈ vg_ws ∧ Cond.selects (vm_own M') (vm_y M') (vm_y M') ∈ vg_ws) (he : ws[i]? = some (a, .inr (ci, fs))) (hcl : vg_cl[ci]? = some (vm_own M', T, N)) (hn : As.length = n) (hst : st = As.reverse ++ .ref a :: rest) (hW : (rest.map fun v => v.category).sum ≤ 8)
    (d : decode (vm_cc M) pc = .ok (.invokevirtual idx, 3)) (hf : cells + mc ≤ (vm_R M).cells ∧ slots + ms ≤ (vm_R M).slots) (kk : ∀ (v : Option Value) (w : va_W), post v w → vg_K Z M G (cells + mc) (slots + ms) (pc + 3) lv (v.toList ++ rest) w) : vg_K Z M G cells slots pc lv st ws := by
  intro H locs ls hP hD hS hl
  obtain ⟨hcw, hw, hrc, hrs, hd, hR, hini⟩ := hL
  have hts := C.2.2.2.2.1
  have hG : GoodIn (vm_ws M) (vm_ws M') := vg_goodIn hcw
  have hw : vm_ws M' = Cond.code (vm_y M') (vm_cc M') (vm_n M') (vm_ret M') :: vg_ws := congrArg (· :: vg_ws) hw
  have hgs : ∀ w ∈ vg_ws, w.before (vh_a G) (vh_s G) = true := fun w h => hts w (List.mem_cons_of_mem _ h)
  have hb : CallB (vm_R M) (vh_s G) (vh_a G) (vm_own M) idx (vm_y M') (vm_cc M') (vm_n M') (vm_ret M') (vm_ws M') (vm_R M') mc ms n := callB_of n hts hG hw hrc hrs (hgs _ hini) (hgs _ hk.1) hd hR
  exact vg_after C hS hl (va_runV (C := vm_own M') (As := As) (rest := rest) ⟨C.1, C.2.1, C.2.2.1, C.2.2.2.1, hts⟩ hM ⟨hb, hgs _ hk.2.1, hgs _ hk.2.2⟩ ⟨vg_blind C.2.2.2.2.2.2.2.2.1 _, va_recv C.2.2.2.2.2.1 hP hcl he, vg_pre C hP hD hS _⟩ rfl hn hl.1 hst (lv_room hW) d hf) kk
theorem vg_callVN {post : Option Value → va_W → Prop} {M' : vg_M} {host : String} {n mc ms idx ci a i : Nat} {As st : List Value} {fs : List Value} {T : u_T} {N : Nat} (C : vg_C Z M G) (hM : vg_T Z M' mc ms (.ref a :: As) ws post) (hL : vg_L M M' n mc ms)
    (hk : Cond.methodLinkNest (vm_own M) idx (vm_y M') host ∈ vg_nw ∧ Cond.instanceMethod (vm_y M') ∈ vg_ws ∧ Cond.selects (vm_own M') (vm_y M') (vm_y M') ∈ vg_ws) (he : ws[i]? = some (a, .inr (ci, fs))) (hcl : vg_cl[ci]? = some (vm_own M', T, N)) (hn : As.length = n) (hst : st = As.reverse ++ .ref a :: rest) (hW : (rest.map fun v => v.category).sum ≤ 8)
    (d : decode (vm_cc M) pc = .ok (.invokevirtual idx, 3)) (hf : cells + mc ≤ (vm_R M).cells ∧ slots + ms ≤ (vm_R M).slots) (kk : ∀ (v : Option Value) (w : va_W), post v w → vg_K Z M G (cells + mc) (slots + ms) (pc + 3) lv (v.toList ++ rest) w) : vg_K Z M G cells slots pc lv st ws := by
  intro H locs ls hP hD hS hl
  obtain ⟨hcw, hw, hrc, hrs, hd, hR, hini⟩ := hL
  have hts := C.2.2.2.2.1
  have hG : GoodIn (vm_ws M) (vm_ws M') := vg_goodIn hcw
  have hw : vm_ws M' = Cond.code (vm_y M') (vm_cc M') (vm_n M') (vm_ret M') :: vg_ws := congrArg (· :: vg_ws) hw
  have hgs : ∀ w ∈ vg_ws, w.before (vh_a G) (vh_s G) = true := fun w h => hts w (List.mem_cons_of_mem _ h)
  have hb : va_CN (vm_R M) (vh_s G) (vh_a G) (vm_own M) idx (vm_y M') host (vm_cc M') (vm_n M') (vm_ret M') (vm_ws M') (vm_R M') mc ms n := va_cnB n hts hG hw hrc hrs (C.2.2.2.2.2.2.2.2.2.2.2.2 _ hk.1) (hgs _ hini) hd hR
  exact vg_after C hS hl (va_runVN (C := vm_own M') (As := As) (rest := rest) ⟨C.1, C.2.1, C.2.2.1, C.2.2.2.1, hts⟩ hM ⟨hb, hgs _ hk.2.1, hgs _ hk.2.2⟩ ⟨vg_blind C.2.2.2.2.2.2.2.2.1 _, va_recv C.2.2.2.2.2.1 hP hcl he, vg_pre C hP hD hS _⟩ rfl hn hl.1 hst (lv_room hW) d hf) kk
theorem vg_callS {post : Option Value → va_W → Prop} {M' : vg_M} {n mc ms idx : Nat} {As st : List Value} (C : vg_C Z M G) (hM : vg_T Z M' mc ms As ws post) (hL : vg_L M M' n mc ms)
    (hk : Cond.methodLink (vm_own M) idx (vm_y M') ∈ vg_ws ∧ Cond.static (vm_y M') ∈ vg_ws) (hn : As.length = n) (hst : st = As.reverse ++ rest) (hW : (rest.map fun v => v.category).sum ≤ 8)
    (d : decode (vm_cc M) pc = .ok (.invokestatic idx, 3)) (hf : cells + mc ≤ (vm_R M).cells ∧ slots + ms ≤ (vm_R M).slots) (kk : ∀ (v : Option Value) (w : va_W), post v w → vg_K Z M G (cells + mc) (slots + ms) (pc + 3) lv (v.toList ++ rest) w) : vg_K Z M G cells slots pc lv st ws := by
  intro H locs ls hP hD hS hl
  obtain ⟨hcw, hw, hrc, hrs, hd, hR, hini⟩ := hL
  have hts := C.2.2.2.2.1
  have hG : GoodIn (vm_ws M) (vm_ws M') := vg_goodIn hcw
  have hw : vm_ws M' = Cond.code (vm_y M') (vm_cc M') (vm_n M') (vm_ret M') :: vg_ws := congrArg (· :: vg_ws) hw
  have hgs : ∀ w ∈ vg_ws, w.before (vh_a G) (vh_s G) = true := fun w h => hts w (List.mem_cons_of_mem _ h)
  have hb : CallB (vm_R M) (vh_s G) (vh_a G) (vm_own M) idx (vm_y M') (vm_cc M') (vm_n M') (vm_ret M') (vm_ws M') (vm_R M') mc ms n := callB_of n hts hG hw hrc hrs (hgs _ hini) (hgs _ hk.1) hd hR
  exact vg_after C hS hl (va_runS (As := As) (rest := rest) ⟨C.1, C.2.1, C.2.2.1, C.2.2.2.1, hts⟩ hM ⟨hb, hgs _ hk.2⟩ ⟨vg_blind C.2.2.2.2.2.2.2.2.1 _, vg_pre C hP hD hS _⟩ rfl hn hl.1 hst (lv_room hW) d hf) kk
theorem vg_callSN {post : Option Value → va_W → Prop} {M' : vg_M} {host : String} {n mc ms idx : Nat} {As st : List Value} (C : vg_C Z M G) (hM : vg_T Z M' mc ms As ws post) (hL : vg_L M M' n mc ms)
    (hk : Cond.methodLinkNest (vm_own M) idx (vm_y M') host ∈ vg_nw ∧ Cond.static (vm_y M') ∈ vg_ws) (hn : As.length = n) (hst : st = As.reverse ++ rest) (hW : (rest.map fun v => v.category).sum ≤ 8)
    (d : decode (vm_cc M) pc = .ok (.invokestatic idx, 3)) (hf : cells + mc ≤ (vm_R M).cells ∧ slots + ms ≤ (vm_R M).slots) (kk : ∀ (v : Option Value) (w : va_W), post v w → vg_K Z M G (cells + mc) (slots + ms) (pc + 3) lv (v.toList ++ rest) w) : vg_K Z M G cells slots pc lv st ws := by
  intro H locs ls hP hD hS hl
  obtain ⟨hcw, hw, hrc, hrs, hd, hR, hini⟩ := hL
  have hts := C.2.2.2.2.1
  have hG : GoodIn (vm_ws M) (vm_ws M') := vg_goodIn hcw
  have hw : vm_ws M' = Cond.code (vm_y M') (vm_cc M') (vm_n M') (vm_ret M') :: vg_ws := congrArg (· :: vg_ws) hw
  have hgs : ∀ w ∈ vg_ws, w.before (vh_a G) (vh_s G) = true := fun w h => hts w (List.mem_cons_of_mem _ h)
  have hb : va_CN (vm_R M) (vh_s G) (vh_a G) (vm_own M) idx (vm_y M') host (vm_cc M') (vm_n M') (vm_ret M') (vm_ws M') (vm_R M') mc ms n := va_cnB n hts hG hw hrc hrs (C.2.2.2.2.2.2.2.2.2.2.2.2 _ hk.1) (hgs _ hini) hd hR
  exact vg_after C hS hl (va_runSN (As := As) (rest := rest) ⟨C.1, C.2.1, C.2.2.1, C.2.2.2.1, hts⟩ hM ⟨hb, hgs _ hk.2, trivial⟩ ⟨vg_blind C.2.2.2.2.2.2.2.2.1 _, vg_pre C hP hD hS _⟩ rfl hn hl.1 hst (lv_room hW) d hf) kk
theorem vg_callI {post : Option Value → va_W → Prop} {M' : vg_M} {n mc ms idx a : Nat} {As st : List Value} (C : vg_C Z M G) (hM : vg_T Z M' mc ms (.ref a :: As) ws post) (hL : vg_L M M' n mc ms) (hr : vm_ret M' = none)
    (hk : Cond.methodLink (vm_own M) idx (vm_y M') ∈ vg_ws ∧ (vm_y M').name = "<init>" ∧ Cond.instanceMethod (vm_y M') ∈ vg_ws) (hn : As.length = n) (hst : st = As.reverse ++ .ref a :: rest) (hW : (rest.map fun v => v.category).sum ≤ 8)
    (d : decode (vm_cc M) pc = .ok (.invokespecial idx, 3)) (hf : cells + mc ≤ (vm_R M).cells ∧ slots + ms ≤ (vm_R M).slots) (kk : ∀ (v : Option Value) (w : va_W), post v w → vg_K Z M G (cells + mc) (slots + ms) (pc + 3) lv (v.toList ++ rest) w) : vg_K Z M G cells slots pc lv st ws := by
  intro H locs ls hP hD hS hl
  obtain ⟨hcw, hw, hrc, hrs, hd, hR, hini⟩ := hL
  have hts := C.2.2.2.2.1
  have hG : GoodIn (vm_ws M) (vm_ws M') := vg_goodIn hcw
  have hw : vm_ws M' = Cond.code (vm_y M') (vm_cc M') (vm_n M') (vm_ret M') :: vg_ws := congrArg (· :: vg_ws) hw
  have hgs : ∀ w ∈ vg_ws, w.before (vh_a G) (vh_s G) = true := fun w h => hts w (List.mem_cons_of_mem _ h)
  rw [hr] at hw
  have hb : CallB (vm_R M) (vh_s G) (vh_a G) (vm_own M) idx (vm_y M') (vm_cc M') (vm_n M') none (vm_ws M') (vm_R M') mc ms n := callB_of n hts hG hw hrc hrs (hgs _ hini) (hgs _ hk.1) hd hR
  exact vg_after C hS hl (va_runI (b := a) (As := As) (rest := rest) ⟨C.1, C.2.1, C.2.2.1, C.2.2.2.1, hts⟩ hM ⟨hb, hk.2.1, hgs _ hk.2.2⟩ ⟨vg_blind C.2.2.2.2.2.2.2.2.1 _, vg_pre C hP hD hS _⟩ rfl hn hl.1 hst (lv_room hW) d hf) kk
theorem vg_callIN {post : Option Value → va_W → Prop} {M' : vg_M} {host : String} {n mc ms idx a : Nat} {As st : List Value} (C : vg_C Z M G) (hM : vg_T Z M' mc ms (.ref a :: As) ws post) (hL : vg_L M M' n mc ms) (hr : vm_ret M' = none)
    (hk : Cond.methodLinkNest (vm_own M) idx (vm_y M') host ∈ vg_nw ∧ (vm_y M').name = "<init>" ∧ Cond.instanceMethod (vm_y M') ∈ vg_ws) (hn : As.length = n) (hst : st = As.reverse ++ .ref a :: rest) (hW : (rest.map fun v => v.category).sum ≤ 8)
    (d : decode (vm_cc M) pc = .ok (.invokespecial idx, 3)) (hf : cells + mc ≤ (vm_R M).cells ∧ slots + ms ≤ (vm_R M).slots) (kk : ∀ (v : Option Value) (w : va_W), post v w → vg_K Z M G (cells + mc) (slots + ms) (pc + 3) lv (v.toList ++ rest) w) : vg_K Z M G cells slots pc lv st ws := by
  intro H locs ls hP hD hS hl
  obtain ⟨hcw, hw, hrc, hrs, hd, hR, hini⟩ := hL
  have hts := C.2.2.2.2.1
  have hG : GoodIn (vm_ws M) (vm_ws M') := vg_goodIn hcw
  rw [hr] at hw
  have hw : vm_ws M' = Cond.code (vm_y M') (vm_cc M') (vm_n M') none :: vg_ws := congrArg (· :: vg_ws) hw
  have hgs : ∀ w ∈ vg_ws, w.before (vh_a G) (vh_s G) = true := fun w h => hts w (List.mem_cons_of_mem _ h)
  have hb : va_CN (vm_R M) (vh_s G) (vh_a G) (vm_own M) idx (vm_y M') host (vm_cc M') (vm_n M') none (vm_ws M') (vm_R M') mc ms n := va_cnB n hts hG hw hrc hrs (C.2.2.2.2.2.2.2.2.2.2.2.2 _ hk.1) (hgs _ hini) hd hR
  exact vg_after C hS hl (va_runIN (b := a) (As := As) (rest := rest) ⟨C.1, C.2.1, C.2.2.1, C.2.2.2.1, hts⟩ hM ⟨hb, hk.2.1, hgs _ hk.2.2⟩ ⟨vg_blind C.2.2.2.2.2.2.2.2.1 _, vg_pre C hP hD hS _⟩ rfl hn hl.1 hst (lv_room hW) d hf) kk

end VGR
