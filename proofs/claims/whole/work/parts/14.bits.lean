/-! bits of longs (the rows ts_ and wb_ are the kit's, given for pasting) -/
theorem ts_nf {x : Bool} (h : ¬ x = false) : x = true := by cases x <;> first | rfl | exact absurd rfl h
theorem ts_nt {x : Bool} (h : ¬ x = true) : x = false := by cases x <;> first | rfl | exact absurd rfl h
theorem ts_bit {w : Int64} {s : UInt64} {j : Nat} (hj : j < 64) (hs : s.toNat = j) : ((w.toUInt64 >>> s).toInt64 &&& 1) = 0 ↔ w.toBitVec.getLsbD j = false := by
  have e : (w.toUInt64 >>> s).toInt64.toBitVec = w.toBitVec >>> j := by
    apply BitVec.eq_of_toNat_eq
    show (w.toUInt64 >>> s).toNat = _
    rw [UInt64.toNat_shiftRight, hs, Nat.mod_eq_of_lt hj, BitVec.toNat_ushiftRight]
    rfl
  rw [← Int64.toBitVec_inj, Int64.toBitVec_and, e]
  show w.toBitVec >>> j &&& 1#64 = 0#64 ↔ _
  constructor
  · intro h
    have t := congrArg (fun x => x.getLsbD 0) h
    simpa using t
  · intro h
    apply BitVec.eq_of_getLsbD_eq
    intro i hi
    cases i with
    | zero => simp [h]
    | succ i => simp
theorem wb_tb (n : Nat) : (lN n).toBitVec = BitVec.ofNat 64 n := rfl
theorem wb_inj {a b : Int64} (h : a.toBitVec = b.toBitVec) : a = b := Int64.toBitVec_inj.mp h
theorem wb_tn {n : Nat} (h : n < 2 ^ 64) : (lN n).toBitVec.toNat = n := by rw [wb_tb, BitVec.toNat_ofNat, Nat.mod_eq_of_lt h]
theorem wb_of (x : Int64) : ∃ n, n < 2 ^ 64 ∧ x = lN n := ⟨x.toBitVec.toNat, x.toBitVec.isLt, wb_inj (by rw [wb_tb]; simp)⟩
theorem wb_of32 (x : Int32) : ∃ n, n < 2 ^ 32 ∧ x = nI n := ⟨x.toBitVec.toNat, x.toBitVec.isLt, Int32.toBitVec_inj.mp (by show _ = BitVec.ofNat 32 _; simp)⟩
theorem wb_c : ∀ k, k < 64 → ((nI k).toInt64 &&& 63) = lN k := by decide +kernel
theorem wb_cu : ∀ k, k < 64 → ((nI k).toInt64.toUInt64 &&& Int64.toUInt64 63) = UInt64.ofNat k := by decide +kernel
theorem wb_sm : ∀ k, k < 64 → (BitVec.ofNat 64 k).smod 64 = BitVec.ofNat 64 k := by decide +kernel
def lb (w : Int64) (j : Nat) : Bool := w.toBitVec.getLsbD j
theorem lb_ext {a b : Int64} (h : ∀ j, j < 64 → lb a j = lb b j) : a = b := wb_inj (BitVec.eq_of_getLsbD_eq fun i hi => h i hi)
theorem lb_or (a b : Int64) (j : Nat) : lb (a ||| b) j = (lb a j || lb b j) := by
  unfold lb
  rw [Int64.toBitVec_or, BitVec.getLsbD_or]
theorem lb_and (a b : Int64) (j : Nat) : lb (a &&& b) j = (lb a j && lb b j) := by
  unfold lb
  rw [Int64.toBitVec_and, BitVec.getLsbD_and]
theorem lb_ge (w : Int64) {j : Nat} (h : 64 ≤ j) : lb w j = false := BitVec.getLsbD_of_ge _ _ h
theorem lb_0 (j : Nat) : lb 0 j = false := by
  show (0#64).getLsbD j = false
  simp
theorem lb_1 (j : Nat) : lb 1 j = decide (j = 0) := by
  show (1#64).getLsbD j = decide (j = 0)
  by_cases h : j = 0
  · subst h; rfl
  · rw [decide_eq_false h]
    simp [BitVec.getLsbD_one, h]
theorem lb_shl (a : Int64) {k j : Nat} (hk : k < 64) (hj : j < 64) : lb (a <<< ((nI k).toInt64 &&& 63)) j = (decide (k ≤ j) && lb a (j - k)) := by
  unfold lb
  rw [wb_c k hk, Int64.toBitVec_shiftLeft, wb_tb, wb_sm k hk, BitVec.shiftLeft_eq', BitVec.toNat_ofNat, Nat.mod_eq_of_lt (show k < 2 ^ 64 by omega), BitVec.getLsbD_shiftLeft]
  by_cases h : k ≤ j
  · simp [h, hj, Nat.not_lt.mpr h]
  · simp [h, Nat.not_le.mp h]
theorem lb_one_shl {k j : Nat} (hk : k < 64) (hj : j < 64) : lb ((1 : Int64) <<< ((nI k).toInt64 &&& 63)) j = decide (j = k) := by
  rw [lb_shl 1 hk hj, lb_1]
  by_cases h : j = k
  · subst h; simp
  · rw [decide_eq_false h]
    by_cases h2 : k ≤ j
    · rw [decide_eq_true h2, Bool.true_and]
      exact decide_eq_false (by omega)
    · rw [decide_eq_false h2, Bool.false_and]
theorem lb_tst {w : Int64} {j : Nat} (hj : j < 64) : ((w.toUInt64 >>> ((nI j).toInt64.toUInt64 &&& Int64.toUInt64 63)).toInt64 &&& 1) = 0 ↔ lb w j = false := by
  refine ts_bit hj ?_
  rw [wb_cu j hj]
  show (BitVec.ofNat 64 j).toNat = j
  rw [BitVec.toNat_ofNat, Nat.mod_eq_of_lt (by omega)]
theorem lb_stst {w : Int64} {j : Nat} (hj : j < 64) : ((w >>> ((nI j).toInt64 &&& 63)) &&& 1) = 0 ↔ lb w j = false := by
  have e : (w >>> ((nI j).toInt64 &&& 63)).toBitVec = w.toBitVec.sshiftRight j := by
    rw [wb_c j hj, Int64.toBitVec_shiftRight, wb_tb, wb_sm j hj]
    show w.toBitVec.sshiftRight (BitVec.ofNat 64 j).toNat = _
    rw [BitVec.toNat_ofNat, Nat.mod_eq_of_lt (show j < 2 ^ 64 by omega)]
  rw [← Int64.toBitVec_inj, Int64.toBitVec_and, e]
  have g : (w.toBitVec.sshiftRight j).getLsbD 0 = w.toBitVec.getLsbD j := by
    rw [BitVec.getLsbD_sshiftRight]
    simp [hj]
  show w.toBitVec.sshiftRight j &&& 1#64 = 0#64 ↔ w.toBitVec.getLsbD j = false
  constructor
  · intro h
    have t : (w.toBitVec.sshiftRight j &&& 1#64).getLsbD 0 = (0#64).getLsbD 0 := by rw [h]
    rw [BitVec.getLsbD_and, g, show (1#64).getLsbD 0 = true from rfl, Bool.and_true] at t
    exact t
  · intro h
    apply BitVec.eq_of_getLsbD_eq
    intro i hi
    cases i with
    | zero =>
      rw [BitVec.getLsbD_and, g, h, Bool.false_and]
      rfl
    | succ i => simp [BitVec.getLsbD_one]
theorem lg_eq {x y : Int64} : lg_cmp x y = 0 ↔ x = y := by
  unfold lg_cmp
  by_cases h : x > y
  · rw [if_pos h]
    constructor
    · intro q; exact absurd q (by decide)
    · intro q; subst q; exact absurd h (by simp [Int64.lt_iff_toInt_lt])
  · rw [if_neg h]
    by_cases h2 : x = y
    · rw [if_pos h2]; exact ⟨fun _ => h2, fun _ => rfl⟩
    · rw [if_neg h2]; exact ⟨fun q => absurd q (by decide), fun q => absurd q h2⟩
theorem sh_one : ∀ i, i < 31 → (1 : Int32) <<< (nI i &&& 31) = nI (2 ^ i) := by decide +kernel
noncomputable def bP (p : Prop) : Int32 := @ite _ p (Classical.propDecidable p) 1 0
theorem bP_t {p : Prop} (h : p) : bP p = 1 := if_pos h
theorem bP_f {p : Prop} (h : ¬ p) : bP p = 0 := if_neg h
theorem bP_eq {p : Prop} : bP p = 0 ↔ ¬ p := by
  by_cases h : p
  · rw [bP_t h]; exact ⟨fun q => absurd q (by decide), fun q => absurd h q⟩
  · rw [bP_f h]; exact ⟨fun _ => h, fun _ => rfl⟩
theorem bP_nar (p : Prop) : narrow .boolean (.int (bP p)) = .int (bP p) := by
  by_cases h : p
  · rw [bP_t h]; rfl
  · rw [bP_f h]; rfl
theorem bP_congr {p q : Prop} (h : p ↔ q) : bP p = bP q := by rw [propext h]
theorem bI_bP (b : Bool) : bI b = bP (b = true) := by
  cases b
  · rw [bP_f (by decide)]; rfl
  · rw [bP_t rfl]; rfl
