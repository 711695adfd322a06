/-! bits of whole numbers at a width -/
def bt (w : Nat) (x : Int) (i : Nat) : Bool := (BitVec.ofInt w x).getLsbD i
theorem bt_or (w : Nat) (a b : Int) (i : Nat) : bt w (bor w a b) i = (bt w a i || bt w b i) := by
  unfold bt bor; rw [BitVec.ofInt_toInt, BitVec.getLsbD_or]
theorem bt_and (w : Nat) (a b : Int) (i : Nat) : bt w (band w a b) i = (bt w a i && bt w b i) := by
  unfold bt band; rw [BitVec.ofInt_toInt, BitVec.getLsbD_and]
theorem bt_xor (w : Nat) (a b : Int) (i : Nat) : bt w (bxor w a b) i = (bt w a i ^^ bt w b i) := by
  unfold bt bxor; rw [BitVec.ofInt_toInt, BitVec.getLsbD_xor]
theorem bt_ge {w : Nat} {x : Int} {i : Nat} (h : w ≤ i) : bt w x i = false := BitVec.getLsbD_of_ge _ _ h
theorem bt_0 (w i : Nat) : bt w 0 i = false := by unfold bt; simp
theorem bt_m1 {w i : Nat} (h : i < w) : bt w (-1) i = true := by
  unfold bt
  rw [show BitVec.ofInt w (-1) = BitVec.allOnes w by rw [BitVec.ofInt_neg]; simp [BitVec.neg_one_eq_allOnes]]
  simp [h]
theorem bt_pow {w k i : Nat} (hi : i < w) : bt w (2 ^ k) i = decide (i = k) := by
  unfold bt
  rw [show ((2 : Int) ^ k) = ((2 ^ k : Nat) : Int) by push_cast; rfl, BitVec.ofInt_natCast, BitVec.getLsbD_ofNat, Nat.testBit_two_pow]
  simp [hi, eq_comm]
theorem bt_pow1 {w k i : Nat} (hi : i < w) : bt w (1 * 2 ^ k) i = decide (i = k) := by rw [Int.one_mul]; exact bt_pow hi
theorem bt_nat {w i : Nat} {x : Nat} (hi : i < w) : bt w (x : Int) i = x.testBit i := by
  unfold bt
  rw [BitVec.ofInt_natCast, BitVec.getLsbD_ofNat]
  simp [hi]
theorem bt_ext {x y : Int} {w : Nat} (hx : (BitVec.ofInt w x).toInt = x) (hy : (BitVec.ofInt w y).toInt = y) (h : ∀ i, i < w → bt w x i = bt w y i) : x = y := by
  rw [← hx, ← hy, BitVec.eq_of_getLsbD_eq (x := BitVec.ofInt w x) (y := BitVec.ofInt w y) (fun i hi => h i hi)]
theorem of32 {x : Int} (h : r32 x) : (BitVec.ofInt 32 x).toInt = x := by rw [BitVec.toInt_ofInt]; exact Int.bmod_eq_of_le (by have := h.1; omega) (by have := h.2; omega)
theorem of64 {x : Int} (h : r64 x) : (BitVec.ofInt 64 x).toInt = x := by rw [BitVec.toInt_ofInt]; exact Int.bmod_eq_of_le (by have := h.1; omega) (by have := h.2; omega)
theorem ext32 {x y : Int} (hx : r32 x) (hy : r32 y) (h : ∀ i, i < 32 → bt 32 x i = bt 32 y i) : x = y := bt_ext (of32 hx) (of32 hy) h
theorem ext64 {x y : Int} (hx : r64 x) (hy : r64 y) (h : ∀ i, i < 64 → bt 64 x i = bt 64 y i) : x = y := bt_ext (of64 hx) (of64 hy) h
theorem ofdiv {w : Nat} {x : Int} (hx : (BitVec.ofInt w x).toInt = x) (k : Nat) : BitVec.ofInt w (x / 2 ^ k) = (BitVec.ofInt w x).sshiftRight k := by
  apply BitVec.eq_of_toInt_eq
  rw [BitVec.toInt_sshiftRight, hx, Int.shiftRight_eq_div_pow, BitVec.toInt_ofInt]
  have h := BitVec.toInt_sshiftRight (x := BitVec.ofInt w x) (n := k)
  rw [hx, Int.shiftRight_eq_div_pow] at h
  push_cast at h ⊢
  rw [← h, BitVec.toInt_bmod_cancel]
theorem bt_div32 {x : Int} (hx : r32 x) {k i : Nat} (h : i + k < 32) : bt 32 (x / 2 ^ k) i = bt 32 x (k + i) := by
  unfold bt
  rw [ofdiv (of32 hx), BitVec.getLsbD_sshiftRight, if_pos (by omega), decide_eq_false (by omega : ¬ 32 ≤ i)]
  rfl
theorem bt_div64 {x : Int} (hx : r64 x) {k i : Nat} (h : i + k < 64) : bt 64 (x / 2 ^ k) i = bt 64 x (k + i) := by
  unfold bt
  rw [ofdiv (of64 hx), BitVec.getLsbD_sshiftRight, if_pos (by omega), decide_eq_false (by omega : ¬ 64 ≤ i)]
  rfl
theorem bt_1 {w i : Nat} (hi : i < w) : bt w 1 i = decide (i = 0) := by
  have := bt_pow (w := w) (k := 0) hi
  rwa [Int.pow_zero] at this
/-- (set >> k & 1): is k in the set? -/
theorem has32 {x y : Int} (hx : r32 x) (hy : 0 ≤ y ∧ y < 32) : band 32 (x / 2 ^ y.toNat) 1 = if bt 32 x y.toNat then 1 else 0 := by
  refine ext32 (bv32 _) (by split <;> exact ⟨by decide, by decide⟩) fun i hi => ?_
  rw [bt_and, bt_1 hi]
  by_cases h0 : i = 0
  · subst h0
    rw [bt_div32 hx (by omega), Nat.add_zero]
    cases h : bt 32 x y.toNat
    · simp [bt_0]
    · simp [bt_1]
  · cases h : bt 32 x y.toNat
    · simp [h0, bt_0]
    · simp [h0, bt_1 hi]
theorem has64 {x y : Int} (hx : r64 x) (hy : 0 ≤ y ∧ y < 64) : band 64 (x / 2 ^ y.toNat) 1 = if bt 64 x y.toNat then 1 else 0 := by
  refine ext64 (bv64 _) (by split <;> exact ⟨by decide, by decide⟩) fun i hi => ?_
  rw [bt_and, bt_1 hi]
  by_cases h0 : i = 0
  · subst h0
    rw [bt_div64 hx (by omega), Nat.add_zero]
    cases h : bt 64 x y.toNat
    · simp [bt_0]
    · simp [bt_1]
  · cases h : bt 64 x y.toNat
    · simp [h0, bt_0]
    · simp [h0, bt_1 hi]
