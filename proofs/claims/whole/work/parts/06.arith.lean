section ARITH
variable {X : Cx} {own : String} {cc : ByteArray} {nL fr lo : Nat} {G : GS} {pc : Nat} {ls st : List MV} {V : VV}
theorem ok2I {x y : Int} {l : List MV} (h : okl (vI y :: vI x :: l)) : r32 x ∧ r32 y ∧ okl l := ⟨okIr (okl_hd (okl_tl h)), okIr (okl_hd h), okl_tl (okl_tl h)⟩
theorem ok2L {x y : Int} {l : List MV} (h : okl (vL y :: vL x :: l)) : r64 x ∧ r64 y ∧ okl l := ⟨okLr (okl_hd (okl_tl h)), okLr (okl_hd h), okl_tl (okl_tl h)⟩
theorem lt32 {x y : Int} (hx : r32 x) (hy : r32 y) : Int32.ofInt x < Int32.ofInt y ↔ x < y := by rw [Int32.lt_iff_toInt_lt, i32v hx, i32v hy]
theorem le32 {x y : Int} (hx : r32 x) (hy : r32 y) : Int32.ofInt x ≤ Int32.ofInt y ↔ x ≤ y := by rw [Int32.le_iff_toInt_le, i32v hx, i32v hy]
theorem eq32 {x y : Int} (hx : r32 x) (hy : r32 y) : Int32.ofInt x = Int32.ofInt y ↔ x = y := by rw [← Int32.toInt_inj, i32v hx, i32v hy]
theorem lt64 {x y : Int} (hx : r64 x) (hy : r64 y) : Int64.ofInt x < Int64.ofInt y ↔ x < y := by rw [Int64.lt_iff_toInt_lt, i64v hx, i64v hy]
theorem le64 {x y : Int} (hx : r64 x) (hy : r64 y) : Int64.ofInt x ≤ Int64.ofInt y ↔ x ≤ y := by rw [Int64.le_iff_toInt_le, i64v hx, i64v hy]
theorem eq64 {x y : Int} (hx : r64 x) (hy : r64 y) : Int64.ofInt x = Int64.ofInt y ↔ x = y := by rw [← Int64.toInt_inj, i64v hx, i64v hy]
theorem r32_0 : r32 0 := ⟨by decide, by decide⟩
/-- the rest of a division that cuts towards 0 -/
theorem tm32 {x y : Int} (hx : r32 x) (hy : r32 y) : Int32.ofInt x - Int32.ofInt x / Int32.ofInt y * Int32.ofInt y = Int32.ofInt (x.tmod y) := by
  rw [← Int32.ofInt_tdiv hx.1 hx.2 hy.1 hy.2, ← Int32.ofInt_mul, ← Int32.ofInt_sub]
  congr 1
  have := Int.mul_tdiv_add_tmod x y
  rw [Int.mul_comm] at this
  omega
theorem tm64 {x y : Int} (hx : r64 x) (hy : r64 y) : Int64.ofInt x - Int64.ofInt x / Int64.ofInt y * Int64.ofInt y = Int64.ofInt (x.tmod y) := by
  rw [← Int64.ofInt_tdiv hx.1 hx.2 hy.1 hy.2, ← Int64.ofInt_mul, ← Int64.ofInt_sub]
  congr 1
  have := Int.mul_tdiv_add_tmod x y
  rw [Int.mul_comm] at this
  omega
/-- the bits of two whole numbers, at a width -/
def band (w : Nat) (x y : Int) : Int := (BitVec.ofInt w x &&& BitVec.ofInt w y).toInt
def bor (w : Nat) (x y : Int) : Int := (BitVec.ofInt w x ||| BitVec.ofInt w y).toInt
def bxor (w : Nat) (x y : Int) : Int := (BitVec.ofInt w x ^^^ BitVec.ofInt w y).toInt
theorem bv32 (b : BitVec 32) : r32 b.toInt := ⟨by have := b.le_toInt; simpa using this, by have := b.toInt_lt; simp at this; omega⟩
theorem bv64 (b : BitVec 64) : r64 b.toInt := ⟨by have := b.le_toInt; simpa using this, by have := b.toInt_lt; simp at this; omega⟩
theorem i32bv {a : Int32} {b : BitVec 32} (h : a.toBitVec = b) : a = Int32.ofInt b.toInt := i32b (by rw [← h]; rfl)
theorem i64bv {a : Int64} {b : BitVec 64} (h : a.toBitVec = b) : a = Int64.ofInt b.toInt := i64b (by rw [← h]; rfl)

theorem j_iadd {x y : Int} (hX : Good X own cc nL fr lo) (hd : decode cc pc = .ok (.iadd, 1)) (ho : -2147483648 ≤ x + y ∧ x + y ≤ 2147483647) (kk : J X G (pc + 1) ls (vI (x + y) :: st) V) : J X G pc ls (vI y :: vI x :: st) V := fun h1 h2 h3 H locs lsr hW hS hL => by
  refine lv_iadd hX.1 hX.2.1 hd ?_
  rw [← Int32.ofInt_add]
  exact kk h1 (okl_cons (okI ho) (ok2I h2).2.2) h3 H locs lsr hW hS hL
theorem j_ladd {x y : Int} (hX : Good X own cc nL fr lo) (hd : decode cc pc = .ok (.ladd, 1)) (ho : -9223372036854775808 ≤ x + y ∧ x + y ≤ 9223372036854775807) (kk : J X G (pc + 1) ls (vL (x + y) :: st) V) : J X G pc ls (vL y :: vL x :: st) V := fun h1 h2 h3 H locs lsr hW hS hL => by
  refine lv_ladd hX.1 hX.2.1 hd ?_
  rw [← Int64.ofInt_add]
  exact kk h1 (okl_cons (okL ho) (ok2L h2).2.2) h3 H locs lsr hW hS hL
theorem j_isub {x y : Int} (hX : Good X own cc nL fr lo) (hd : decode cc pc = .ok (.isub, 1)) (ho : -2147483648 ≤ x - y ∧ x - y ≤ 2147483647) (kk : J X G (pc + 1) ls (vI (x - y) :: st) V) : J X G pc ls (vI y :: vI x :: st) V := fun h1 h2 h3 H locs lsr hW hS hL => by
  refine lv_isub hX.1 hX.2.1 hd ?_
  rw [← Int32.ofInt_sub]
  exact kk h1 (okl_cons (okI ho) (ok2I h2).2.2) h3 H locs lsr hW hS hL
theorem j_lsub {x y : Int} (hX : Good X own cc nL fr lo) (hd : decode cc pc = .ok (.lsub, 1)) (ho : -9223372036854775808 ≤ x - y ∧ x - y ≤ 9223372036854775807) (kk : J X G (pc + 1) ls (vL (x - y) :: st) V) : J X G pc ls (vL y :: vL x :: st) V := fun h1 h2 h3 H locs lsr hW hS hL => by
  refine lv_lsub hX.1 hX.2.1 hd ?_
  rw [← Int64.ofInt_sub]
  exact kk h1 (okl_cons (okL ho) (ok2L h2).2.2) h3 H locs lsr hW hS hL
theorem j_imul {x y : Int} (hX : Good X own cc nL fr lo) (hd : decode cc pc = .ok (.imul, 1)) (ho : -2147483648 ≤ x * y ∧ x * y ≤ 2147483647) (kk : J X G (pc + 1) ls (vI (x * y) :: st) V) : J X G pc ls (vI y :: vI x :: st) V := fun h1 h2 h3 H locs lsr hW hS hL => by
  refine lv_imul hX.1 hX.2.1 hd ?_
  rw [← Int32.ofInt_mul]
  exact kk h1 (okl_cons (okI ho) (ok2I h2).2.2) h3 H locs lsr hW hS hL
theorem j_lmul {x y : Int} (hX : Good X own cc nL fr lo) (hd : decode cc pc = .ok (.lmul, 1)) (ho : -9223372036854775808 ≤ x * y ∧ x * y ≤ 9223372036854775807) (kk : J X G (pc + 1) ls (vL (x * y) :: st) V) : J X G pc ls (vL y :: vL x :: st) V := fun h1 h2 h3 H locs lsr hW hS hL => by
  refine lv_lmul hX.1 hX.2.1 hd ?_
  rw [← Int64.ofInt_mul]
  exact kk h1 (okl_cons (okL ho) (ok2L h2).2.2) h3 H locs lsr hW hS hL
theorem j_lneg {x : Int} (hX : Good X own cc nL fr lo) (hd : decode cc pc = .ok (.lneg, 1)) (ho : -9223372036854775808 ≤ -x ∧ -x ≤ 9223372036854775807) (kk : J X G (pc + 1) ls (vL (-x) :: st) V) : J X G pc ls (vL x :: st) V := fun h1 h2 h3 H locs lsr hW hS hL => by
  refine lv_lneg hX.1 hX.2.1 hd ?_
  rw [← Int64.ofInt_neg]
  exact kk h1 (okl_cons (okL ho) (okl_tl h2)) h3 H locs lsr hW hS hL
theorem ne0_32 {y : Int} (hy : r32 y) (h : y ≠ 0) : ¬ Int32.ofInt y = 0 := fun q => h ((eq32 hy ⟨by decide, by decide⟩).mp q)
theorem td_32 {x y : Int} (hx : r32 x) (hy : 0 < y) : r32 (x.tdiv y) := by
  obtain ⟨a, b⟩ := hx
  have h1 : (x.tdiv y).natAbs ≤ x.natAbs := by rw [Int.natAbs_tdiv]; exact Nat.div_le_self _ _
  have h3 : 0 ≤ x → 0 ≤ x.tdiv y := fun h => Int.tdiv_nonneg h (Int.le_of_lt hy)
  have h4 : x ≤ 0 → x.tdiv y ≤ 0 := fun h => by
    rw [show x = -(-x) by omega, Int.neg_tdiv]
    have := Int.tdiv_nonneg (a := -x) (b := y) (by omega) (Int.le_of_lt hy)
    omega
  constructor <;> omega
theorem j_idivT {x y : Int} (hX : Good X own cc nL fr lo) (hd : decode cc pc = .ok (.idiv, 1)) (hy : 0 < y) (kk : J X G (pc + 1) ls (vI (x.tdiv y) :: st) V) : J X G pc ls (vI y :: vI x :: st) V := fun h1 h2 h3 H locs lsr hW hS hL => by
  obtain ⟨a, b, c⟩ := ok2I h2
  refine lv_idiv hX.1 hX.2.1 hd (ne0_32 (y := y) b (by omega)) ?_
  rw [← Int32.ofInt_tdiv a.1 a.2 b.1 b.2]
  exact kk h1 (okl_cons (okI (td_32 a hy)) c) h3 H locs lsr hW hS hL
theorem j_iremT {x y : Int} (hX : Good X own cc nL fr lo) (hd : decode cc pc = .ok (.irem, 1)) (hy : 0 < y) (kk : J X G (pc + 1) ls (vI (x.tmod y) :: st) V) : J X G pc ls (vI y :: vI x :: st) V := fun h1 h2 h3 H locs lsr hW hS hL => by
  obtain ⟨a, b, c⟩ := ok2I h2
  refine lv_irem hX.1 hX.2.1 hd (ne0_32 (y := y) b (by omega)) ?_
  rw [tm32 a b]
  have g1 := Int.tmod_lt_of_pos x hy
  have g2 := Int.lt_tmod_of_pos x hy
  have := b.2
  exact kk h1 (okl_cons (okI ⟨by omega, by omega⟩) c) h3 H locs lsr hW hS hL
theorem j_idiv {x y : Int} (hX : Good X own cc nL fr lo) (hd : decode cc pc = .ok (.idiv, 1)) (hy : 0 < y) (hx : 0 ≤ x) (kk : J X G (pc + 1) ls (vI (x / y) :: st) V) : J X G pc ls (vI y :: vI x :: st) V := by
  refine j_idivT hX hd hy ?_
  rw [Int.tdiv_eq_ediv_of_nonneg hx]
  exact kk
theorem j_irem {x y : Int} (hX : Good X own cc nL fr lo) (hd : decode cc pc = .ok (.irem, 1)) (hy : 0 < y) (hx : 0 ≤ x) (kk : J X G (pc + 1) ls (vI (x % y) :: st) V) : J X G pc ls (vI y :: vI x :: st) V := by
  refine j_iremT hX hd hy ?_
  rw [Int.tmod_eq_emod_of_nonneg hx]
  exact kk
theorem j_iand {x y : Int} (hX : Good X own cc nL fr lo) (hd : decode cc pc = .ok (.iand, 1)) (kk : J X G (pc + 1) ls (vI (band 32 x y) :: st) V) : J X G pc ls (vI y :: vI x :: st) V := fun h1 h2 h3 H locs lsr hW hS hL => by
  refine lv_iand hX.1 hX.2.1 hd ?_
  rw [show Int32.ofInt x &&& Int32.ofInt y = Int32.ofInt (band 32 x y) from i32bv rfl]
  exact kk h1 (okl_cons (okI (bv32 _)) (ok2I h2).2.2) h3 H locs lsr hW hS hL
theorem j_ior {x y : Int} (hX : Good X own cc nL fr lo) (hd : decode cc pc = .ok (.ior, 1)) (kk : J X G (pc + 1) ls (vI (bor 32 x y) :: st) V) : J X G pc ls (vI y :: vI x :: st) V := fun h1 h2 h3 H locs lsr hW hS hL => by
  refine lv_ior hX.1 hX.2.1 hd ?_
  rw [show Int32.ofInt x ||| Int32.ofInt y = Int32.ofInt (bor 32 x y) from i32bv rfl]
  exact kk h1 (okl_cons (okI (bv32 _)) (ok2I h2).2.2) h3 H locs lsr hW hS hL
theorem j_ixor {x y : Int} (hX : Good X own cc nL fr lo) (hd : decode cc pc = .ok (.ixor, 1)) (kk : J X G (pc + 1) ls (vI (bxor 32 x y) :: st) V) : J X G pc ls (vI y :: vI x :: st) V := fun h1 h2 h3 H locs lsr hW hS hL => by
  refine lv_ixor hX.1 hX.2.1 hd ?_
  rw [show Int32.ofInt x ^^^ Int32.ofInt y = Int32.ofInt (bxor 32 x y) from i32bv rfl]
  exact kk h1 (okl_cons (okI (bv32 _)) (ok2I h2).2.2) h3 H locs lsr hW hS hL
theorem ne0_64 {y : Int} (hy : r64 y) (h : y ≠ 0) : ¬ Int64.ofInt y = 0 := fun q => h ((eq64 hy ⟨by decide, by decide⟩).mp q)
theorem td_64 {x y : Int} (hx : r64 x) (hy : 0 < y) : r64 (x.tdiv y) := by
  obtain ⟨a, b⟩ := hx
  have h1 : (x.tdiv y).natAbs ≤ x.natAbs := by rw [Int.natAbs_tdiv]; exact Nat.div_le_self _ _
  have h3 : 0 ≤ x → 0 ≤ x.tdiv y := fun h => Int.tdiv_nonneg h (Int.le_of_lt hy)
  have h4 : x ≤ 0 → x.tdiv y ≤ 0 := fun h => by
    rw [show x = -(-x) by omega, Int.neg_tdiv]
    have := Int.tdiv_nonneg (a := -x) (b := y) (by omega) (Int.le_of_lt hy)
    omega
  constructor <;> omega
theorem j_ldivT {x y : Int} (hX : Good X own cc nL fr lo) (hd : decode cc pc = .ok (.ldiv, 1)) (hy : 0 < y) (kk : J X G (pc + 1) ls (vL (x.tdiv y) :: st) V) : J X G pc ls (vL y :: vL x :: st) V := fun h1 h2 h3 H locs lsr hW hS hL => by
  obtain ⟨a, b, c⟩ := ok2L h2
  refine lv_ldiv hX.1 hX.2.1 hd (ne0_64 (y := y) b (by omega)) ?_
  rw [← Int64.ofInt_tdiv a.1 a.2 b.1 b.2]
  exact kk h1 (okl_cons (okL (td_64 a hy)) c) h3 H locs lsr hW hS hL
theorem j_lremT {x y : Int} (hX : Good X own cc nL fr lo) (hd : decode cc pc = .ok (.lrem, 1)) (hy : 0 < y) (kk : J X G (pc + 1) ls (vL (x.tmod y) :: st) V) : J X G pc ls (vL y :: vL x :: st) V := fun h1 h2 h3 H locs lsr hW hS hL => by
  obtain ⟨a, b, c⟩ := ok2L h2
  refine lv_lrem hX.1 hX.2.1 hd (ne0_64 (y := y) b (by omega)) ?_
  rw [tm64 a b]
  have g1 := Int.tmod_lt_of_pos x hy
  have g2 := Int.lt_tmod_of_pos x hy
  have := b.2
  exact kk h1 (okl_cons (okL ⟨by omega, by omega⟩) c) h3 H locs lsr hW hS hL
theorem j_ldiv {x y : Int} (hX : Good X own cc nL fr lo) (hd : decode cc pc = .ok (.ldiv, 1)) (hy : 0 < y) (hx : 0 ≤ x) (kk : J X G (pc + 1) ls (vL (x / y) :: st) V) : J X G pc ls (vL y :: vL x :: st) V := by
  refine j_ldivT hX hd hy ?_
  rw [Int.tdiv_eq_ediv_of_nonneg hx]
  exact kk
theorem j_lrem {x y : Int} (hX : Good X own cc nL fr lo) (hd : decode cc pc = .ok (.lrem, 1)) (hy : 0 < y) (hx : 0 ≤ x) (kk : J X G (pc + 1) ls (vL (x % y) :: st) V) : J X G pc ls (vL y :: vL x :: st) V := by
  refine j_lremT hX hd hy ?_
  rw [Int.tmod_eq_emod_of_nonneg hx]
  exact kk
theorem j_land {x y : Int} (hX : Good X own cc nL fr lo) (hd : decode cc pc = .ok (.land, 1)) (kk : J X G (pc + 1) ls (vL (band 64 x y) :: st) V) : J X G pc ls (vL y :: vL x :: st) V := fun h1 h2 h3 H locs lsr hW hS hL => by
  refine lv_land hX.1 hX.2.1 hd ?_
  rw [show Int64.ofInt x &&& Int64.ofInt y = Int64.ofInt (band 64 x y) from i64bv rfl]
  exact kk h1 (okl_cons (okL (bv64 _)) (ok2L h2).2.2) h3 H locs lsr hW hS hL
theorem j_lor {x y : Int} (hX : Good X own cc nL fr lo) (hd : decode cc pc = .ok (.lor, 1)) (kk : J X G (pc + 1) ls (vL (bor 64 x y) :: st) V) : J X G pc ls (vL y :: vL x :: st) V := fun h1 h2 h3 H locs lsr hW hS hL => by
  refine lv_lor hX.1 hX.2.1 hd ?_
  rw [show Int64.ofInt x ||| Int64.ofInt y = Int64.ofInt (bor 64 x y) from i64bv rfl]
  exact kk h1 (okl_cons (okL (bv64 _)) (ok2L h2).2.2) h3 H locs lsr hW hS hL
theorem j_lxor {x y : Int} (hX : Good X own cc nL fr lo) (hd : decode cc pc = .ok (.lxor, 1)) (kk : J X G (pc + 1) ls (vL (bxor 64 x y) :: st) V) : J X G pc ls (vL y :: vL x :: st) V := fun h1 h2 h3 H locs lsr hW hS hL => by
  refine lv_lxor hX.1 hX.2.1 hd ?_
  rw [show Int64.ofInt x ^^^ Int64.ofInt y = Int64.ofInt (bxor 64 x y) from i64bv rfl]
  exact kk h1 (okl_cons (okL (bv64 _)) (ok2L h2).2.2) h3 H locs lsr hW hS hL
/-- a shift by 0 to 31 (63) -/
theorem sh32 {y : Int} (h : 0 ≤ y ∧ y < 32) : (((Int32.ofInt y) &&& 31).toBitVec.smod 32).toNat = y.toNat := by
  obtain ⟨k, rfl⟩ : ∃ k : Nat, y = (k : Int) := ⟨y.toNat, by omega⟩
  have hk : k < 32 := by omega
  have : ∀ k : Nat, k < 32 → (((Int32.ofInt (k : Int)) &&& 31).toBitVec.smod 32).toNat = (k : Int).toNat := by decide +kernel
  exact this k hk
theorem sh64 {y : Int} (h : 0 ≤ y ∧ y < 64) : (((Int32.ofInt y).toInt64 &&& 63).toBitVec.smod 64).toNat = y.toNat := by
  obtain ⟨k, rfl⟩ : ∃ k : Nat, y = (k : Int) := ⟨y.toNat, by omega⟩
  have hk : k < 64 := by omega
  have : ∀ k : Nat, k < 64 → (((Int32.ofInt (k : Int)).toInt64 &&& 63).toBitVec.smod 64).toNat = (k : Int).toNat := by decide +kernel
  exact this k hk
theorem shl32 {x y : Int} (h : 0 ≤ y ∧ y < 32) (hx : r32 x) (ho : -2147483648 ≤ x * 2 ^ y.toNat ∧ x * 2 ^ y.toNat ≤ 2147483647) : Int32.ofInt x <<< (Int32.ofInt y &&& 31) = Int32.ofInt (x * 2 ^ y.toNat) := by
  refine i32b ?_
  show (Int32.ofInt x <<< (Int32.ofInt y &&& 31)).toBitVec.toInt = _
  rw [Int32.toBitVec_shiftLeft, BitVec.shiftLeft_eq', BitVec.toInt_shiftLeft, sh32 h]
  have e : ((Int32.ofInt x).toBitVec.toNat : Int).bmod (2 ^ 32) = x := by
    have := i32v hx
    rw [← BitVec.toInt_eq_toNat_bmod]
    exact this
  rw [Nat.shiftLeft_eq, ← Int.bmod_eq_of_le (n := x * 2 ^ y.toNat) (m := 2 ^ 32) (by omega) (by omega)]
  push_cast
  rw [← Int.bmod_mul_bmod, e]
theorem shl64 {x y : Int} (h : 0 ≤ y ∧ y < 64) (hx : r64 x) (ho : -9223372036854775808 ≤ x * 2 ^ y.toNat ∧ x * 2 ^ y.toNat ≤ 9223372036854775807) : Int64.ofInt x <<< ((Int32.ofInt y).toInt64 &&& 63) = Int64.ofInt (x * 2 ^ y.toNat) := by
  refine i64b ?_
  show (Int64.ofInt x <<< ((Int32.ofInt y).toInt64 &&& 63)).toBitVec.toInt = _
  rw [Int64.toBitVec_shiftLeft, BitVec.shiftLeft_eq', BitVec.toInt_shiftLeft, sh64 h]
  have e : ((Int64.ofInt x).toBitVec.toNat : Int).bmod (2 ^ 64) = x := by
    have := i64v hx
    rw [← BitVec.toInt_eq_toNat_bmod]
    exact this
  rw [Nat.shiftLeft_eq, ← Int.bmod_eq_of_le (n := x * 2 ^ y.toNat) (m := 2 ^ 64) (by omega) (by omega)]
  push_cast
  rw [← Int.bmod_mul_bmod, e]
theorem shr32 {x y : Int} (h : 0 ≤ y ∧ y < 32) (hx : r32 x) : Int32.ofInt x >>> (Int32.ofInt y &&& 31) = Int32.ofInt (x / 2 ^ y.toNat) := by
  refine i32b ?_
  rw [pk_shr _ _ y.toNat (sh32 h), i32v hx, Int.shiftRight_eq_div_pow]
  rfl
theorem shr64 {x y : Int} (h : 0 ≤ y ∧ y < 64) (hx : r64 x) : Int64.ofInt x >>> ((Int32.ofInt y).toInt64 &&& 63) = Int64.ofInt (x / 2 ^ y.toNat) := by
  refine i64b ?_
  show (Int64.ofInt x >>> ((Int32.ofInt y).toInt64 &&& 63)).toBitVec.toInt = _
  rw [show (Int64.ofInt x >>> ((Int32.ofInt y).toInt64 &&& 63)).toBitVec = BitVec.sshiftRight' (Int64.ofInt x).toBitVec (((Int32.ofInt y).toInt64 &&& 63).toBitVec.smod 64) from rfl, BitVec.sshiftRight', BitVec.toInt_sshiftRight, sh64 h]
  rw [show (Int64.ofInt x).toBitVec.toInt = x from i64v hx, Int.shiftRight_eq_div_pow]
  rfl
theorem dv32 {x : Int} {n : Nat} (hx : r32 x) : r32 (x / 2 ^ n) := by
  have h0 : (0 : Int) < 2 ^ n := Int.pow_pos (by decide)
  have h1 := hx.1; have h2 := hx.2
  generalize (2 : Int) ^ n = p at h0 ⊢
  refine ⟨(Int.le_ediv_iff_mul_le h0).mpr (by omega), ?_⟩
  have : x / p < 2147483648 := Int.ediv_lt_of_lt_mul h0 (by omega)
  omega
theorem dv64 {x : Int} {n : Nat} (hx : r64 x) : r64 (x / 2 ^ n) := by
  have h0 : (0 : Int) < 2 ^ n := Int.pow_pos (by decide)
  have h1 := hx.1; have h2 := hx.2
  generalize (2 : Int) ^ n = p at h0 ⊢
  refine ⟨(Int.le_ediv_iff_mul_le h0).mpr (by omega), ?_⟩
  have : x / p < 9223372036854775808 := Int.ediv_lt_of_lt_mul h0 (by omega)
  omega
theorem j_ishl {x y : Int} (hX : Good X own cc nL fr lo) (hd : decode cc pc = .ok (.ishl, 1)) (hy : 0 ≤ y ∧ y < 32) (ho : -2147483648 ≤ x * 2 ^ y.toNat ∧ x * 2 ^ y.toNat ≤ 2147483647) (kk : J X G (pc + 1) ls (vI (x * 2 ^ y.toNat) :: st) V) : J X G pc ls (vI y :: vI x :: st) V := fun h1 h2 h3 H locs lsr hW hS hL => by
  refine lv_ishl hX.1 hX.2.1 hd ?_
  rw [shl32 hy (ok2I h2).1 ho]
  exact kk h1 (okl_cons (okI ho) (ok2I h2).2.2) h3 H locs lsr hW hS hL
theorem j_ishr {x y : Int} (hX : Good X own cc nL fr lo) (hd : decode cc pc = .ok (.ishr, 1)) (hy : 0 ≤ y ∧ y < 32) (kk : J X G (pc + 1) ls (vI (x / 2 ^ y.toNat) :: st) V) : J X G pc ls (vI y :: vI x :: st) V := fun h1 h2 h3 H locs lsr hW hS hL => by
  refine lv_ishr hX.1 hX.2.1 hd ?_
  rw [shr32 hy (ok2I h2).1]
  exact kk h1 (okl_cons (okI (dv32 (ok2I h2).1)) (ok2I h2).2.2) h3 H locs lsr hW hS hL
theorem j_lshl {x y : Int} (hX : Good X own cc nL fr lo) (hd : decode cc pc = .ok (.lshl, 1)) (hy : 0 ≤ y ∧ y < 64) (ho : -9223372036854775808 ≤ x * 2 ^ y.toNat ∧ x * 2 ^ y.toNat ≤ 9223372036854775807) (kk : J X G (pc + 1) ls (vL (x * 2 ^ y.toNat) :: st) V) : J X G pc ls (vI y :: vL x :: st) V := fun h1 h2 h3 H locs lsr hW hS hL =>
  lv_lshl hX.1 hX.2.1 hd (shl64 hy (okLr (okl_hd (okl_tl h2))) ho) (kk h1 (okl_cons (okL ho) (okl_tl (okl_tl h2))) h3 H locs lsr hW hS hL)
theorem j_lshr {x y : Int} (hX : Good X own cc nL fr lo) (hd : decode cc pc = .ok (.lshr, 1)) (hy : 0 ≤ y ∧ y < 64) (kk : J X G (pc + 1) ls (vL (x / 2 ^ y.toNat) :: st) V) : J X G pc ls (vI y :: vL x :: st) V := fun h1 h2 h3 H locs lsr hW hS hL =>
  lv_lshr hX.1 hX.2.1 hd (shr64 hy (okLr (okl_hd (okl_tl h2)))) (kk h1 (okl_cons (okL (dv64 (okLr (okl_hd (okl_tl h2))))) (okl_tl (okl_tl h2))) h3 H locs lsr hW hS hL)
theorem j_i2l {x : Int} (hX : Good X own cc nL fr lo) (hd : decode cc pc = .ok (.i2l, 1)) (kk : J X G (pc + 1) ls (vL x :: st) V) : J X G pc ls (vI x :: st) V := fun h1 h2 h3 H locs lsr hW hS hL => by
  have h := okIr (okl_hd h2)
  have h6 : r64 x := ⟨by have := h.1; omega, by have := h.2; omega⟩
  exact lv_i2l hX.1 hX.2.1 hd (i64b (by rw [Int32.toInt_toInt64, i32v h])) (kk h1 (okl_cons (okL h6) (okl_tl h2)) h3 H locs lsr hW hS hL)
theorem j_dup {v : MV} (hX : Good X own cc nL fr lo) (hd : decode cc pc = .ok (.dup, 1)) (hc : c1 v = true) (kk : J X G (pc + 1) ls (v :: v :: st) V) : J X G pc ls (v :: st) V := fun h1 h2 h3 H locs lsr hW hS hL =>
  lv_dup hX.1 hX.2.1 hd (c1_cat (cY X) hc) (kk h1 (okl_cons (okl_hd h2) h2) h3 H locs lsr hW hS hL)
theorem j_pop {v : MV} (hX : Good X own cc nL fr lo) (hd : decode cc pc = .ok (.pop, 1)) (hc : c1 v = true) (kk : J X G (pc + 1) ls st V) : J X G pc ls (v :: st) V := fun h1 h2 h3 H locs lsr hW hS hL =>
  lv_pop hX.1 hX.2.1 hd (c1_cat (cY X) hc) (kk h1 (okl_tl h2) h3 H locs lsr hW hS hL)
theorem j_dup2 {v w : MV} (hX : Good X own cc nL fr lo) (hd : decode cc pc = .ok (.dup2, 1)) (hc : c1 v = true) (hc2 : c1 w = true) (kk : J X G (pc + 1) ls (v :: w :: v :: w :: st) V) : J X G pc ls (v :: w :: st) V := fun h1 h2 h3 H locs lsr hW hS hL =>
  lv_dup2_11 hX.1 hX.2.1 hd (c1_cat (cY X) hc) (c1_cat (cY X) hc2) (kk h1 (okl_cons (okl_hd h2) (okl_cons (okl_hd (okl_tl h2)) h2)) h3 H locs lsr hW hS hL)
theorem j_goto {off : Int} {tgt : Nat} (hX : Good X own cc nL fr lo) (hd : decode cc pc = .ok (.goto off, 3)) (ht : (pc : Int) + off = (tgt : Int)) (kk : J X G tgt ls st V) : J X G pc ls st V := fun h1 h2 h3 H locs lsr hW hS hL =>
  lv_goto hX.1 hX.2.1 hd ht (kk h1 h2 h3 H locs lsr hW hS hL)
theorem j_icmp_eq {x y : Int} {off : Int} {tgt : Nat} (hX : Good X own cc nL fr lo) (hd : decode cc pc = .ok (.if_icmp .eq off, 3)) (ht : (pc : Int) + off = (tgt : Int)) (kt : x = y → J X G tgt ls st V) (kf : ¬ x = y → J X G (pc + 3) ls st V) : J X G pc ls (vI y :: vI x :: st) V := fun h1 h2 h3 H locs lsr hW hS hL => by
  obtain ⟨a, b, c⟩ := ok2I h2
  exact lv_icmp_eq hX.1 hX.2.1 hd ht (fun q => kt ((eq32 a b).mp q) h1 c h3 H locs lsr hW hS hL) (fun q => kf (fun z => q ((eq32 a b).mpr z)) h1 c h3 H locs lsr hW hS hL)
theorem j_if_eq {x : Int} {off : Int} {tgt : Nat} (hX : Good X own cc nL fr lo) (hd : decode cc pc = .ok (.ifCond .eq off, 3)) (ht : (pc : Int) + off = (tgt : Int)) (kt : x = 0 → J X G tgt ls st V) (kf : ¬ x = 0 → J X G (pc + 3) ls st V) : J X G pc ls (vI x :: st) V := fun h1 h2 h3 H locs lsr hW hS hL => by
  have a := okIr (okl_hd h2)
  have c := okl_tl h2
  exact lv_if_eq hX.1 hX.2.1 hd ht (fun q => kt ((eq32 a r32_0).mp q) h1 c h3 H locs lsr hW hS hL) (fun q => kf (fun z => q ((eq32 a r32_0).mpr z)) h1 c h3 H locs lsr hW hS hL)
theorem j_icmp_ne {x y : Int} {off : Int} {tgt : Nat} (hX : Good X own cc nL fr lo) (hd : decode cc pc = .ok (.if_icmp .ne off, 3)) (ht : (pc : Int) + off = (tgt : Int)) (kt : ¬ x = y → J X G tgt ls st V) (kf : x = y → J X G (pc + 3) ls st V) : J X G pc ls (vI y :: vI x :: st) V := fun h1 h2 h3 H locs lsr hW hS hL => by
  obtain ⟨a, b, c⟩ := ok2I h2
  exact lv_icmp_ne hX.1 hX.2.1 hd ht (fun q => kt (fun z => q ((eq32 a b).mpr z)) h1 c h3 H locs lsr hW hS hL) (fun q => kf ((eq32 a b).mp q) h1 c h3 H locs lsr hW hS hL)
theorem j_if_ne {x : Int} {off : Int} {tgt : Nat} (hX : Good X own cc nL fr lo) (hd : decode cc pc = .ok (.ifCond .ne off, 3)) (ht : (pc : Int) + off = (tgt : Int)) (kt : ¬ x = 0 → J X G tgt ls st V) (kf : x = 0 → J X G (pc + 3) ls st V) : J X G pc ls (vI x :: st) V := fun h1 h2 h3 H locs lsr hW hS hL => by
  have a := okIr (okl_hd h2)
  have c := okl_tl h2
  exact lv_if_ne hX.1 hX.2.1 hd ht (fun q => kt (fun z => q ((eq32 a r32_0).mpr z)) h1 c h3 H locs lsr hW hS hL) (fun q => kf ((eq32 a r32_0).mp q) h1 c h3 H locs lsr hW hS hL)
theorem j_icmp_lt {x y : Int} {off : Int} {tgt : Nat} (hX : Good X own cc nL fr lo) (hd : decode cc pc = .ok (.if_icmp .lt off, 3)) (ht : (pc : Int) + off = (tgt : Int)) (kt : x < y → J X G tgt ls st V) (kf : ¬ x < y → J X G (pc + 3) ls st V) : J X G pc ls (vI y :: vI x :: st) V := fun h1 h2 h3 H locs lsr hW hS hL => by
  obtain ⟨a, b, c⟩ := ok2I h2
  exact lv_icmp_lt hX.1 hX.2.1 hd ht (fun q => kt ((lt32 a b).mp q) h1 c h3 H locs lsr hW hS hL) (fun q => kf (fun z => q ((lt32 a b).mpr z)) h1 c h3 H locs lsr hW hS hL)
theorem j_if_lt {x : Int} {off : Int} {tgt : Nat} (hX : Good X own cc nL fr lo) (hd : decode cc pc = .ok (.ifCond .lt off, 3)) (ht : (pc : Int) + off = (tgt : Int)) (kt : x < 0 → J X G tgt ls st V) (kf : ¬ x < 0 → J X G (pc + 3) ls st V) : J X G pc ls (vI x :: st) V := fun h1 h2 h3 H locs lsr hW hS hL => by
  have a := okIr (okl_hd h2)
  have c := okl_tl h2
  exact lv_if_lt hX.1 hX.2.1 hd ht (fun q => kt ((lt32 a r32_0).mp q) h1 c h3 H locs lsr hW hS hL) (fun q => kf (fun z => q ((lt32 a r32_0).mpr z)) h1 c h3 H locs lsr hW hS hL)
theorem j_icmp_ge {x y : Int} {off : Int} {tgt : Nat} (hX : Good X own cc nL fr lo) (hd : decode cc pc = .ok (.if_icmp .ge off, 3)) (ht : (pc : Int) + off = (tgt : Int)) (kt : y ≤ x → J X G tgt ls st V) (kf : ¬ y ≤ x → J X G (pc + 3) ls st V) : J X G pc ls (vI y :: vI x :: st) V := fun h1 h2 h3 H locs lsr hW hS hL => by
  obtain ⟨a, b, c⟩ := ok2I h2
  exact lv_icmp_ge hX.1 hX.2.1 hd ht (fun q => kt ((le32 b a).mp q) h1 c h3 H locs lsr hW hS hL) (fun q => kf (fun z => q ((le32 b a).mpr z)) h1 c h3 H locs lsr hW hS hL)
theorem j_if_ge {x : Int} {off : Int} {tgt : Nat} (hX : Good X own cc nL fr lo) (hd : decode cc pc = .ok (.ifCond .ge off, 3)) (ht : (pc : Int) + off = (tgt : Int)) (kt : 0 ≤ x → J X G tgt ls st V) (kf : ¬ 0 ≤ x → J X G (pc + 3) ls st V) : J X G pc ls (vI x :: st) V := fun h1 h2 h3 H locs lsr hW hS hL => by
  have a := okIr (okl_hd h2)
  have c := okl_tl h2
  exact lv_if_ge hX.1 hX.2.1 hd ht (fun q => kt ((le32 r32_0 a).mp q) h1 c h3 H locs lsr hW hS hL) (fun q => kf (fun z => q ((le32 r32_0 a).mpr z)) h1 c h3 H locs lsr hW hS hL)
theorem j_icmp_gt {x y : Int} {off : Int} {tgt : Nat} (hX : Good X own cc nL fr lo) (hd : decode cc pc = .ok (.if_icmp .gt off, 3)) (ht : (pc : Int) + off = (tgt : Int)) (kt : y < x → J X G tgt ls st V) (kf : ¬ y < x → J X G (pc + 3) ls st V) : J X G pc ls (vI y :: vI x :: st) V := fun h1 h2 h3 H locs lsr hW hS hL => by
  obtain ⟨a, b, c⟩ := ok2I h2
  exact lv_icmp_gt hX.1 hX.2.1 hd ht (fun q => kt ((lt32 b a).mp q) h1 c h3 H locs lsr hW hS hL) (fun q => kf (fun z => q ((lt32 b a).mpr z)) h1 c h3 H locs lsr hW hS hL)
theorem j_if_gt {x : Int} {off : Int} {tgt : Nat} (hX : Good X own cc nL fr lo) (hd : decode cc pc = .ok (.ifCond .gt off, 3)) (ht : (pc : Int) + off = (tgt : Int)) (kt : 0 < x → J X G tgt ls st V) (kf : ¬ 0 < x → J X G (pc + 3) ls st V) : J X G pc ls (vI x :: st) V := fun h1 h2 h3 H locs lsr hW hS hL => by
  have a := okIr (okl_hd h2)
  have c := okl_tl h2
  exact lv_if_gt hX.1 hX.2.1 hd ht (fun q => kt ((lt32 r32_0 a).mp q) h1 c h3 H locs lsr hW hS hL) (fun q => kf (fun z => q ((lt32 r32_0 a).mpr z)) h1 c h3 H locs lsr hW hS hL)
theorem j_icmp_le {x y : Int} {off : Int} {tgt : Nat} (hX : Good X own cc nL fr lo) (hd : decode cc pc = .ok (.if_icmp .le off, 3)) (ht : (pc : Int) + off = (tgt : Int)) (kt : x ≤ y → J X G tgt ls st V) (kf : ¬ x ≤ y → J X G (pc + 3) ls st V) : J X G pc ls (vI y :: vI x :: st) V := fun h1 h2 h3 H locs lsr hW hS hL => by
  obtain ⟨a, b, c⟩ := ok2I h2
  exact lv_icmp_le hX.1 hX.2.1 hd ht (fun q => kt ((le32 a b).mp q) h1 c h3 H locs lsr hW hS hL) (fun q => kf (fun z => q ((le32 a b).mpr z)) h1 c h3 H locs lsr hW hS hL)
theorem j_if_le {x : Int} {off : Int} {tgt : Nat} (hX : Good X own cc nL fr lo) (hd : decode cc pc = .ok (.ifCond .le off, 3)) (ht : (pc : Int) + off = (tgt : Int)) (kt : x ≤ 0 → J X G tgt ls st V) (kf : ¬ x ≤ 0 → J X G (pc + 3) ls st V) : J X G pc ls (vI x :: st) V := fun h1 h2 h3 H locs lsr hW hS hL => by
  have a := okIr (okl_hd h2)
  have c := okl_tl h2
  exact lv_if_le hX.1 hX.2.1 hd ht (fun q => kt ((le32 a r32_0).mp q) h1 c h3 H locs lsr hW hS hL) (fun q => kf (fun z => q ((le32 a r32_0).mpr z)) h1 c h3 H locs lsr hW hS hL)
/-- how two long numbers stand -/
def cmpI (x y : Int) : Int := if x < y then -1 else if x = y then 0 else 1
theorem j_lcmp {x y : Int} (hX : Good X own cc nL fr lo) (hd : decode cc pc = .ok (.lcmp, 1)) (kk : J X G (pc + 1) ls (vI (cmpI x y) :: st) V) : J X G pc ls (vL y :: vL x :: st) V := fun h1 h2 h3 H locs lsr hW hS hL => by
  obtain ⟨a, b, c⟩ := ok2L h2
  refine W.lcmp hX.1 hX.2.1 hd ?_
  have e : lg_cmp (Int64.ofInt x) (Int64.ofInt y) = Int32.ofInt (cmpI x y) := by
    unfold lg_cmp cmpI
    simp only [gt_iff_lt, lt64 b a, eq64 a b]
    by_cases h : y < x
    · rw [if_pos h, if_neg (by omega), if_neg (by omega)]; rfl
    · rw [if_neg h]
      by_cases h' : x = y
      · rw [if_pos h', if_neg (by omega), if_pos h']; rfl
      · rw [if_neg h', if_pos (by omega)]; rfl
  rw [e]
  refine kk h1 (okl_cons (okI ?_) c) h3 H locs lsr hW hS hL
  unfold cmpI
  split
  · exact ⟨by decide, by decide⟩
  · split <;> exact ⟨by decide, by decide⟩
theorem j_lcmp_eq {x y : Int} {off : Int} {tgt : Nat} (hX : Good X own cc nL fr lo) (hd : decode cc pc = .ok (.lcmp, 1)) (hd2 : decode cc (pc + 1) = .ok (.ifCond .eq off, 3)) (ht : ((pc + 1 : Nat) : Int) + off = (tgt : Int)) (kt : x = y → J X G tgt ls st V) (kf : ¬ x = y → J X G (pc + 1 + 3) ls st V) : J X G pc ls (vL y :: vL x :: st) V := by
  refine j_lcmp hX hd (j_if_eq hX hd2 ht (fun q => kt ?_) (fun q => kf ?_)) <;> (unfold cmpI at q; split at q <;> (try split at q) <;> omega)
theorem j_lcmp_ne {x y : Int} {off : Int} {tgt : Nat} (hX : Good X own cc nL fr lo) (hd : decode cc pc = .ok (.lcmp, 1)) (hd2 : decode cc (pc + 1) = .ok (.ifCond .ne off, 3)) (ht : ((pc + 1 : Nat) : Int) + off = (tgt : Int)) (kt : ¬ x = y → J X G tgt ls st V) (kf : x = y → J X G (pc + 1 + 3) ls st V) : J X G pc ls (vL y :: vL x :: st) V := by
  refine j_lcmp hX hd (j_if_ne hX hd2 ht (fun q => kt ?_) (fun q => kf ?_)) <;> (unfold cmpI at q; split at q <;> (try split at q) <;> omega)
theorem j_lcmp_lt {x y : Int} {off : Int} {tgt : Nat} (hX : Good X own cc nL fr lo) (hd : decode cc pc = .ok (.lcmp, 1)) (hd2 : decode cc (pc + 1) = .ok (.ifCond .lt off, 3)) (ht : ((pc + 1 : Nat) : Int) + off = (tgt : Int)) (kt : x < y → J X G tgt ls st V) (kf : ¬ x < y → J X G (pc + 1 + 3) ls st V) : J X G pc ls (vL y :: vL x :: st) V := by
  refine j_lcmp hX hd (j_if_lt hX hd2 ht (fun q => kt ?_) (fun q => kf ?_)) <;> (unfold cmpI at q; split at q <;> (try split at q) <;> omega)
theorem j_lcmp_ge {x y : Int} {off : Int} {tgt : Nat} (hX : Good X own cc nL fr lo) (hd : decode cc pc = .ok (.lcmp, 1)) (hd2 : decode cc (pc + 1) = .ok (.ifCond .ge off, 3)) (ht : ((pc + 1 : Nat) : Int) + off = (tgt : Int)) (kt : y ≤ x → J X G tgt ls st V) (kf : ¬ y ≤ x → J X G (pc + 1 + 3) ls st V) : J X G pc ls (vL y :: vL x :: st) V := by
  refine j_lcmp hX hd (j_if_ge hX hd2 ht (fun q => kt ?_) (fun q => kf ?_)) <;> (unfold cmpI at q; split at q <;> (try split at q) <;> omega)
theorem j_lcmp_gt {x y : Int} {off : Int} {tgt : Nat} (hX : Good X own cc nL fr lo) (hd : decode cc pc = .ok (.lcmp, 1)) (hd2 : decode cc (pc + 1) = .ok (.ifCond .gt off, 3)) (ht : ((pc + 1 : Nat) : Int) + off = (tgt : Int)) (kt : y < x → J X G tgt ls st V) (kf : ¬ y < x → J X G (pc + 1 + 3) ls st V) : J X G pc ls (vL y :: vL x :: st) V := by
  refine j_lcmp hX hd (j_if_gt hX hd2 ht (fun q => kt ?_) (fun q => kf ?_)) <;> (unfold cmpI at q; split at q <;> (try split at q) <;> omega)
theorem j_lcmp_le {x y : Int} {off : Int} {tgt : Nat} (hX : Good X own cc nL fr lo) (hd : decode cc pc = .ok (.lcmp, 1)) (hd2 : decode cc (pc + 1) = .ok (.ifCond .le off, 3)) (ht : ((pc + 1 : Nat) : Int) + off = (tgt : Int)) (kt : x ≤ y → J X G tgt ls st V) (kf : ¬ x ≤ y → J X G (pc + 1 + 3) ls st V) : J X G pc ls (vL y :: vL x :: st) V := by
  refine j_lcmp hX hd (j_if_le hX hd2 ht (fun q => kt ?_) (fun q => kf ?_)) <;> (unfold cmpI at q; split at q <;> (try split at q) <;> omega)
end ARITH
