/-! the few doubles -/
theorem fp_id : ∀ a : Nat, a < 17 → FP.ddiv (FP.i2d (Int32.ofInt (a : Int))) (FP.i2d (Int32.ofInt 1)) = FP.i2d (Int32.ofInt (a : Int)) := by decide +kernel
theorem fp_nn : ∀ a : Nat, a < 17 → ∀ n : Nat, n < 17 → 1 ≤ n → vf_n64 (FP.ddiv (FP.i2d (Int32.ofInt (a : Int))) (FP.i2d (Int32.ofInt (n : Int)))) := by
  have h : ∀ a : Nat, a < 17 → ∀ n : Nat, n < 17 → 1 ≤ n → (FP.ddiv (FP.i2d (Int32.ofInt (a : Int))) (FP.i2d (Int32.ofInt (n : Int)))) &&& 0x7fffffffffffffff ≤ 0x7ff0000000000000 := by decide +kernel
  exact h
theorem dcode_1 {a : Int} (h : 0 ≤ a ∧ a ≤ 16) : dcode (32 * a + 1) = FP.i2d (Int32.ofInt a) := by
  have := fp_id a.toNat (by omega)
  rw [show ((a.toNat : Nat) : Int) = a by omega] at this
  unfold dcode
  rw [show (32 * a + 1) / 32 = a by omega, show (32 * a + 1) % 32 = 1 by omega]
  exact this
section DBL
variable {X : Cx} {own : String} {cc : ByteArray} {nL fr lo nx : Nat} {G : GS} {pc : Nat} {ls st : List MV} {V : VV}
theorem j_i2d {x : Int} (hX : Good X own cc nL fr lo) (hd : decode cc pc = .ok (.i2d, 1)) (ho : 0 ≤ x ∧ x ≤ 16) (kk : J X G (pc + 1) ls (vD (32 * x + 1) :: st) V) : J X G pc ls (vI x :: st) V := fun h1 h2 h3 H locs lsr hW hS hL => by
  have := kk h1 (okl_cons (okO (by decide) (by decide)) (okl_tl h2)) h3 H locs lsr hW hS hL
  refine lv_i2d hX.1 hX.2.1 hd ?_
  have e : mvv (cY X) (vD (32 * x + 1)) = .double (FP.i2d (Int32.ofInt x)) := by show Value.double (dcode (32 * x + 1)) = _; rw [dcode_1 ho]
  rw [List.map_cons, e] at this
  exact this
theorem j_ddiv {a n : Int} (hX : Good X own cc nL fr lo) (hd : decode cc pc = .ok (.ddiv, 1)) (ho : (0 ≤ a ∧ a ≤ 16) ∧ 1 ≤ n ∧ n ≤ 16) (kk : J X G (pc + 1) ls (vD (32 * a + n) :: st) V) : J X G pc ls (vD (32 * n + 1) :: vD (32 * a + 1) :: st) V := fun h1 h2 h3 H locs lsr hW hS hL => by
  have := kk h1 (okl_cons (okO (by decide) (by decide)) (okl_tl (okl_tl h2))) h3 H locs lsr hW hS hL
  have e : mvv (cY X) (vD (32 * a + n)) = .double (FP.ddiv (FP.i2d (Int32.ofInt a)) (FP.i2d (Int32.ofInt n))) := by
    show Value.double (dcode (32 * a + n)) = _
    unfold dcode
    rw [show (32 * a + n) / 32 = a by omega, show (32 * a + n) % 32 = n by omega]
  have ea : mvv (cY X) (vD (32 * a + 1)) = .double (FP.i2d (Int32.ofInt a)) := by show Value.double (dcode (32 * a + 1)) = _; rw [dcode_1 (by omega)]
  have en : mvv (cY X) (vD (32 * n + 1)) = .double (FP.i2d (Int32.ofInt n)) := by show Value.double (dcode (32 * n + 1)) = _; rw [dcode_1 (by omega)]
  rw [List.map_cons, e] at this
  rw [List.map_cons, List.map_cons, ea, en]
  have hn := fp_nn a.toNat (by omega) n.toNat (by omega) (by omega)
  rw [show ((a.toNat : Nat) : Int) = a by omega, show ((n.toNat : Nat) : Int) = n by omega] at hn
  exact lv_ddiv hX.1 hX.2.1 hd hn this
end DBL
