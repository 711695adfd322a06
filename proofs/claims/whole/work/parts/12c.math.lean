/-! plain facts about numbers -/
theorem pwS (b : Int) {k : Int} (h : 0 ≤ k) : b ^ (k + 1).toNat = b ^ k.toNat * b := by
  rw [show (k + 1).toNat = k.toNat + 1 by omega, Int.pow_succ]
theorem pw_le {b : Int} (hb : 1 ≤ b ∧ b ≤ 10) : ∀ n : Nat, n ≤ 8 → 1 ≤ b ^ n ∧ b ^ n ≤ 10 ^ n
  | 0, _ => by simp
  | n + 1, h => by
    have ih := pw_le hb n (by omega)
    rw [Int.pow_succ, Int.pow_succ]
    refine ⟨?_, ?_⟩
    · have := Int.mul_le_mul ih.1 hb.1 (by omega) (by omega)
      omega
    · exact Int.mul_le_mul ih.2 hb.2 (by omega) (by omega)
theorem pw_7 {b : Int} (hb : 1 ≤ b ∧ b ≤ 10) {n : Nat} (h : n ≤ 8) : 1 ≤ b ^ n ∧ b ^ n ≤ 100000000 := by
  have h1 := pw_le hb n h
  have h2 : ∀ n : Nat, n ≤ 8 → (10 : Int) ^ n ≤ 100000000 := by decide
  exact ⟨h1.1, Int.le_trans h1.2 (h2 n h)⟩
theorem p2le {n m : Nat} (h : n ≤ m) : (2 : Int) ^ n ≤ 2 ^ m := by exact_mod_cast Nat.pow_le_pow_right (n := 2) (by decide) h
theorem p2pos (n : Nat) : (0 : Int) < 2 ^ n := Int.pow_pos (by decide)
theorem p2_30 {y : Int} (h : 0 ≤ y ∧ y < 31) : -2147483648 ≤ 1 * (2 : Int) ^ y.toNat ∧ 1 * (2 : Int) ^ y.toNat ≤ 2147483647 := by
  have h1 := p2le (show y.toNat ≤ 30 by omega)
  have h2 := p2pos y.toNat
  have h3 : (2 : Int) ^ 30 = 1073741824 := by decide
  omega
theorem p2_62 {y : Int} (h : 0 ≤ y ∧ y < 63) : -9223372036854775808 ≤ 1 * (2 : Int) ^ y.toNat ∧ 1 * (2 : Int) ^ y.toNat ≤ 9223372036854775807 := by
  have h1 := p2le (show y.toNat ≤ 62 by omega)
  have h2 := p2pos y.toNat
  have h3 : (2 : Int) ^ 62 = 4611686018427387904 := by decide
  omega
/-- the sign of x ^ y, for a positive y -/
theorem neg_bt {x : Int} (hx : r32 x) : x < 0 ↔ bt 32 x 31 = true := by
  have h : (BitVec.ofInt 32 x).toInt < 0 ↔ (BitVec.ofInt 32 x).msb = true := by rw [BitVec.toInt_neg_iff, BitVec.msb_eq_true_iff_two_mul_ge]
  rw [of32 hx, BitVec.msb_eq_getLsbD_last] at h
  exact h
theorem xor_neg {x y : Int} (hx : r32 x) (hy : r32 y) (h0 : 0 < y) : bxor 32 x y < 0 ↔ x < 0 := by
  rw [neg_bt (x := bxor 32 x y) (bv32 _), bt_xor, neg_bt hx]
  have h1 : bt 32 y 31 = false := by
    have := (neg_bt hy)
    cases h : bt 32 y 31
    · rfl
    · have := this.mpr h; omega
  rw [h1, Bool.xor_false]
theorem tm_em (a : Int) {b : Int} (hb : 0 < b) : (0 ≤ a → a.tmod b = a % b) ∧ (a < 0 → (a.tmod b = 0 → a % b = 0) ∧ (a.tmod b ≠ 0 → a % b = a.tmod b + b)) ∧ (-b < a.tmod b ∧ a.tmod b < b) := by
  refine ⟨fun h => Int.tmod_eq_emod_of_nonneg h, fun h => ?_, Int.lt_tmod_of_pos a hb, Int.tmod_lt_of_pos a hb⟩
  have e := Int.tmod_eq_emod (a := a) (b := b)
  have h1 := Int.emod_nonneg a (show b ≠ 0 by omega)
  have h2 := Int.emod_lt_of_pos a hb
  by_cases hd : b ∣ a
  · have := Int.emod_eq_zero_of_dvd hd
    rw [if_pos (Or.inr hd)] at e
    constructor <;> intro <;> omega
  · rw [if_neg (by intro q; rcases q with q | q; omega; exact hd q)] at e
    have : a % b ≠ 0 := fun q => hd (Int.dvd_of_emod_eq_zero q)
    have hn : (b.natAbs : Int) = b := by omega
    constructor <;> intro <;> omega
/-- the least bit of a set, 0 for none -/
def leastB (s : Int) : Int := (((List.range 64).find? (fun i => bt 64 s i)).getD 0 : Nat)
theorem leastB_of {s : Int} {k : Nat} (hk : k < 64) (h : bt 64 s k = true) (hn : ∀ j : Nat, j < k → bt 64 s j = false) : leastB s = k := by
  unfold leastB
  have : (List.range 64).find? (fun i => bt 64 s i) = some k := by
    rw [List.find?_eq_some_iff_getElem]
    exact ⟨h, k, by simpa using hk, by simp, fun j hj => by simp [hn j hj]⟩
  rw [this]
  rfl
theorem leastB_no {s : Int} (hn : ∀ j : Nat, j < 64 → bt 64 s j = false) : leastB s = 0 := by
  unfold leastB
  have : (List.range 64).find? (fun i => bt 64 s i) = none := by
    rw [List.find?_eq_none]
    intro x hx
    simp [hn x (by simpa using hx)]
  rw [this]
  rfl
/-- a row's numbers are all one number up to a place -/
def fillV (V : VV) (k n x : Int) : VV := fun a b => if a = k ∧ 0 ≤ b ∧ b < n then x else V a b
theorem fill_0 (V : VV) (k x : Int) : fillV V k 0 x = V := by
  funext a b
  unfold fillV
  rw [if_neg (by omega)]
theorem fill_S (V : VV) (k x : Int) {n : Int} (h : 0 ≤ n) : up (fillV V k n x) k n x = fillV V k (n + 1) x := by
  funext a b
  unfold up fillV
  by_cases ha : a = k <;> by_cases h1 : b = n <;> by_cases h2 : 0 ≤ b <;> by_cases h3 : b < n <;> simp [ha, h1, h2, h3] <;> omega
theorem lt_step {P : Nat → Prop} {z : Int} (h : ∀ j : Nat, (j : Int) < z → P j) (hz : 0 ≤ z) (hp : P z.toNat) : ∀ j : Nat, (j : Int) < z + 1 → P j := fun j hj => by
  by_cases e : (j : Int) < z
  · exact h j e
  · rw [show j = z.toNat by omega]
    exact hp
theorem lt_stepI {P : Int → Prop} {z : Int} (h : ∀ j : Int, 0 ≤ j → j < z → P j) (hp : P z) : ∀ j : Int, 0 ≤ j → j < z + 1 → P j := fun j h0 hj => by
  by_cases e : j < z
  · exact h j h0 e
  · rw [show j = z by omega]
    exact hp
