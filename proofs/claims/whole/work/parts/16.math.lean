/-- how many of 0 .. n - 1 have a property -/
def cntI (p : Int → Bool) : Nat → Int
  | 0 => 0
  | n + 1 => cntI p n + (if p n then 1 else 0)
theorem cntI_S {p : Int → Bool} {k : Int} (h : 0 ≤ k) : cntI p (k + 1).toNat = cntI p k.toNat + (if p k then 1 else 0) := by
  rw [show (k + 1).toNat = k.toNat + 1 by omega]
  show _ + (if p (k.toNat : Nat) then 1 else 0) = _
  rw [show ((k.toNat : Nat) : Int) = k by omega]
theorem cntI_b (p : Int → Bool) : ∀ n : Nat, 0 ≤ cntI p n ∧ cntI p n ≤ n
  | 0 => by simp [cntI]
  | n + 1 => by
    have := cntI_b p n
    unfold cntI
    split <;> omega
theorem cntI_c {p r : Int → Bool} : ∀ n : Nat, (∀ k : Int, 0 ≤ k → k < n → p k = r k) → cntI p n = cntI r n
  | 0, _ => rfl
  | n + 1, h => by
    unfold cntI
    rw [cntI_c n (fun k h0 h1 => h k h0 (by omega)), h n (by omega) (by omega)]
/-- the product of a row's states -/
def prodF (q : Nat) (R : Int → Int) : Nat → Int
  | 0 => 0
  | k + 1 => gM q (prodF q R k) (R k)
theorem prodF_S {q : Nat} {R : Int → Int} {k : Int} (h : 0 ≤ k) : prodF q R (k + 1).toNat = gM q (prodF q R k.toNat) (R k) := by
  rw [show (k + 1).toNat = k.toNat + 1 by omega]
  show gM q _ (R (k.toNat : Nat)) = _
  rw [show ((k.toNat : Nat) : Int) = k by omega]
theorem prodF_b {q : Nat} {R : Int → Int} (hq : q < 7) : ∀ n : Nat, (∀ k : Int, 0 ≤ k → k < n → 0 ≤ R k ∧ R k < gO q) → 0 ≤ prodF q R n ∧ prodF q R n < gO q
  | 0, _ => by have := gO_le hq; unfold prodF; omega
  | n + 1, h => gM_lt hq (prodF_b hq n (fun k a b => h k a (by omega))) (h n (by omega) (by omega))
theorem prodF_c {q : Nat} {R S : Int → Int} : ∀ n : Nat, (∀ k : Int, 0 ≤ k → k < n → R k = S k) → prodF q R n = prodF q S n
  | 0, _ => rfl
  | n + 1, h => by
    unfold prodF
    rw [prodF_c n (fun k h0 h1 => h k h0 (by omega)), h n (by omega) (by omega)]
/-- a row as a number to a base -/
def codeF (b : Int) (R : Int → Int) : Nat → Int
  | 0 => 0
  | k + 1 => codeF b R k * b + R k
theorem codeF_S {b : Int} {R : Int → Int} {k : Int} (h : 0 ≤ k) : codeF b R (k + 1).toNat = codeF b R k.toNat * b + R k := by
  rw [show (k + 1).toNat = k.toNat + 1 by omega]
  show codeF b R k.toNat * b + R (k.toNat : Nat) = _
  rw [show ((k.toNat : Nat) : Int) = k by omega]
theorem codeF_b {b : Int} {R : Int → Int} (hb : 1 ≤ b) : ∀ n : Nat, (∀ k : Int, 0 ≤ k → k < n → 0 ≤ R k ∧ R k < b) → 0 ≤ codeF b R n ∧ codeF b R n < b ^ n
  | 0, _ => by unfold codeF; simp
  | n + 1, h => by
    have ih := codeF_b hb n (fun k a c => h k a (by omega))
    have h1 := h n (by omega) (by omega)
    unfold codeF
    rw [Int.pow_succ]
    have h2 : 0 ≤ codeF b R n * b := Int.mul_nonneg ih.1 (by omega)
    have h3 : (codeF b R n + 1) * b ≤ b ^ n * b := Int.mul_le_mul_of_nonneg_right (by omega) (by omega)
    rw [Int.add_mul] at h3
    omega
theorem pow6 {n : Nat} (h : n ≤ 16) : (6 : Int) ^ n ≤ 2821109907456 := by
  have : ∀ n : Nat, n ≤ 16 → (6 : Int) ^ n ≤ 2821109907456 := by decide
  exact this n h
/-- a rule's numbers -/
def RO (V : VV) (r : Int) : Prop := (2 ≤ V r 3 ∧ V r 3 ≤ 6) ∧ (V r 4 = 2 ∧ V r 6 = V r 3 ∨ V r 4 = 3 ∧ V r 6 = V r 3 * V r 3) ∧ V r 5 = V r 6 * V r 3
def TR (V : VV) (r : Int) : Prop := ∀ e : Int, 0 ≤ e → e < V r 5 → 0 ≤ V (r + 1) e ∧ V (r + 1) e < V r 3
theorem g26 {g : Int} (h : 2 ≤ g ∧ g ≤ 6) : g = 2 ∨ g = 3 ∨ g = 4 ∨ g = 5 ∨ g = 6 := by omega
theorem RO.b {V : VV} {r : Int} (h : RO V r) : (2 ≤ V r 3 ∧ V r 3 ≤ 6) ∧ (2 ≤ V r 4 ∧ V r 4 ≤ 3) ∧ (2 ≤ V r 6 ∧ V r 6 ≤ 36) ∧ (4 ≤ V r 5 ∧ V r 5 ≤ 216) := by
  obtain ⟨h1, h2, h3⟩ := h
  refine ⟨h1, by omega, ?_⟩
  rcases g26 h1 with e | e | e | e | e <;> rw [e] at h2 h3 <;> omega
/-- a digit of a number to a base, from the low end -/
def dg (g e : Int) (j : Nat) : Int := e / g ^ j % g
theorem dg_b {g e : Int} {j : Nat} (h : 0 < g) : 0 ≤ dg g e j ∧ dg g e j < g := ⟨Int.emod_nonneg _ (by omega), Int.emod_lt_of_pos _ h⟩
theorem pw_pos {g : Int} (h : 2 ≤ g) (n : Nat) : 0 < g ^ n := Int.pow_pos (by omega)
theorem rng_ne {r o : Int} (h1 : rng r) (h2 : rng o) (h : r ≠ o) : r + 1 ≠ o ∧ o + 1 ≠ r ∧ r + 1 ≠ o + 1 := by
  unfold rng at h1 h2
  omega
theorem rul_ne {r o : Int} (h1 : rul r) (h2 : rul o) (h : r ≠ o) : (r + 1 ≠ o ∧ r + 2 ≠ o ∧ r + 3 ≠ o) ∧ (o + 1 ≠ r ∧ o + 2 ≠ r ∧ o + 3 ≠ r) ∧ (r + 1 ≠ o + 1 ∧ r + 1 ≠ o + 2 ∧ r + 1 ≠ o + 3) ∧ (r + 2 ≠ o + 1 ∧ r + 2 ≠ o + 2 ∧ r + 2 ≠ o + 3) ∧ (r + 3 ≠ o + 1 ∧ r + 3 ≠ o + 2 ∧ r + 3 ≠ o + 3) := by
  unfold rul at h1 h2
  omega
/-- the new state of a cell -/
def stepF (T : Int → Int) (g w n : Int) (R : Int → Int) (k : Int) : Int := if w = 2 then T (R k * g + R ((k + 1) % n)) else T ((R ((k - 1) % n) * g + R k) * g + R ((k + 1) % n))
theorem md_b (k : Int) {n : Int} (h : 1 ≤ n) : 0 ≤ k % n ∧ k % n < n := ⟨Int.emod_nonneg _ (by omega), Int.emod_lt_of_pos _ (by omega)⟩
theorem wd_b {g a b N : Int} (hg : 1 ≤ g) (ha : 0 ≤ a ∧ a < N) (hb : 0 ≤ b ∧ b < g) : 0 ≤ a * g + b ∧ a * g + b < N * g := by
  have h1 : 0 ≤ a * g := Int.mul_nonneg ha.1 (by omega)
  have h2 : (a + 1) * g ≤ N * g := Int.mul_le_mul_of_nonneg_right (by omega) (by omega)
  rw [Int.add_mul] at h2
  omega
