/-- how many of 0 .. n - 1 have a property -/
def cntI (p : Int → Bool) : Nat → Int
  | 0 => 0
  | n + 1 => cntI p n + (if p n then 1 else 0)
theorem cntI_S {p : Int → Bool} {k : Int} (h : 0 ≤ k) : cntI p (k + 1).toNat = cntI p k.toNat + (if p k then 1 else 0) := by
  rw [show (k + 1).toNat = k.toNat + 1 by omega]
  show _ + (if p (k.toNat : Nat) then 1 else 0) = _
  rw [show ((k.toNat : Nat) : Int) = k by omega]
theorem cntI_b (p : Int → Bool) : ∀ n : Nat, 0 ≤ cntI p n ∧ cntI p n ≤ n
  | 0 => by simp [cntI]
  | n + 1 => by
    have := cntI_b p n
    unfold cntI
    split <;> omega
theorem cntI_c {p r : Int → Bool} : ∀ n : Nat, (∀ k : Int, 0 ≤ k → k < n → p k = r k) → cntI p n = cntI r n
  | 0, _ => rfl
  | n + 1, h => by
    unfold cntI
    rw [cntI_c n (fun k h0 h1 => h k h0 (by omega)), h n (by omega) (by omega)]
/-- the product of a row's states -/
def prodF (q : Nat) (R : Int → Int) : Nat → Int
  | 0 => 0
  | k + 1 => gM q (prodF q R k) (R k)
theorem prodF_S {q : Nat} {R : Int → Int} {k : Int} (h : 0 ≤ k) : prodF q R (k + 1).toNat = gM q (prodF q R k.toNat) (R k) := by
  rw [show (k + 1).toNat = k.toNat + 1 by omega]
  show gM q _ (R (k.toNat : Nat)) = _
  rw [show ((k.toNat : Nat) : Int) = k by omega]
theorem prodF_b {q : Nat} {R : Int → Int} (hq : q < 7) : ∀ n : Nat, (∀ k : Int, 0 ≤ k → k < n → 0 ≤ R k ∧ R k < gO q) → 0 ≤ prodF q R n ∧ prodF q R n < gO q
  | 0, _ => by have := gO_le hq; unfold prodF; omega
  | n + 1, h => gM_lt hq (prodF_b hq n (fun k a b => h k a (by omega))) (h n (by omega) (by omega))
theorem prodF_c {q : Nat} {R S : Int → Int} : ∀ n : Nat, (∀ k : Int, 0 ≤ k → k < n → R k = S k) → prodF q R n = prodF q S n
  | 0, _ => rfl
  | n + 1, h => by
    unfold prodF
    rw [prodF_c n (fun k h0 h1 => h k h0 (by omega)), h n (by omega) (by omega)]
/-- a row as a number to a base -/
def codeF (b : Int) (R : Int → Int) : Nat → Int
  | 0 => 0
  | k + 1 => codeF b R k * b + R k
theorem codeF_S {b : Int} {R : Int → Int} {k : Int} (h : 0 ≤ k) : codeF b R (k + 1).toNat = codeF b R k.toNat * b + R k := by
  rw [show (k + 1).toNat = k.toNat + 1 by omega]
  show codeF b R k.toNat * b + R (k.toNat : Nat) = _
  rw [show ((k.toNat : Nat) : Int) = k by omega]
theorem codeF_b {b : Int} {R : Int → Int} (hb : 1 ≤ b) : ∀ n : Nat, (∀ k : Int, 0 ≤ k → k < n → 0 ≤ R k ∧ R k < b) → 0 ≤ codeF b R n ∧ codeF b R n < b ^ n
  | 0, _ => by unfold codeF; simp
  | n + 1, h => by
    have ih := codeF_b hb n (fun k a c => h k a (by omega))
    have h1 := h n (by omega) (by omega)
    unfold codeF
    rw [Int.pow_succ]
    have h2 : 0 ≤ codeF b R n * b := Int.mul_nonneg ih.1 (by omega)
    have h3 : (codeF b R n + 1) * b ≤ b ^ n * b := Int.mul_le_mul_of_nonneg_right (by omega) (by omega)
    rw [Int.add_mul] at h3
    omega
theorem pow6 {n : Nat} (h : n ≤ 16) : (6 : Int) ^ n ≤ 2821109907456 := by
  have : ∀ n : Nat, n ≤ 16 → (6 : Int) ^ n ≤ 2821109907456 := by decide
  exact this n h
/-- a rule's numbers -/
def RO (V : VV) (r : Int) : Prop := (2 ≤ V r 3 ∧ V r 3 ≤ 6) ∧ (V r 4 = 2 ∧ V r 6 = V r 3 ∨ V r 4 = 3 ∧ V r 6 = V r 3 * V r 3) ∧ V r 5 = V r 6 * V r 3
def TR (V : VV) (r : Int) : Prop := ∀ e : Int, 0 ≤ e → e < V r 5 → 0 ≤ V (r + 1) e ∧ V (r + 1) e < V r 3
theorem g26 {g : Int} (h : 2 ≤ g ∧ g ≤ 6) : g = 2 ∨ g = 3 ∨ g = 4 ∨ g = 5 ∨ g = 6 := by omega
theorem RO.b {V : VV} {r : Int} (h : RO V r) : (2 ≤ V r 3 ∧ V r 3 ≤ 6) ∧ (2 ≤ V r 4 ∧ V r 4 ≤ 3) ∧ (2 ≤ V r 6 ∧ V r 6 ≤ 36) ∧ (4 ≤ V r 5 ∧ V r 5 ≤ 216) := by
  obtain ⟨h1, h2, h3⟩ := h
  refine ⟨h1, by omega, ?_⟩
  rcases g26 h1 with e | e | e | e | e <;> rw [e] at h2 h3 <;> omega
/-- a digit of a number to a base, from the low end -/
def dg (g e : Int) (j : Nat) : Int := e / g ^ j % g
theorem dg_b {g e : Int} {j : Nat} (h : 0 < g) : 0 ≤ dg g e j ∧ dg g e j < g := ⟨Int.emod_nonneg _ (by omega), Int.emod_lt_of_pos _ h⟩
theorem pw_pos {g : Int} (h : 2 ≤ g) (n : Nat) : 0 < g ^ n := Int.pow_pos (by omega)
theorem rng_ne {r o : Int} (h1 : rng r) (h2 : rng o) (h : r ≠ o) : r + 1 ≠ o ∧ o + 1 ≠ r ∧ r + 1 ≠ o + 1 := by
  skip
  omega
theorem rul_ne {r o : Int} (h1 : rul r) (h2 : rul o) (h : r ≠ o) : (r + 1 ≠ o ∧ r + 2 ≠ o ∧ r + 3 ≠ o) ∧ (o + 1 ≠ r ∧ o + 2 ≠ r ∧ o + 3 ≠ r) ∧ (r + 1 ≠ o + 1 ∧ r + 1 ≠ o + 2 ∧ r + 1 ≠ o + 3) ∧ (r + 2 ≠ o + 1 ∧ r + 2 ≠ o + 2 ∧ r + 2 ≠ o + 3) ∧ (r + 3 ≠ o + 1 ∧ r + 3 ≠ o + 2 ∧ r + 3 ≠ o + 3) := by
  skip
  omega
/-- the new state of a cell -/
def stepF (T : Int → Int) (g w n : Int) (R : Int → Int) (k : Int) : Int := if w = 2 then T (R k * g + R ((k + 1) % n)) else T ((R ((k - 1) % n) * g + R k) * g + R ((k + 1) % n))
theorem md_b (k : Int) {n : Int} (h : 1 ≤ n) : 0 ≤ k % n ∧ k % n < n := ⟨Int.emod_nonneg _ (by omega), Int.emod_lt_of_pos _ (by omega)⟩
theorem wd_b {g a b N : Int} (hg : 1 ≤ g) (ha : 0 ≤ a ∧ a < N) (hb : 0 ≤ b ∧ b < g) : 0 ≤ a * g + b ∧ a * g + b < N * g := by
  have h1 : 0 ≤ a * g := Int.mul_nonneg ha.1 (by omega)
  have h2 : (a + 1) * g ≤ N * g := Int.mul_le_mul_of_nonneg_right (by omega) (by omega)
  rw [Int.add_mul] at h2
  omega
/-- outside of one cell nothing has changed -/
def sm1 (k : Int) (V W : VV) : Prop := ∀ a b : Int, a ≠ k → W a b = V a b
theorem sm1_0 {k : Int} {V : VV} : sm1 k V V := fun _ _ _ => rfl
theorem sm1_u {k j x : Int} {V W : VV} (h : sm1 k V W) : sm1 k V (up W k j x) := fun a b h1 => by
  rw [up_n _ (by omega)]
  exact h a b h1
theorem sm1_2 {r t : Int} {V W : VV} (h : sm1 t V W) : sm2 r t V W := fun a b _ h2 => h a b h2
theorem sm2_t {r t : Int} {V W Z : VV} (h : sm2 r t V W) (h' : sm2 r t W Z) : sm2 r t V Z := fun a b h1 h2 => (h' a b h1 h2).trans (h a b h1 h2)
theorem RO.sm {V W : VV} {r : Int} (h : RO V r) (e : ∀ b, W r b = V r b) : RO W r := by
  unfold RO at h ⊢
  rw [e, e, e, e]
  exact h
theorem RO.det {V W : VV} {r o : Int} (h : RO V r) (h' : RO W o) (e3 : W o 3 = V r 3) (e4 : W o 4 = V r 4) : W o 5 = V r 5 ∧ W o 6 = V r 6 := by
  obtain ⟨a1, a2, a3⟩ := h
  obtain ⟨b1, b2, b3⟩ := h'
  rw [e3, e4] at b2
  have e6 : W o 6 = V r 6 := by omega
  rw [e6, e3] at b3
  exact ⟨by rw [b3, a3], e6⟩
theorem GP.sm {V W : VV} {p : Int} {q : Nat} (h : GP V p q) (e : ∀ b, W p b = V p b) (e' : ∀ b, W (p + 1) b = V (p + 1) b) : GP W p q := ⟨h.1, by rw [e]; exact h.2.1, fun x y a b c d => by rw [e']; exact h.2.2 x y a b c d⟩
/-- all words have digits in a set -/
def inWb (s : Nat) (g w e : Int) : Bool := (List.range w.toNat).all (fun j => s.testBit (dg g e j).toNat)
theorem inWb_t {s : Nat} {g w e : Int} : inWb s g w e = true ↔ ∀ j : Nat, (j : Int) < w → s.testBit (dg g e j).toNat = true := by
  unfold inWb
  rw [List.all_eq_true]
  constructor
  · intro h j hj
    exact h j (List.mem_range.mpr (by omega))
  · intro h j hj
    exact h j (by have := List.mem_range.mp hj; omega)
def stayB (T : Int → Int) (s : Nat) (g w n : Int) : Bool := (List.range n.toNat).all (fun e => !inWb s g w e || s.testBit (T e).toNat)
theorem allR {n : Int} {p : Int → Bool} : (List.range n.toNat).all (fun e => p (e : Int)) = true ↔ ∀ e : Int, 0 ≤ e → e < n → p e = true := by
  rw [List.all_eq_true]
  constructor
  · intro h e h0 h1
    have := h e.toNat (List.mem_range.mpr (by omega))
    rwa [show ((e.toNat : Nat) : Int) = e by omega] at this
  · intro h e he
    exact h e (by omega) (by have := List.mem_range.mp he; omega)
theorem allR_f {n : Int} {p : Int → Bool} {e : Int} (h0 : 0 ≤ e) (h1 : e < n) (h : p e = false) : ¬ (List.range n.toNat).all (fun e => p (e : Int)) = true := fun q => by
  rw [allR.mp q e h0 h1] at h
  cases h
theorem p2g {g : Int} (h : 0 ≤ g ∧ g ≤ 6) : 1 ≤ (2 : Int) ^ g.toNat ∧ (2 : Int) ^ g.toNat ≤ 64 := by
  have h1 := p2le (show g.toNat ≤ 6 by omega)
  have h2 := p2pos g.toNat
  have h3 : (2 : Int) ^ 6 = 64 := by decide
  omega
/-- one digit replaced by another -/
theorem dg_rep {g e d N : Int} {j : Nat} (hg : 1 ≤ g) (he : 0 ≤ e ∧ e < N * g ^ (j + 1)) (hd : 0 ≤ d ∧ d < g) : 0 ≤ e + (d - dg g e j) * g ^ j ∧ e + (d - dg g e j) * g ^ j < N * g ^ (j + 1) := by
  unfold dg
  have hp : 0 < g ^ j := Int.pow_pos (by omega)
  rw [Int.pow_succ] at he ⊢
  have e1 := Int.mul_ediv_add_emod e (g ^ j)
  have e2 := Int.mul_ediv_add_emod (e / g ^ j) g
  have b1 := Int.emod_nonneg e (show g ^ j ≠ 0 by omega)
  have b2 := Int.emod_lt_of_pos e hp
  generalize g ^ j = p at *
  generalize e % p = lo at *
  have hq0 : 0 ≤ e / p := Int.ediv_nonneg he.1 (by omega)
  generalize e / p = m at *
  have hm : m < N * g := by
    have h1 : p * m < p * (N * g) := by
      have : N * (p * g) = p * (N * g) := by rw [Int.mul_comm p g, ← Int.mul_assoc, Int.mul_comm]
      omega
    exact Int.lt_of_mul_lt_mul_left h1 (by omega)
  have c0 := Int.emod_nonneg m (show g ≠ 0 by omega)
  have hh : m / g < N := Int.ediv_lt_of_lt_mul (by omega) hm
  have hh0 : 0 ≤ m / g := Int.ediv_nonneg hq0 (by omega)
  generalize m % g = c at *
  generalize m / g = t at *
  have f1 : e + (d - c) * p = p * (g * t + d) + lo := by
    rw [← e1, ← e2]
    simp only [Int.mul_add, Int.sub_mul, Int.mul_comm d p, Int.mul_comm c p]
    omega
  rw [f1]
  have t1 : 0 ≤ g * t := Int.mul_nonneg (by omega) hh0
  have t2 : 0 ≤ p * (g * t + d) := Int.mul_nonneg (by omega) (by omega)
  have t3 : g * (t + 1) ≤ g * N := Int.mul_le_mul_of_nonneg_left (by omega) (by omega)
  have t4 : p * (g * t + d + 1) ≤ p * (g * N) := by
    refine Int.mul_le_mul_of_nonneg_left ?_ (by omega)
    rw [Int.mul_add, Int.mul_one] at t3
    omega
  have t5 : N * (p * g) = p * (g * N) := by rw [← Int.mul_assoc, Int.mul_comm N p, Int.mul_assoc, Int.mul_comm N g]
  rw [t5]
  rw [Int.mul_add, Int.mul_one] at t4
  omega
theorem pw_w {g w : Int} (hw : 2 ≤ w ∧ w ≤ 3) : g ^ (w - 1).toNat = if w = 2 then g else g * g := by
  by_cases e : w = 2
  · rw [if_pos e, e]
    show g ^ 1 = g
    rw [Int.pow_succ, Int.pow_zero, Int.one_mul]
  · rw [if_neg e, show w = 3 by omega]
    show g ^ 2 = g * g
    rw [Int.pow_succ, Int.pow_succ, Int.pow_zero, Int.one_mul]
theorem ng_b {g w : Int} (hg : 2 ≤ g ∧ g ≤ 6) (hw : 2 ≤ w ∧ w ≤ 3) : -2147483648 ≤ (if w = 2 then g else g * g) * g ∧ (if w = 2 then g else g * g) * g ≤ 2147483647 := by
  rcases g26 hg with e | e | e | e | e <;> subst e <;> split <;> omega
def facF (q : Nat) (g w pl el b e : Int) : Int := if b = 0 then (if pl = -1 then el else dg g e (w - 1 - pl).toNat) else gV q (if pl = -1 then el else dg g e (w - 1 - pl).toNat)
/-- a row of bit sets by labels and nodes: which words below i are told -/
def LK (W : VV) (k i : Int) (lab p r : Int → Int) : Prop := ∀ l a : Int, 0 ≤ l → l < 6 → 0 ≤ a → a < 36 → ∀ b : Nat, b < 64 → (bt 64 (W k (l * 36 + a)) b = true ↔ ∃ e, 0 ≤ e ∧ e < i ∧ lab e = l ∧ p e = a ∧ r e = b)
theorem LK_0 {W : VV} {k : Int} {lab p r : Int → Int} (h : ∀ j, 0 ≤ j → j < 216 → W k j = 0) : LK W k 0 lab p r := fun l a h1 h2 h3 h4 b hb => by
  rw [h _ (by omega) (by omega), bt_0]
  constructor
  · intro q; cases q
  · rintro ⟨e, h0, h1, -⟩; omega
theorem LK_n {W : VV} {k k' i j x : Int} {lab p r : Int → Int} (h : LK W k i lab p r) (hk : k ≠ k') : LK (up W k' j x) k i lab p r := fun l a h1 h2 h3 h4 b hb => by
  rw [up_n _ (by omega)]
  exact h l a h1 h2 h3 h4 b hb
theorem LK_S {W : VV} {k i : Int} {lab p r : Int → Int} (h : LK W k i lab p r) (hi : 0 ≤ i) (hl : 0 ≤ lab i ∧ lab i < 6) (hp : 0 ≤ p i ∧ p i < 36) (hr : 0 ≤ r i ∧ r i < 64) : LK (up W k (lab i * 36 + p i) (bor 64 (W k (lab i * 36 + p i)) (1 * 2 ^ (r i).toNat))) k (i + 1) lab p r := fun l a h1 h2 h3 h4 b hb => by
  by_cases e : l = lab i ∧ a = p i
  · rw [e.1, e.2, up_s, bt_or, bt_pow1 hb, Bool.or_eq_true, h _ _ hl.1 hl.2 hp.1 hp.2 b hb, decide_eq_true_eq]
    constructor
    · rintro (⟨e, a0, a1, a2⟩ | q)
      · exact ⟨e, a0, by omega, a2⟩
      · exact ⟨i, hi, by omega, rfl, rfl, by omega⟩
    · rintro ⟨e, a0, a1, a2, a3, a4⟩
      by_cases ei : e = i
      · subst ei
        exact Or.inr (by omega)
      · exact Or.inl ⟨e, a0, by omega, a2, a3, a4⟩
  · rw [up_n _ (by omega), h l a h1 h2 h3 h4 b hb]
    constructor
    · rintro ⟨e, a0, a1, a2⟩
      exact ⟨e, a0, by omega, a2⟩
    · rintro ⟨e', a0, a1, a2, a3, a4⟩
      have : e' ≠ i := fun q => by subst q; exact e ⟨a2.symm, a3.symm⟩
      exact ⟨e', a0, by omega, a2, a3, a4⟩
theorem nd_div {V : VV} {r e : Int} (h : RO V r) (h0 : 0 ≤ e) (h1 : e < V r 5) : 0 ≤ e / V r 3 ∧ e / V r 3 < 36 := by
  have hb := h.b
  have := Int.ediv_nonneg h0 (show 0 ≤ V r 3 by omega)
  have h2 : e / V r 3 < V r 6 := Int.ediv_lt_of_lt_mul (by omega) (by rw [← h.2.2]; exact h1)
  omega
theorem nd_div6 {V : VV} {r e : Int} (h : RO V r) (h0 : 0 ≤ e) (h1 : e < V r 5) : 0 ≤ e / V r 3 ∧ e / V r 3 < V r 6 := by
  have hb := h.b
  exact ⟨Int.ediv_nonneg h0 (by omega), Int.ediv_lt_of_lt_mul (by omega) (by rw [← h.2.2]; exact h1)⟩
section RW5
variable {X : Cx} {G : GS} {pc : Nat} {ls st : List MV} {V : VV}
theorem j_rw5 {a b : MV} {y2 y3 y4 x2 x3 x4 : Int} (e2 : x2 = y2) (e3 : x3 = y3) (e4 : x4 = y4) (kk : J X G pc [a, b, vI x2, vI x3, vI x4] st V) : J X G pc [a, b, vI y2, vI y3, vI y4] st V := by
  subst e2; subst e3; subst e4; exact kk
end RW5
