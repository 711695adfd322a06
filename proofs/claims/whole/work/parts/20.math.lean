/-- every weight of a rule's word is a whole part of the number of words -/
theorem RO.pw {V : VV} {r p : Int} (h : RO V r) (hp : 0 ≤ p ∧ p < V r 4) : ∃ N : Int, 1 ≤ N ∧ N ≤ 36 ∧ V r 5 = N * V r 3 ^ ((V r 4 - 1 - p).toNat + 1) ∧ 1 ≤ V r 3 ^ (V r 4 - 1 - p).toNat ∧ V r 3 ^ (V r 4 - 1 - p).toNat ≤ 36 := by
  obtain ⟨a1, a2, a3⟩ := h
  generalize V r 3 = g at *
  have gg : g * g ≤ 6 * 6 := Int.mul_le_mul a1.2 a1.2 (by omega) (by omega)
  have g1 : 2 * g ≤ g * g := Int.mul_le_mul_of_nonneg_right a1.1 (by omega)
  rcases a2 with ⟨b1, b2⟩ | ⟨b1, b2⟩ <;> rw [b1] at hp ⊢ <;> rw [b2] at a3
  · rcases (show p = 0 ∨ p = 1 by omega) with e | e <;> rw [e]
    · exact ⟨1, by omega, by omega, by rw [a3]; simp [Int.pow_succ], by show 1 ≤ g ^ 1; simp [Int.pow_succ]; omega, by show g ^ 1 ≤ 36; simp [Int.pow_succ]; omega⟩
    · exact ⟨g, by omega, by omega, by rw [a3]; simp [Int.pow_succ], by show 1 ≤ g ^ 0; simp, by show g ^ 0 ≤ 36; simp⟩
  · rcases (show p = 0 ∨ p = 1 ∨ p = 2 by omega) with e | e | e <;> rw [e]
    · exact ⟨1, by omega, by omega, by rw [a3]; simp [Int.pow_succ], by show 1 ≤ g ^ 2; simp [Int.pow_succ]; omega, by show g ^ 2 ≤ 36; simp [Int.pow_succ]; omega⟩
    · exact ⟨g, by omega, by omega, by rw [a3]; simp [Int.pow_succ, Int.mul_assoc], by show 1 ≤ g ^ 1; simp [Int.pow_succ]; omega, by show g ^ 1 ≤ 36; simp [Int.pow_succ]; omega⟩
    · exact ⟨g * g, by omega, by omega, by rw [a3]; simp [Int.pow_succ], by show 1 ≤ g ^ 0; simp, by show g ^ 0 ≤ 36; simp⟩
/-- one digit's word replaced stays a word -/
theorem RO.rep {V : VV} {r p e d : Int} (h : RO V r) (hp : 0 ≤ p ∧ p < V r 4) (he : 0 ≤ e ∧ e < V r 5) (hd : 0 ≤ d ∧ d < V r 3) : 0 ≤ e + (d - dg (V r 3) e (V r 4 - 1 - p).toNat) * V r 3 ^ (V r 4 - 1 - p).toNat ∧ e + (d - dg (V r 3) e (V r 4 - 1 - p).toNat) * V r 3 ^ (V r 4 - 1 - p).toNat < V r 5 := by
  have hb := h.b
  obtain ⟨N, n1, n2, n3, -⟩ := h.pw hp
  rw [n3] at he ⊢
  exact dg_rep (by omega) he hd
theorem RO.one {V : VV} {r p d : Int} (h : RO V r) (hp : 0 ≤ p ∧ p < V r 4) (hd : 0 ≤ d ∧ d < V r 3) : 0 ≤ d * V r 3 ^ (V r 4 - 1 - p).toNat ∧ d * V r 3 ^ (V r 4 - 1 - p).toNat < V r 5 := by
  have hb := h.b
  have := h.rep (e := 0) hp (by omega) hd
  rw [show dg (V r 3) 0 (V r 4 - 1 - p).toNat = 0 by simp [dg]] at this
  simpa using this
theorem RO.dif {V : VV} {r p e d : Int} (h : RO V r) (hp : 0 ≤ p ∧ p < V r 4) (hd : 0 ≤ d ∧ d < V r 3) : -1000 ≤ (d - dg (V r 3) e (V r 4 - 1 - p).toNat) * V r 3 ^ (V r 4 - 1 - p).toNat ∧ (d - dg (V r 3) e (V r 4 - 1 - p).toNat) * V r 3 ^ (V r 4 - 1 - p).toNat ≤ 1000 := by
  have hb := h.b
  have b1 := dg_b (g := V r 3) (e := e) (j := (V r 4 - 1 - p).toNat) (by omega)
  obtain ⟨N, -, -, -, n4, n5⟩ := h.pw hp
  rw [Int.sub_mul]
  have c1 := Int.mul_nonneg hd.1 (show 0 ≤ V r 3 ^ (V r 4 - 1 - p).toNat by omega)
  have c2 : d * V r 3 ^ (V r 4 - 1 - p).toNat ≤ 6 * 36 := Int.mul_le_mul (by omega) n5 (by omega) (by omega)
  have c3 := Int.mul_nonneg b1.1 (show 0 ≤ V r 3 ^ (V r 4 - 1 - p).toNat by omega)
  have c4 : dg (V r 3) e (V r 4 - 1 - p).toNat * V r 3 ^ (V r 4 - 1 - p).toNat ≤ 6 * 36 := Int.mul_le_mul (by omega) n5 (by omega) (by omega)
  omega
/-- one place of a word's times keeps the rule's times -/
def resP (T : Int → Int) (q : Nat) (g : Int) (j : Nat) (f e : Int) : Bool := T (e + (gM q (dg g e j) f - dg g e j) * g ^ j) == gM q (T e) (T (f * g ^ j))
def resB (T : Int → Int) (q : Nat) (g n : Int) (j : Nat) (f : Int) : Bool := (List.range n.toNat).all (fun e => resP T q g j f (e : Int))
def homB (T : Int → Int) (q : Nat) (g w n : Int) : Bool := (List.range w.toNat).all (fun p => (List.range g.toNat).all (fun f => (f : Int) == 0 || resB T q g n (w - 1 - (p : Int)).toNat (f : Int)))
def perP (T : Int → Int) (g : Int) (j : Nat) (e : Int) : Bool := !(dg g e j == 0) || stG (fun x => T (e + x * g ^ j)) g.toNat == 2 ^ g.toNat - 1
def perB (T : Int → Int) (g n : Int) (j : Nat) : Bool := (List.range n.toNat).all (fun e => perP T g j (e : Int))
theorem homB_t {T : Int → Int} {q : Nat} {g w n : Int} : homB T q g w n = true ↔ ∀ p, 0 ≤ p → p < w → ∀ f, 1 ≤ f → f < g → resB T q g n (w - 1 - p).toNat f = true := by
  unfold homB
  rw [allR (p := fun p => (List.range g.toNat).all (fun f => (f : Int) == 0 || resB T q g n (w - 1 - p).toNat (f : Int)))]
  constructor
  · intro h p h0 h1 f h2 h3
    have := (allR (p := fun f => f == 0 || resB T q g n (w - 1 - p).toNat f)).mp (h p h0 h1) f (by omega) h3
    rw [show (f == 0) = false by simp; omega] at this
    simpa using this
  · intro h p h0 h1
    refine (allR (p := fun f => f == 0 || resB T q g n (w - 1 - p).toNat f)).mpr fun f h2 h3 => ?_
    by_cases e : f = 0
    · simp [e]
    · rw [h p h0 h1 f (by omega) h3, Bool.or_true]
