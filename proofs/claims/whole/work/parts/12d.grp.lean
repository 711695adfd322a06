/-! the seven groups: cyclic 2 to 6 (0 to 4), klein (5), sym (6) -/
def gO (q : Nat) : Nat := if q ≤ 4 then q + 2 else if q = 5 then 4 else 6
def gN (q x y : Nat) : Nat := if q ≤ 4 then (x + y) % (q + 2) else if q = 5 then [0, 1, 2, 3, 1, 0, 3, 2, 2, 3, 0, 1, 3, 2, 1, 0].getD (4 * x + y) 0
  else [0, 1, 2, 3, 4, 5, 1, 0, 4, 5, 2, 3, 2, 3, 0, 1, 5, 4, 3, 2, 5, 4, 0, 1, 4, 5, 1, 0, 3, 2, 5, 4, 3, 2, 1, 0].getD (6 * x + y) 0
def gI (q x : Nat) : Nat := ((List.range 6).find? (fun y => gN q x y == 0)).getD 0
def gM (q : Nat) (x y : Int) : Int := (gN q x.toNat y.toNat : Nat)
def gV (q : Nat) (x : Int) : Int := (gI q x.toNat : Nat)
theorem gO_le {q : Nat} (h : q < 7) : 2 ≤ gO q ∧ gO q ≤ 6 := by
  have : ∀ q, q < 7 → 2 ≤ gO q ∧ gO q ≤ 6 := by decide
  exact this q h
theorem gN_lt : ∀ q, q < 7 → ∀ x, x < gO q → ∀ y, y < gO q → gN q x y < gO q := by decide +kernel
theorem gN_as : ∀ q, q < 7 → ∀ x, x < gO q → ∀ y, y < gO q → ∀ z, z < gO q → gN q (gN q x y) z = gN q x (gN q y z) := by decide +kernel
theorem gN_e : ∀ q, q < 7 → ∀ x, x < gO q → gN q x 0 = x ∧ gN q 0 x = x := by decide +kernel
theorem gN_i : ∀ q, q < 7 → ∀ x, x < gO q → gI q x < gO q ∧ gN q x (gI q x) = 0 ∧ gN q (gI q x) x = 0 := by decide +kernel
theorem gN_u : ∀ q, q < 7 → ∀ x, x < gO q → ∀ y, y < gO q → gN q x y = 0 → y = gI q x := by decide +kernel
theorem gM_lt {q : Nat} (h : q < 7) {x y : Int} (hx : 0 ≤ x ∧ x < gO q) (hy : 0 ≤ y ∧ y < gO q) : 0 ≤ gM q x y ∧ gM q x y < gO q := by
  have := gN_lt q h x.toNat (by omega) y.toNat (by omega)
  unfold gM
  omega
theorem gM_6 {q : Nat} (h : q < 7) {x y : Int} (hx : 0 ≤ x ∧ x < gO q) (hy : 0 ≤ y ∧ y < gO q) : 0 ≤ gM q x y ∧ gM q x y < 6 := by
  have := gM_lt h hx hy
  have := gO_le h
  omega
theorem gV_lt {q : Nat} (h : q < 7) {x : Int} (hx : 0 ≤ x ∧ x < gO q) : 0 ≤ gV q x ∧ gV q x < gO q := by
  have := (gN_i q h x.toNat (by omega)).1
  unfold gV
  omega
theorem gM_as {q : Nat} (h : q < 7) {x y z : Int} (hx : 0 ≤ x ∧ x < gO q) (hy : 0 ≤ y ∧ y < gO q) (hz : 0 ≤ z ∧ z < gO q) : gM q (gM q x y) z = gM q x (gM q y z) := by
  have := gN_as q h x.toNat (by omega) y.toNat (by omega) z.toNat (by omega)
  unfold gM
  rw [Int.toNat_natCast, Int.toNat_natCast, this]
theorem gM_e {q : Nat} (h : q < 7) {x : Int} (hx : 0 ≤ x ∧ x < gO q) : gM q x 0 = x ∧ gM q 0 x = x := by
  have := gN_e q h x.toNat (by omega)
  unfold gM
  rw [show (0 : Int).toNat = 0 from rfl, this.1, this.2]
  omega
theorem gM_i {q : Nat} (h : q < 7) {x : Int} (hx : 0 ≤ x ∧ x < gO q) : gM q x (gV q x) = 0 ∧ gM q (gV q x) x = 0 := by
  have := gN_i q h x.toNat (by omega)
  unfold gM gV
  rw [Int.toNat_natCast, this.2.1, this.2.2]
  exact ⟨rfl, rfl⟩
theorem gM_u {q : Nat} (h : q < 7) {x y : Int} (hx : 0 ≤ x ∧ x < gO q) (hy : 0 ≤ y ∧ y < gO q) (e : gM q x y = 0) : y = gV q x := by
  have h1 : gN q x.toNat y.toNat = 0 := by unfold gM at e; omega
  have := gN_u q h x.toNat (by omega) y.toNat (by omega) h1
  unfold gV
  omega
/-- an object holds the group q -/
def GP (V : VV) (r : Int) (q : Nat) : Prop := q < 7 ∧ V r 1 = gO q ∧ ∀ x y : Int, 0 ≤ x → x < gO q → 0 ≤ y → y < gO q → V (r + 1) (x * 6 + y) = gM q x y
theorem GP.g {V : VV} {r : Int} {q : Nat} (h : GP V r q) : 2 ≤ V r 1 ∧ V r 1 ≤ 6 := by
  have := gO_le h.1
  rw [h.2.1]
  omega
/-- powers of an element, and its order -/
def gPw (q x : Nat) : Nat → Nat
  | 0 => 0
  | n + 1 => gN q (gPw q x n) x
def gOd (q x : Nat) : Nat := ((List.range 7).find? (fun n => n != 0 && gPw q x n == 0)).getD 0
theorem gOd_ok : ∀ q, q < 7 → ∀ x, x < gO q → 1 ≤ gOd q x ∧ gOd q x ≤ gO q ∧ gPw q x (gOd q x) = 0 := by decide +kernel
theorem gOd_lt : ∀ q, q < 7 → ∀ x, x < gO q → ∀ n, n < gOd q x → 1 ≤ n → gPw q x n ≠ 0 := by decide +kernel
theorem gPw_lt : ∀ q, q < 7 → ∀ x, x < gO q → ∀ n, n < 7 → gPw q x n < gO q := by decide +kernel
/-- sets of elements as numbers -/
theorem bor_nat {a b : Nat} (ha : a < 2 ^ 31) (hb : b < 2 ^ 31) : bor 32 (a : Int) (b : Int) = ((a ||| b : Nat) : Int) := by
  have hab : a ||| b < 2 ^ 31 := Nat.or_lt_two_pow ha hb
  refine ext32 (bv32 _) ⟨by omega, by omega⟩ fun i hi => ?_
  rw [bt_or, bt_nat hi, bt_nat hi, bt_nat hi, Nat.testBit_or]
def nIn (q s x : Nat) : Nat → Nat → Nat
  | 0, a => a
  | y + 1, a => if s.testBit x && s.testBit y then nIn q s x y a ||| 2 ^ gN q x y else nIn q s x y a
def nOu (q s : Nat) : Nat → Nat
  | 0 => 0
  | x + 1 => nIn q s x (gO q) (nOu q s x)
def nPW (q s : Nat) : Nat := nOu q s (gO q)
theorem nIn_lt {q s x : Nat} (hq : q < 7) (hx : x < gO q) : ∀ y, y ≤ gO q → ∀ a, a < 2 ^ gO q → nIn q s x y a < 2 ^ gO q
  | 0, _, a, ha => ha
  | y + 1, hy, a, ha => by
    have ih := nIn_lt (s := s) hq hx y (by omega) a ha
    have h1 := gN_lt q hq x hx y (by omega)
    unfold nIn
    split
    · exact Nat.or_lt_two_pow ih (Nat.pow_lt_pow_right (by decide) h1)
    · exact ih
theorem nOu_lt {q s : Nat} (hq : q < 7) : ∀ x, x ≤ gO q → nOu q s x < 2 ^ gO q
  | 0, _ => Nat.two_pow_pos _
  | x + 1, hx => nIn_lt hq (by omega) _ (Nat.le_refl _) _ (nOu_lt hq x (by omega))
theorem gO_64 {q : Nat} (h : q < 7) : 2 ^ gO q ≤ 64 := Nat.pow_le_pow_right (n := 2) (by decide) (gO_le h).2
def nIt (q : Nat) : Nat → Nat → Nat
  | 0, s => s
  | n + 1, s => nIt q n s ||| nPW q (nIt q n s)
def nSp (q s : Nat) : Nat := nIt q (gO q) (s ||| 1)
theorem nIt_fix : ∀ q, q < 7 → ∀ s, s < 2 ^ gO q → nSp q s ||| nPW q (nSp q s) = nSp q s := by decide +kernel
theorem nPW_lt {q s : Nat} (h : q < 7) : nPW q s < 2 ^ gO q := nOu_lt h _ (Nat.le_refl _)
def nSub (q : Nat) : Nat := ((List.range (2 ^ gO q)).filter (fun s => s % 2 == 1 && nPW q s == s)).length
theorem nSub_eq : ∀ q, q < 7 → ((List.range (2 ^ gO q)).filter (fun s => s != 0 && nSp q s == s)).length = nSub q := by decide +kernel
theorem hasN {s : Nat} {y : Int} (hs : s < 2 ^ 31) (hy : 0 ≤ y ∧ y < 32) : band 32 ((s : Int) / 2 ^ y.toNat) 1 = if s.testBit y.toNat then 1 else 0 := by
  rw [has32 ⟨by omega, by omega⟩ hy, bt_nat (by omega)]
theorem hasN_1 {s : Nat} {y : Int} (hs : s < 2 ^ 31) (hy : 0 ≤ y ∧ y < 32) : ¬ band 32 ((s : Int) / 2 ^ y.toNat) 1 = 0 ↔ s.testBit y.toNat = true := by
  rw [hasN hs hy]
  split <;> simp_all
theorem hasN_0 {s : Nat} {y : Int} (hs : s < 2 ^ 31) (hy : 0 ≤ y ∧ y < 32) : band 32 ((s : Int) / 2 ^ y.toNat) 1 = 0 ↔ s.testBit y.toNat = false := by
  rw [hasN hs hy]
  split <;> simp_all
theorem bor_p {a k : Nat} (ha : a < 64) (hk : k < 6) : bor 32 (a : Int) (1 * 2 ^ k) = ((a ||| 2 ^ k : Nat) : Int) := by
  have : (2 : Nat) ^ k ≤ 2 ^ 5 := Nat.pow_le_pow_right (by decide) (by omega)
  rw [Int.one_mul, show ((2 : Int) ^ k) = ((2 ^ k : Nat) : Int) by push_cast; rfl, bor_nat (by omega) (by omega)]
/-- part of a table of products, row by row -/
def FT (W : VV) (r n : Int) (f : Int → Int → Int) (x y : Int) : Prop := ∀ a b : Int, 0 ≤ a → 0 ≤ b → b < n → (a < x ∨ (a = x ∧ b < y)) → W (r + 1) (a * 6 + b) = f a b
theorem FT_0 {W : VV} {r n : Int} {f : Int → Int → Int} : FT W r n f 0 0 := fun a b h1 h2 _ h3 => by omega
theorem FT_S {W : VV} {r n x y : Int} {f : Int → Int → Int} (h : FT W r n f x y) (hn : n ≤ 6) (hy : 0 ≤ y ∧ y < n) : FT (up W (r + 1) (x * 6 + y) (f x y)) r n f x (y + 1) := fun a b h1 h2 h3 h4 => by
  by_cases e : a = x ∧ b = y
  · rw [e.1, e.2, up_s]
  · rw [up_n _ (by omega)]
    exact h a b h1 h2 h3 (by omega)
theorem FT_R {W : VV} {r n x : Int} {f : Int → Int → Int} (h : FT W r n f x n) : FT W r n f (x + 1) 0 := fun a b h1 h2 h3 h4 => h a b h1 h2 h3 (by omega)
theorem FT_R2 {W : VV} {r n x y : Int} {f : Int → Int → Int} (h : FT W r n f x y) (e : y = n) : FT W r n f (x + 1) 0 := by
  subst e
  exact FT_R h
/-- outside of two cells nothing has changed -/
def sm2 (r t : Int) (V W : VV) : Prop := ∀ a b : Int, a ≠ r → a ≠ t → W a b = V a b
theorem sm2_0 {r t : Int} {V : VV} : sm2 r t V V := fun _ _ _ _ => rfl
theorem sm2_u {r t k j x : Int} {V W : VV} (h : sm2 r t V W) (hk : k = r ∨ k = t) : sm2 r t V (up W k j x) := fun a b h1 h2 => by
  rw [up_n _ (by omega)]
  exact h a b h1 h2
def im3 (x i : Int) : Int := imgs.getD (3 * x + i).toNat 0
theorem im3_lt {x i : Int} (hx : 0 ≤ x ∧ x < 6) (hi : 0 ≤ i ∧ i < 3) : 0 ≤ im3 x i ∧ im3 x i < 3 := by
  have : ∀ a, a < 6 → ∀ b, b < 3 → 0 ≤ im3 (a : Nat) (b : Nat) ∧ im3 (a : Nat) (b : Nat) < 3 := by decide +kernel
  have h := this x.toNat (by omega) i.toNat (by omega)
  rwa [show ((x.toNat : Nat) : Int) = x by omega, show ((i.toNat : Nat) : Int) = i by omega] at h
def permI (a b : Int) : Int := (((List.range 6).find? (fun z : Nat => imgs.getD (3 * (z : Int) + 0).toNat 0 == a && imgs.getD (3 * (z : Int) + 1).toNat 0 == b)).getD 0 : Nat)
theorem permI_of {a b : Int} {k : Nat} (hk : k < 6) (h : imgs.getD (3 * (k : Int) + 0).toNat 0 = a ∧ imgs.getD (3 * (k : Int) + 1).toNat 0 = b) (hn : ∀ j : Nat, j < k → ¬ (imgs.getD (3 * (j : Int) + 0).toNat 0 = a ∧ imgs.getD (3 * (j : Int) + 1).toNat 0 = b)) : permI a b = k := by
  unfold permI
  have : (List.range 6).find? (fun z : Nat => imgs.getD (3 * (z : Int) + 0).toNat 0 == a && imgs.getD (3 * (z : Int) + 1).toNat 0 == b) = some k := by
    rw [List.find?_eq_some_iff_getElem]
    refine ⟨by simp only [Bool.and_eq_true, beq_iff_eq]; exact h, k, by simpa using hk, by simp, fun j hj => ?_⟩
    have := hn j hj
    simp only [List.getElem_range, Bool.not_eq_true', Bool.and_eq_false_iff, beq_eq_false_iff_ne]
    by_cases q : imgs.getD (3 * (j : Int) + 0).toNat 0 = a
    · exact Or.inr (fun q2 => this ⟨q, q2⟩)
    · exact Or.inl q
  rw [this]
  rfl
theorem permI_no {a b : Int} (hn : ∀ j : Nat, j < 6 → ¬ (imgs.getD (3 * (j : Int) + 0).toNat 0 = a ∧ imgs.getD (3 * (j : Int) + 1).toNat 0 = b)) : permI a b = 0 := by
  unfold permI
  have : (List.range 6).find? (fun z : Nat => imgs.getD (3 * (z : Int) + 0).toNat 0 == a && imgs.getD (3 * (z : Int) + 1).toNat 0 == b) = none := by
    rw [List.find?_eq_none]
    intro j hj
    have := hn j (by simpa using hj)
    simp only [Bool.and_eq_true, beq_iff_eq]
    exact this
  rw [this]
  rfl
theorem GP_of {W : VV} {r : Int} {q : Nat} {n : Int} {f : Int → Int → Int} (hq : q < 7) (hn : W r 1 = n) (hg : (gO q : Int) = n) (hT : FT W r n f n 0) (hf : ∀ a, a < gO q → ∀ b, b < gO q → f (a : Nat) (b : Nat) = (gN q a b : Nat)) : GP W r q := by
  refine ⟨hq, by rw [hn, hg], fun x y h1 h2 h3 h4 => ?_⟩
  rw [hT x y h1 h3 (by omega) (Or.inl (by omega))]
  have := hf x.toNat (by omega) y.toNat (by omega)
  rw [show ((x.toNat : Nat) : Int) = x by omega, show ((y.toNat : Nat) : Int) = y by omega] at this
  exact this
theorem GP_cyc {W : VV} {r n : Int} (hn0 : 2 ≤ n ∧ n ≤ 6) (hn : W r 1 = n) (hT : FT W r n (fun a b => (a + b) % n) n 0) : GP W r (n.toNat - 2) := by
  refine GP_of (by omega) hn ?_ hT ?_
  · unfold gO; rw [if_pos (by omega)]; omega
  · intro a _ b _
    unfold gN
    rw [if_pos (by omega), show n.toNat - 2 + 2 = n.toNat by omega]
    push_cast
    rw [show ((n.toNat : Nat) : Int) = n by omega]
theorem GP_klein {W : VV} {r : Int} (hn : W r 1 = 4) (hT : FT W r 4 (fun a b => bxor 32 a b) 4 0) : GP W r 5 := GP_of (by decide) hn rfl hT (by decide +kernel)
theorem GP_sym {W : VV} {r : Int} (hn : W r 1 = 6) (hT : FT W r 6 (fun a b => permI (im3 a (im3 b 0)) (im3 a (im3 b 1))) 6 0) : GP W r 6 := GP_of (by decide) hn rfl hT (by decide +kernel)
theorem GP_copy {V W : VV} {q : Nat} (hg : GP V 4 q) (h1 : W 13 1 = V 4 1) (hT : ∀ b, 0 ≤ b → b < 36 → W 14 b = V 5 b) : GP W 13 q := by
  have hq := gO_le hg.1
  refine ⟨hg.1, by rw [h1, hg.2.1], fun x y a b c d => ?_⟩
  have := hg.2.2 x y a b c d
  show W 14 (x * 6 + y) = _
  rw [hT _ (by omega) (by omega)]
  exact this
theorem gPw_S {q x : Nat} {f : Int} (h : 1 ≤ f) : gPw q x (f + 1).toNat = gN q (gPw q x f.toNat) x := by
  rw [show (f + 1).toNat = f.toNat + 1 by omega]
  rfl
theorem gOd_step {q : Nat} {x f z : Int} (hq : q < 7) (hx : 0 ≤ x ∧ x < gO q) (hf : 1 ≤ f ∧ f ≤ gOd q x.toNat) (hz : z = gPw q x.toNat f.toNat) (h : ¬ z = 0) : f < gOd q x.toNat := by
  have h1 := gOd_ok q hq x.toNat (by omega)
  by_cases e : f = gOd q x.toNat
  · exfalso
    rw [hz, show f.toNat = gOd q x.toNat by omega, h1.2.2] at h
    exact h rfl
  · omega
theorem gOd_end {q : Nat} {x f z : Int} (hq : q < 7) (hx : 0 ≤ x ∧ x < gO q) (hf : 1 ≤ f ∧ f ≤ gOd q x.toNat) (hz : z = gPw q x.toNat f.toNat) (h : z = 0 ∨ gO q ≤ f) : f = gOd q x.toNat := by
  have h1 := gOd_ok q hq x.toNat (by omega)
  rcases h with h | h
  · by_cases e : f = gOd q x.toNat
    · exact e
    · have := gOd_lt q hq x.toNat (by omega) f.toNat (by omega) (by omega)
      omega
  · omega
/-- a set laid element by element: those with a property; the values of a function -/
def stF (p : Int → Bool) : Nat → Int
  | 0 => 0
  | n + 1 => if p n then bor 32 (stF p n) (1 * 2 ^ n) else stF p n
def stG (f : Int → Int) : Nat → Int
  | 0 => 0
  | n + 1 => bor 32 (stG f n) (1 * 2 ^ (f n).toNat)
theorem stF_S {p : Int → Bool} {y : Int} (h : 0 ≤ y) : stF p (y + 1).toNat = if p y then bor 32 (stF p y.toNat) (1 * 2 ^ y.toNat) else stF p y.toNat := by
  rw [show (y + 1).toNat = y.toNat + 1 by omega]
  show (if p (y.toNat : Nat) then _ else _) = _
  rw [show ((y.toNat : Nat) : Int) = y by omega]
theorem stG_S {f : Int → Int} {y : Int} (h : 0 ≤ y) : stG f (y + 1).toNat = bor 32 (stG f y.toNat) (1 * 2 ^ (f y).toNat) := by
  rw [show (y + 1).toNat = y.toNat + 1 by omega]
  show bor 32 _ (1 * 2 ^ (f (y.toNat : Nat)).toNat) = _
  rw [show ((y.toNat : Nat) : Int) = y by omega]
theorem nOu_S {q s : Nat} {x : Int} (h : 0 ≤ x) : nOu q s (x + 1).toNat = nIn q s x.toNat (gO q) (nOu q s x.toNat) := by
  rw [show (x + 1).toNat = x.toNat + 1 by omega]
  rfl
theorem nIn_S {q s x a : Nat} {y : Int} (h : 0 ≤ y) : nIn q s x (y + 1).toNat a = if (s.testBit x && s.testBit y.toNat) = true then nIn q s x y.toNat a ||| 2 ^ gN q x y.toNat else nIn q s x y.toNat a := by
  rw [show (y + 1).toNat = y.toNat + 1 by omega]
  rfl
theorem nIt_S {q s : Nat} {k : Int} (h : 0 ≤ k) : nIt q (k + 1).toNat s = nIt q k.toNat s ||| nPW q (nIt q k.toNat s) := by
  rw [show (k + 1).toNat = k.toNat + 1 by omega]
  rfl
theorem nIt_lt {q s : Nat} (hq : q < 7) (hs : s < 2 ^ gO q) : ∀ n, nIt q n s < 2 ^ gO q
  | 0 => hs
  | n + 1 => Nat.or_lt_two_pow (nIt_lt hq hs n) (nPW_lt hq)
theorem bor_g {q a : Nat} {x y : Int} (hq : q < 7) (hx : 0 ≤ x ∧ x < gO q) (hy : 0 ≤ y ∧ y < gO q) (ha : a < 2 ^ gO q) : bor 32 (a : Int) (1 * 2 ^ (gM q x y).toNat) = ((a ||| 2 ^ gN q x.toNat y.toNat : Nat) : Int) := by
  have h1 := gN_lt q hq x.toNat (by omega) y.toNat (by omega)
  have := gO_le hq
  have := gO_64 hq
  exact bor_p (k := gN q x.toNat y.toNat) (by omega) (by omega)
theorem gO_ev {q : Nat} (h : q < 7) : 2 ^ gO q % 2 = 0 := by
  have : ∀ q, q < 7 → 2 ^ gO q % 2 = 0 := by decide
  exact this q h
/-- how many odd sets below s are closed -/
def nSc (q s : Nat) : Nat := ((List.range s).filter (fun s => s % 2 == 1 && nPW q s == s)).length
theorem nSc_1 (q : Nat) : ((nSc q 1 : Nat) : Int) = 0 := by
  unfold nSc
  simp [List.range_succ]
theorem nSc_S {q s : Nat} (h : s % 2 = 1) (_ : True ∨ s = s) : nSc q (s + 2) = if nPW q s = s then nSc q s + 1 else nSc q s := by
  unfold nSc
  rw [show s + 2 = (s + 1) + 1 from rfl, List.range_succ, List.range_succ, List.filter_append, List.filter_append, List.length_append, List.length_append]
  have h2 : (s + 1) % 2 = 0 := by omega
  simp only [List.filter_cons, List.filter_nil, h, h2]
  by_cases e : nPW q s = s <;> simp [e]
theorem nSc_end {q s : Nat} (hq : q < 7) (h : 2 ^ gO q - 1 < s) (h1 : s % 2 = 1) (h3 : s ≤ 2 ^ gO q + 1) : ((nSc q s : Nat) : Int) = nSub q := by
  have hev := gO_ev hq
  have : s = 2 ^ gO q + 1 := by omega
  rw [this]
  unfold nSc nSub
  rw [List.range_succ, List.filter_append]
  simp [hev]
section LC
variable {X : Cx} {G : GS} {pc : Nat} {ls st : List MV} {V : VV}
theorem j_lc2 {a b : MV} {y x9 : Int} (e : x9 = y) (kk : J X G pc (a :: b :: vI x9 :: ls) st V) : J X G pc (a :: b :: vI y :: ls) st V := e ▸ kk
end LC
