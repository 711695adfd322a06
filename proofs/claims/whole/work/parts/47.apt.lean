/-! an inverse rule tells rows apart -/
/-- two words over the same walk of pairs: their first places are a and b, their last ones a' and b', and each window gives the same -/
def WDp (T : Int → Int) (g N n : Int) (j : Nat) (a b a' b' x y : Int) : Prop := (0 ≤ x ∧ x < N * g ^ j) ∧ (0 ≤ y ∧ y < N * g ^ j) ∧ x / g ^ j = a ∧ y / g ^ j = b ∧ x % N = a' ∧ y % N = b' ∧ ∀ k : Nat, k < j → T (x / g ^ k % n) = T (y / g ^ k % n)
theorem WDp_0 {T : Int → Int} {g N n a b : Int} (ha : 0 ≤ a ∧ a < N) (hb : 0 ≤ b ∧ b < N) : WDp T g N n 0 a b a b a b := ⟨by simp; exact ha, by simp; exact hb, by simp, by simp, Int.emod_eq_of_lt ha.1 ha.2, Int.emod_eq_of_lt hb.1 hb.2, fun k hk => by omega⟩
theorem div_pw {g x y : Int} {j : Nat} (hg : 1 ≤ g) (hy : 0 ≤ y ∧ y < g) : (x * g + y) / g ^ (j + 1) = x / g ^ j := by
  rw [Int.pow_succ, Int.mul_comm (g ^ j) g, ← Int.ediv_ediv_of_nonneg (by omega), (dm_of (p := x) hy).1]
theorem win {g N n x y a' : Int} (hn : n = N * g) (hg : 1 ≤ g) (hN : 1 ≤ N) (hx : x % N = a') (hy : 0 ≤ y ∧ y < g) : (x * g + y) % n = a' * g + y := by
  have d := Int.mul_ediv_add_emod x N
  have m := md_b x hN
  have w := wd_b (g := g) (a := x % N) (b := y) (N := N) hg m hy
  have e : x * g + y = (x / N) * n + (a' * g + y) := by
    rw [hn, ← hx]
    have : x * g = (N * (x / N) + x % N) * g := by rw [d]
    rw [this, Int.add_mul, Int.mul_comm N, Int.mul_assoc]; omega
  rw [e, ← hx, hn]
  exact (dm_of (p := x / N) w).2
theorem WDp_S {T : Int → Int} {g N n a b a' b' a2 b2 x y : Int} {j : Nat} (hn : n = N * g) (hg : 1 ≤ g) (hN : 1 ≤ N) (hd : g ∣ N * g) (h : WDp T g N n j a b a' b' x y) (hs : pst T g N n a' b' a2 b2) : ∃ x2 y2, WDp T g N n (j + 1) a b a2 b2 x2 y2 ∧ x2 / g = x ∧ y2 / g = y := by
  obtain ⟨hx, hy, e1, e2, e3, e4, e5⟩ := h
  obtain ⟨e, e', h0, h1, h2, h3, h4, h5, h6⟩ := hs
  have m := md_b e (n := g) (by omega)
  have m' := md_b e' (n := g) (by omega)
  have ee : e = a' * g + e % g := by rw [← h3]; exact dm_id.symm
  have ee' : e' = b' * g + e' % g := by rw [← h4]; exact dm_id.symm
  have w1 := win (y := e % g) hn hg hN e3 m
  have w2 := win (y := e' % g) hn hg hN e4 m'
  have tail : ∀ z c : Int, z % n = c → z % N = c % N := fun z c hz => by
    rw [← hz, Int.emod_emod_of_dvd _ ⟨g, hn⟩]
  have bnd : ∀ z r : Int, (0 ≤ z ∧ z < N * g ^ j) → (0 ≤ r ∧ r < g) → 0 ≤ z * g + r ∧ z * g + r < N * g ^ (j + 1) := fun z r hz hr => by
    have := wd_b (g := g) (a := z) (b := r) (N := N * g ^ j) hg hz hr
    rw [Int.pow_succ, ← Int.mul_assoc]; exact this
  refine ⟨x * g + e % g, y * g + e' % g, ⟨bnd x _ hx m, bnd y _ hy m', by rw [div_pw hg m, e1], by rw [div_pw hg m', e2], by rw [tail _ _ w1, ← ee, h5], by rw [tail _ _ w2, ← ee', h6], fun k hk => ?_⟩, (dm_of m).1, (dm_of m').1⟩
  cases k with
  | zero => rw [Int.pow_zero, Int.ediv_one, Int.ediv_one, w1, w2, ← ee, ← ee']; exact h2
  | succ k => rw [div_pw hg m, div_pw hg m']; exact e5 k (by omega)
/-- forward from a pair of B -/
theorem fwdB {T : Int → Int} {g N n : Int} {B : Int → Int → Prop} (hn : n = N * g) (hg : 1 ≤ g) (hN : 1 ≤ N) (hB : BC T g N n B) {a b a0 b0 x y : Int} {j : Nat} (h : WDp T g N n j a b a0 b0 x y) (hab : B a0 b0) : ∀ f : Nat, ∃ a1 b1 x1 y1, B a1 b1 ∧ WDp T g N n (j + f) a b a1 b1 x1 y1 ∧ x1 / g ^ f = x ∧ y1 / g ^ f = y
  | 0 => ⟨a0, b0, x, y, hab, h, by simp, by simp⟩
  | f + 1 => by
    obtain ⟨a1, b1, x1, y1, h1, h2, h3, h4⟩ := fwdB hn hg hN hB h hab f
    obtain ⟨a2, b2, h5, h6⟩ := (hB a1 b1 h1).1
    obtain ⟨x2, y2, h7, h8, h9⟩ := WDp_S hn hg hN ⟨N, Int.mul_comm ..⟩ h2 h6
    have hp : ∀ z w : Int, z / g = w → z / g ^ (f + 1) = w / g ^ f := fun z w e => by
      rw [Int.pow_succ, Int.mul_comm (g ^ f), ← Int.ediv_ediv_of_nonneg (by omega), e]
    exact ⟨a2, b2, x2, y2, h5, h7, by rw [hp _ _ h8, h3], by rw [hp _ _ h9, h4]⟩
/-- a start as far back as one likes -/
theorem bwdB {T : Int → Int} {g N n : Int} {B : Int → Int → Prop} (hn : n = N * g) (hg : 1 ≤ g) (hN : 1 ≤ N) (hB : BC T g N n B) : ∀ (k : Nat) (a b : Int), B a b → ∃ a1 b1 x y, B a1 b1 ∧ WDp T g N n k a1 b1 a b x y
  | 0, a, b, h => by
    have := BC_b hN hB h
    exact ⟨a, b, a, b, h, WDp_0 this.1 this.2⟩
  | k + 1, a, b, h => by
    obtain ⟨a1, b1, h1, h2⟩ := (hB a b h).2
    obtain ⟨a2, b2, x, y, h3, h4⟩ := bwdB hn hg hN hB k a1 b1 h1
    obtain ⟨x2, y2, h5, -, -⟩ := WDp_S hn hg hN ⟨N, Int.mul_comm ..⟩ h4 h2
    exact ⟨a2, b2, x2, y2, h3, h5⟩
theorem imgF_c {T : Int → Int} {g n x y : Int} : ∀ v : Nat, (∀ k : Nat, k < v → T (x / g ^ k % n) = T (y / g ^ k % n)) → imgF T g n x v = imgF T g n y v
  | 0, _ => rfl
  | v + 1, h => by
    unfold imgF
    rw [imgF_c v (fun k hk => h k (by omega)), h v (by omega)]
theorem dvm {g x : Int} {r k : Nat} (hg : 1 ≤ g) : x / g ^ r / g ^ k = x / g ^ (r + k) := by
  rw [Int.ediv_ediv_of_nonneg (Int.le_of_lt (Int.pow_pos (by omega))), ← Int.pow_add]
theorem em_div {g y : Int} {o k : Nat} (hg : 1 ≤ g) (h : k ≤ o) : y % g ^ o / g ^ k = y / g ^ k % g ^ (o - k) := by
  have e : g ^ o = g ^ k * g ^ (o - k) := by rw [← Int.pow_add, show k + (o - k) = o by omega]
  have p1 : 0 < g ^ k := Int.pow_pos (by omega)
  have p2 : 0 < g ^ (o - k) := Int.pow_pos (by omega)
  have d1 := Int.mul_ediv_add_emod y (g ^ k)
  have d2 := Int.mul_ediv_add_emod (y / g ^ k) (g ^ (o - k))
  have b1 := md_b y (n := g ^ k) (by omega)
  have b2 := md_b (y / g ^ k) (n := g ^ (o - k)) (by omega)
  have w := wd_b (g := g ^ k) (a := y / g ^ k % g ^ (o - k)) (b := y % g ^ k) (N := g ^ (o - k)) (by omega) b2 b1
  have ey : y = (y / g ^ k / g ^ (o - k)) * g ^ o + (y / g ^ k % g ^ (o - k) * g ^ k + y % g ^ k) := by
    have : g ^ k * (g ^ (o - k) * (y / g ^ k / g ^ (o - k)) + y / g ^ k % g ^ (o - k)) + y % g ^ k = y := by rw [d2]; exact d1
    rw [Int.mul_add, ← Int.mul_assoc, ← e] at this
    rw [Int.mul_comm _ (g ^ o), Int.mul_comm (y / g ^ k % g ^ (o - k))]
    omega
  have em : y % g ^ o = y / g ^ k % g ^ (o - k) * g ^ k + y % g ^ k := by
    have h2 : (y / g ^ k / g ^ (o - k) * g ^ o + (y / g ^ k % g ^ (o - k) * g ^ k + y % g ^ k)) % g ^ o = y / g ^ k % g ^ (o - k) * g ^ k + y % g ^ k :=
      (dm_of (p := y / g ^ k / g ^ (o - k)) (g := g ^ o) (by rw [e, Int.mul_comm (g ^ k)]; exact w)).2
    rw [← ey] at h2; exact h2
  rw [em]
  exact (dm_of b1).1
theorem TEL_APT {T : Int → Int} {g N n s : Int} {v w : Nat} (hg : 2 ≤ g) (hw : 2 ≤ w) (hNw : N = g ^ (w - 1)) (hn : n = N * g) (hv : 1 ≤ v) (hs : 0 ≤ s ∧ s < (v + w - 1 : Nat)) (h : TEL T g n v (v + w - 1) s) : APT T g N n := by
  intro B hB a b hab
  have hN : 1 ≤ N := by rw [hNw]; exact Int.pow_pos (by omega)
  have hin := BC_b hN hB hab
  obtain ⟨a1, b1, x, y, h1, h2⟩ := bwdB hn (by omega) hN hB (v + w - 1) a b hab
  obtain ⟨a2, b2, X, Y, h3, h4, h5, h6⟩ := fwdB hn (by omega) hN hB h2 hab (v + w - 1)
  obtain ⟨-, -, -, -, ea, eb, -⟩ := h2
  obtain ⟨-, -, -, -, -, -, hT⟩ := h4
  have nw : n = g ^ w := by rw [hn, hNw, ← Int.pow_succ, show (w - 1).succ = w by omega]
  -- the digits at a window's place
  have key : ∀ r : Nat, r ≤ v + w - 1 + (w - 1) → dg g X (r + (v + w - 1 - 1 - s.toNat)) = dg g Y (r + (v + w - 1 - 1 - s.toNat)) := fun r hr => by
    have po : 0 < g ^ (v + w - 1) := Int.pow_pos (by omega)
    have b1 := md_b (X / g ^ r) (n := g ^ (v + w - 1)) (by omega)
    have b2 := md_b (Y / g ^ r) (n := g ^ (v + w - 1)) (by omega)
    have im : imgF T g n (X / g ^ r % g ^ (v + w - 1)) v = imgF T g n (Y / g ^ r % g ^ (v + w - 1)) v := imgF_c v fun k hk => by
      have ww : ∀ Z : Int, Z / g ^ r % g ^ (v + w - 1) / g ^ k % n = Z / g ^ (r + k) % n := fun Z => by
        rw [em_div (by omega) (by omega), dvm (by omega), nw]
        exact Int.emod_emod_of_dvd _ ⟨g ^ (v + w - 1 - k - w), by rw [← Int.pow_add, show w + (v + w - 1 - k - w) = v + w - 1 - k by omega]⟩
      rw [ww, ww]
      exact hT (r + k) (by omega)
    have t := h _ _ b1.1 b1.2 b2.1 b2.2 im
    rw [show (((v + w - 1 : Nat) : Int) - 1 - s).toNat = v + w - 1 - 1 - s.toNat by omega] at t
    have dd : ∀ Z : Int, dg g (Z / g ^ r % g ^ (v + w - 1)) (v + w - 1 - 1 - s.toNat) = dg g Z (r + (v + w - 1 - 1 - s.toNat)) := fun Z => by
      unfold dg
      rw [em_div (by omega) (by omega), dvm (by omega)]
      exact Int.emod_emod_of_dvd _ ⟨g ^ (v + w - 1 - (v + w - 1 - 1 - s.toNat) - 1), by rw [Int.mul_comm, ← Int.pow_succ, show (v + w - 1 - (v + w - 1 - 1 - s.toNat) - 1).succ = v + w - 1 - (v + w - 1 - 1 - s.toNat) by omega]⟩
    rw [dd, dd] at t
    exact t
  -- the digits of a and b
  have dga : ∀ i : Nat, i < w - 1 → dg g a i = dg g b i := fun i hi => by
    have dz : ∀ (Z z c : Int), Z / g ^ (v + w - 1) = z → z % N = c → dg g c i = dg g Z (v + w - 1 + i) := fun Z z c e1 e2 => by
      unfold dg
      rw [← e2, hNw, em_div (by omega) (by omega), ← e1, dvm (by omega)]
      exact Int.emod_emod_of_dvd _ ⟨g ^ (w - 1 - i - 1), by rw [Int.mul_comm, ← Int.pow_succ, show (w - 1 - i - 1).succ = w - 1 - i by omega]⟩
    rw [dz X x a h5 ea, dz Y y b h6 eb]
    have := key (v + w - 1 + i - (v + w - 1 - 1 - s.toNat)) (by omega)
    rw [show v + w - 1 + i - (v + w - 1 - 1 - s.toNat) + (v + w - 1 - 1 - s.toNat) = v + w - 1 + i by omega] at this
    exact this
  have fin : ∀ (m : Nat) (p q : Int), (0 ≤ p ∧ p < g ^ m) → (0 ≤ q ∧ q < g ^ m) → (∀ i : Nat, i < m → dg g p i = dg g q i) → p = q := by
    intro m
    induction m with
    | zero => intro p q hp hq _; simp at hp hq; omega
    | succ m ih =>
      intro p q hp hq hd
      have pm : ∀ z : Int, (0 ≤ z ∧ z < g ^ (m + 1)) → 0 ≤ z / g ∧ z / g < g ^ m := fun z hz => ⟨Int.ediv_nonneg hz.1 (by omega), Int.ediv_lt_of_lt_mul (by omega) (by rw [← Int.pow_succ]; exact hz.2)⟩
      have e1 := ih (p / g) (q / g) (pm p hp) (pm q hq) (fun i hi => by
        have := hd (i + 1) (by omega)
        unfold dg at this ⊢
        have e : ∀ z : Int, z / g / g ^ i = z / g ^ (i + 1) := fun z => by rw [Int.ediv_ediv_of_nonneg (by omega), Int.pow_succ, Int.mul_comm]
        rw [e, e]; exact this)
      have e2 := hd 0 (by omega)
      unfold dg at e2
      rw [Int.pow_zero, Int.ediv_one, Int.ediv_one] at e2
      rw [← dm_id (e := p) (g := g), ← dm_id (e := q) (g := g), e1, e2]
  exact fin (w - 1) a b (by rw [← hNw]; exact hin.1) (by rw [← hNw]; exact hin.2) dga
/-- rows told apart: no diamond -/
def pRc (T : Int → Int) (g N n : Int) : Nat → Int → Int → Prop
  | 0, a, b => a = b ∧ 0 ≤ a ∧ a < N
  | k + 1, a, b => ∃ p q, pRc T g N n k p q ∧ pst T g N n p q a b
def pCo (T : Int → Int) (g N n : Int) : Nat → Int → Int → Prop
  | 0, a, b => a = b ∧ 0 ≤ a ∧ a < N
  | k + 1, a, b => ∃ p q, pst T g N n a b p q ∧ pCo T g N n k p q
theorem pst_l {T : Int → Int} {g N n a b c d : Int} (hg : 1 ≤ g) (hn : n = N * g) (h : pst T g N n a b c d) : (0 ≤ a ∧ a < N) ∧ 0 ≤ b ∧ b < N := by
  obtain ⟨e, e', h0, h1, h2, h3, h4, h5, h6⟩ := h
  rw [← h3, ← h4]
  exact ⟨⟨Int.ediv_nonneg h0.1 (by omega), Int.ediv_lt_of_lt_mul (by omega) (by rw [← hn]; exact h0.2)⟩, Int.ediv_nonneg h1.1 (by omega), Int.ediv_lt_of_lt_mul (by omega) (by rw [← hn]; exact h1.2)⟩
theorem pCo_of {T : Int → Int} {g N n : Int} {a : Int} {k : Nat} (hg : 1 ≤ g) (hn : n = N * g) (h : pWk T g N n k a a) (ha : 0 ≤ a ∧ a < N) : ∃ p q, p ≠ q ∧ (∃ i, pRc T g N n i p q) ∧ ∃ j, pCo T g N n j p q := by
  have key : ∀ (k : Nat) (a b : Int) (j : Nat), pWk T g N n k a b → pCo T g N n j a b → ∃ p q, p ≠ q ∧ (∃ i, pRc T g N n i p q) ∧ ∃ j, pCo T g N n j p q := by
    intro k
    induction k with
    | zero =>
      intro a b j h hj
      obtain ⟨h2, c, h1⟩ := h
      exact ⟨a, b, h2, ⟨1, c, c, ⟨rfl, (pst_l hg hn h1).1⟩, h1⟩, j, hj⟩
    | succ k ih =>
      intro a b j h hj
      obtain ⟨p, q, h1, h2⟩ := h
      exact ih p q (j + 1) h1 ⟨a, b, h2, hj⟩
  exact key k a a 0 h ⟨rfl, ha⟩
theorem BC_rc {T : Int → Int} {g N n : Int} (hg : 1 ≤ g) (hN : 1 ≤ N) (hn : n = N * g) : BC T g N n (fun p q => (∃ i, pRc T g N n i p q) ∧ ∃ j, pCo T g N n j p q) := fun p q ⟨⟨i, hi⟩, j, hj⟩ => by
  have hle : ∀ p, 0 ≤ p → p < N → 0 ≤ p ∧ p < n := fun p h0 h1 => ⟨h0, by have := Int.mul_le_mul_of_nonneg_left (a := 1) (b := g) (c := N) hg (by omega); rw [hn]; omega⟩
  refine ⟨?_, ?_⟩
  · cases j with
    | zero =>
      obtain ⟨e, h0, h1⟩ := hj
      subst e
      have w := wd_b (g := g) (a := p) (b := 0) (N := N) hg ⟨h0, h1⟩ ⟨by decide, by omega⟩
      have m := md_b (p * g + 0) hN
      exact ⟨(p * g + 0) % N, (p * g + 0) % N, ⟨⟨0, rfl, m⟩, 0, rfl, m⟩, p * g + 0, p * g + 0, by rw [hn]; exact w, by rw [hn]; exact w, rfl, (dm_of ⟨by decide, by omega⟩).1, (dm_of ⟨by decide, by omega⟩).1, rfl, rfl⟩
    | succ j =>
      obtain ⟨p2, q2, h1, h2⟩ := hj
      exact ⟨p2, q2, ⟨⟨i + 1, p, q, hi, h1⟩, j, h2⟩, h1⟩
  · cases i with
    | zero =>
      obtain ⟨e, h0, h1⟩ := hi
      subst e
      have m : 0 ≤ p / g ∧ p / g < N := ⟨Int.ediv_nonneg h0 (by omega), Int.lt_of_le_of_lt (Int.ediv_le_self _ h0) h1⟩
      exact ⟨p / g, p / g, ⟨⟨0, rfl, m⟩, 0, rfl, m⟩, p, p, hle p h0 h1, hle p h0 h1, rfl, rfl, rfl, Int.emod_eq_of_lt h0 h1, Int.emod_eq_of_lt h0 h1⟩
    | succ i =>
      obtain ⟨p2, q2, h1, h2⟩ := hi
      exact ⟨p2, q2, ⟨⟨i, h1⟩, j + 1, p, q, h2, hj⟩, h2⟩
theorem APT_dia {T : Int → Int} {g N n : Int} (hg : 1 ≤ g) (hN : 1 ≤ N) (hn : n = N * g) (h : APT T g N n) : ∀ k a, ¬ pWk T g N n k a a := fun k a q => by
  obtain ⟨p, r, h1, h2, h3⟩ := pCo_of hg hn q (pWk_b hN k q).1
  exact h1 (h _ (BC_rc hg hN hn) p r ⟨h2, h3⟩)
theorem APT_DI {T : Int → Int} {g N n s : Int} (hg : 1 ≤ g) (hN : 1 ≤ N) (hn : n = N * g) (h : APT T g N n) (hd : DI T g N n s) : s = 0 := by
  rcases hd with h1 | ⟨k, -, ⟨a, h2⟩, -⟩
  · exact h1.1
  · exact absurd h2 (APT_dia hg hN hn h k a)
/-- no inverse rule -/
def NOI (T : Int → Int) (g n w : Int) : Prop := ∀ v s, IVS T g n w v s → v = 0
theorem IVS_APT {V : VV} {v s : Int} (ho : RO V 15) (h : IVS (V 16) (V 15 3) (V 15 5) (V 15 4) v s) (hv : v ≠ 0) : APT (V 16) (V 15 3) (V 15 6) (V 15 5) := by
  have hb := ho.b
  obtain ⟨h1, h2, h3, h4⟩ := h.b hb.1 hv
  refine TEL_APT (v := v.toNat) (w := (V 15 4).toNat) (s := s) (by omega) (by omega) ?_ ho.n (by omega) (by omega) ?_
  · rcases ho.2.1 with ⟨e1, e2⟩ | ⟨e1, e2⟩ <;> rw [e1, e2]
    · show _ = V 15 3 ^ 1; rw [Int.pow_succ, Int.pow_zero, Int.one_mul]
    · show _ = V 15 3 ^ 2; rw [Int.pow_succ, Int.pow_succ, Int.pow_zero, Int.one_mul]
  · rw [show v.toNat + (V 15 4).toNat - 1 = (v + V 15 4 - 1).toNat by omega]; exact h4
theorem IVS_u {T : Int → Int} {g n w v s v' s' : Int} (h : IVS T g n w v s) (h' : IVS T g n w v' s') : v = v' ∧ (v ≠ 0 → s = s') := by
  rcases h with ⟨a, b⟩ | ⟨a, b, c, d, e, f⟩ <;> rcases h' with ⟨a', b'⟩ | ⟨a', b', c', d', e', f'⟩
  · exact ⟨by omega, fun q => absurd a q⟩
  · exact absurd d' (b v' a'.1 a'.2 b' s' c'.1 c'.2)
  · exact absurd d (b' v a.1 a.2 b s c.1 c.2)
  · rcases Int.lt_trichotomy v v' with q | q | q
    · exact absurd d (f' v a.1 q b s c.1 c.2)
    · subst q
      refine ⟨rfl, fun _ => ?_⟩
      rcases Int.lt_trichotomy s s' with q | q | q
      · exact absurd d (e' s c.1 q)
      · exact q
      · exact absurd d' (e s' c'.1 q)
    · exact absurd d' (f v' a'.1 q b' s' c'.1 c'.2)
