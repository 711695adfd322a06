/-! sums, walks counted -/
def sm (f : Int → Int) : Nat → Int
  | 0 => 0
  | k + 1 => sm f k + f k
theorem sm_S {f : Int → Int} {k : Int} (h : 0 ≤ k) : sm f (k + 1).toNat = sm f k.toNat + f k := by
  rw [show (k + 1).toNat = k.toNat + 1 by omega]
  show sm f k.toNat + f (k.toNat : Int) = _
  rw [show ((k.toNat : Nat) : Int) = k by omega]
theorem sm_c {f h : Int → Int} : ∀ n : Nat, (∀ i : Int, 0 ≤ i → i < n → f i = h i) → sm f n = sm h n
  | 0, _ => rfl
  | n + 1, e => by
    unfold sm
    rw [sm_c n (fun i h0 h1 => e i h0 (by omega)), e n (by omega) (by omega)]
theorem sm_le {f h : Int → Int} : ∀ n : Nat, (∀ i : Int, 0 ≤ i → i < n → f i ≤ h i) → sm f n ≤ sm h n
  | 0, _ => Int.le_refl _
  | n + 1, e => by
    have h1 := sm_le n (fun i h0 h1 => e i h0 (by omega))
    have h2 := e n (by omega) (by omega)
    unfold sm
    omega
theorem sm_nn {f : Int → Int} : ∀ n : Nat, (∀ i : Int, 0 ≤ i → i < n → 0 ≤ f i) → 0 ≤ sm f n
  | 0, _ => Int.le_refl _
  | n + 1, e => by
    have h1 := sm_nn n (fun i h0 h1 => e i h0 (by omega))
    have h2 := e n (by omega) (by omega)
    unfold sm
    omega
theorem sm_mono {f : Int → Int} {m : Nat} : ∀ n : Nat, m ≤ n → (∀ i : Int, 0 ≤ i → i < n → 0 ≤ f i) → sm f m ≤ sm f n
  | 0, h, _ => by rw [show m = 0 by omega]; exact Int.le_refl _
  | n + 1, h, e => by
    by_cases q : m = n + 1
    · rw [q]; exact Int.le_refl _
    · have h1 := sm_mono (f := f) (m := m) n (by omega) (fun i h0 h1 => e i h0 (by omega))
      have h2 := e n (by omega) (by omega)
      show _ ≤ sm f n + f n
      omega
theorem sm_ge {f : Int → Int} {n : Nat} (e : ∀ i : Int, 0 ≤ i → i < n → 0 ≤ f i) {i : Int} (h0 : 0 ≤ i) (h1 : i < n) : f i ≤ sm f n := by
  have a := sm_mono (m := (i + 1).toNat) n (by omega) e
  have b := sm_nn i.toNat (fun j j0 j1 => e j j0 (by omega))
  rw [sm_S h0] at a
  omega
theorem sm_b {f : Int → Int} {b : Int} : ∀ n : Nat, (∀ i : Int, 0 ≤ i → i < n → f i ≤ b) → sm f n ≤ n * b
  | 0, _ => by simp [sm]
  | n + 1, e => by
    have h1 := sm_b n (fun i h0 h1 => e i h0 (by omega))
    have h2 := e n (by omega) (by omega)
    have h3 : ((n + 1 : Nat) : Int) * b = n * b + b := by push_cast; rw [Int.add_mul, Int.one_mul]
    show sm f n + f n ≤ _
    omega
theorem sm_add {f h : Int → Int} : ∀ n : Nat, sm (fun i => f i + h i) n = sm f n + sm h n
  | 0 => rfl
  | n + 1 => by unfold sm; rw [sm_add n]; omega
theorem sm_mul {f : Int → Int} {a : Int} : ∀ n : Nat, sm (fun i => a * f i) n = a * sm f n
  | 0 => by simp [sm]
  | n + 1 => by unfold sm; rw [sm_mul n, Int.mul_add]
theorem sm_0 : ∀ n : Nat, sm (fun _ => 0) n = 0
  | 0 => rfl
  | n + 1 => by unfold sm; rw [sm_0 n]; rfl
theorem sm_one {p : Bool} {k x : Int} : ∀ n : Nat, sm (fun v => if p && (k == v) then x else 0) n = if p = true ∧ 0 ≤ k ∧ k < n then x else 0
  | 0 => by rw [if_neg (by omega)]; rfl
  | n + 1 => by
    unfold sm
    rw [sm_one n]
    by_cases hp : p = true
    · subst hp
      by_cases hk : k = n
      · subst hk
        rw [if_neg (by omega), if_pos (by simp), if_pos ⟨rfl, by omega, by omega⟩]; omega
      · rw [if_neg (c := (true && k == (n : Int)) = true) (by simp [hk])]
        by_cases h2 : 0 ≤ k ∧ k < n
        · rw [if_pos ⟨rfl, h2⟩, if_pos ⟨rfl, by omega, by omega⟩]; omega
        · rw [if_neg (fun q => h2 q.2), if_neg (by rintro ⟨-, a, b⟩; omega)]; rfl
    · rw [if_neg (fun q => hp q.1), if_neg (by simp [hp]), if_neg (fun q => hp q.1)]; rfl
theorem sm_sw {f : Int → Int → Int} : ∀ n m : Nat, sm (fun i => sm (f i) m) n = sm (fun j => sm (fun i => f i j) n) m
  | 0, m => by
    show 0 = _
    rw [show (fun j => sm (fun i => f i j) 0) = fun _ => 0 from rfl, sm_0]
  | n + 1, m => by
    show sm (fun i => sm (f i) m) n + sm (f n) m = _
    rw [sm_sw n m, ← sm_add]
    rfl
theorem sm_blk {c : Int → Int} {g : Int} (hg : 1 ≤ g) : ∀ (N x : Nat), (x : Int) ≤ g → sm (fun e => c (e / g)) (N * g.toNat + x) = g * sm c N + x * c N
  | 0, 0, _ => by simp [sm]
  | N + 1, 0, _ => by
    have h := sm_blk (c := c) hg N g.toNat (by omega)
    rw [show (N + 1) * g.toNat + 0 = N * g.toNat + g.toNat by rw [Nat.add_mul]; omega, h, show ((g.toNat : Nat) : Int) = g by omega]
    show _ = g * (sm c N + c N) + _
    rw [Int.mul_add]; simp
  | N, x + 1, hx => by
    have h := sm_blk (c := c) hg N x (by omega)
    show sm (fun e => c (e / g)) (N * g.toNat + x) + c (((N * g.toNat + x : Nat) : Int) / g) = _
    rw [h]
    have e : ((N * g.toNat + x : Nat) : Int) / g = N := by
      push_cast
      rw [show ((g.toNat : Nat) : Int) = g by omega]
      exact (dm_of (p := (N : Int)) (x := (x : Int)) ⟨by omega, by omega⟩).1
    rw [e]
    push_cast
    rw [Int.add_mul, Int.one_mul]; omega
theorem sm_div {c : Int → Int} {g N n : Int} (hg : 1 ≤ g) (hN : 0 ≤ N) (hn : n = N * g) : sm (fun e => c (e / g)) n.toNat = g * sm c N.toNat := by
  have h := sm_blk (c := c) hg N.toNat 0 (by omega)
  have e : n.toNat = N.toNat * g.toNat + 0 := by rw [hn, Int.toNat_mul hN (by omega)]; omega
  rw [e, h]; simp
def wAcc (P : Int → Bool) (g N : Int) (c : Int → Int) : Nat → Int → Int
  | 0, _ => 0
  | e + 1, v => wAcc P g N c e v + if P e && ((e : Int) % N == v) then c ((e : Int) / g) else 0
theorem wA_S {P : Int → Bool} {g N v e : Int} {c : Int → Int} (h : 0 ≤ e) : wAcc P g N c (e + 1).toNat v = wAcc P g N c e.toNat v + if P e && (e % N == v) then c (e / g) else 0 := by
  rw [show (e + 1).toNat = e.toNat + 1 by omega]
  show wAcc P g N c e.toNat v + (if P (e.toNat : Int) && (((e.toNat : Nat) : Int) % N == v) then c (((e.toNat : Nat) : Int) / g) else 0) = _
  rw [show ((e.toNat : Nat) : Int) = e by omega]
theorem wA_c {P : Int → Bool} {g N M : Int} {c d : Int → Int} (hg : 1 ≤ g) (h : ∀ u, 0 ≤ u → u < M → c u = d u) : ∀ (m : Nat), (m : Int) ≤ M * g → ∀ v, wAcc P g N c m v = wAcc P g N d m v
  | 0, _, _ => rfl
  | m + 1, hm, v => by
    unfold wAcc
    rw [wA_c hg h m (by omega) v, h _ (Int.ediv_nonneg (by omega) (by omega)) (Int.ediv_lt_of_lt_mul (by omega) (by omega))]
theorem wA_b {P : Int → Bool} {g N M : Int} {c : Int → Int} (hg : 1 ≤ g) (hc : ∀ u, 0 ≤ u → u < M → 0 ≤ c u) : ∀ (m : Nat), (m : Int) ≤ M * g → ∀ v, 0 ≤ wAcc P g N c m v ∧ wAcc P g N c m v ≤ sm (fun e => c (e / g)) m
  | 0, _, _ => ⟨Int.le_refl _, Int.le_refl _⟩
  | m + 1, hm, v => by
    have ih := wA_b (P := P) (N := N) hg hc m (by omega) v
    have h2 := hc ((m : Int) / g) (Int.ediv_nonneg (by omega) (by omega)) (Int.ediv_lt_of_lt_mul (by omega) (by omega))
    unfold wAcc sm
    split <;> omega
theorem wA_sum {P : Int → Bool} {g N M : Int} {c : Int → Int} (hg : 1 ≤ g) (hc : ∀ u, 0 ≤ u → u < M → 0 ≤ c u) (k : Nat) : ∀ (m : Nat), (m : Int) ≤ M * g → sm (wAcc P g N c m) k ≤ sm (fun e => c (e / g)) m
  | 0, _ => by rw [show wAcc P g N c 0 = fun _ => 0 from rfl, sm_0]; exact Int.le_refl _
  | m + 1, hm => by
    have ih := wA_sum (P := P) (N := N) hg hc k m (by omega)
    have h2 := hc ((m : Int) / g) (Int.ediv_nonneg (by omega) (by omega)) (Int.ediv_lt_of_lt_mul (by omega) (by omega))
    rw [show wAcc P g N c (m + 1) = fun v => wAcc P g N c m v + (if P m && ((m : Int) % N == v) then c ((m : Int) / g) else 0) from rfl, sm_add, sm_one]
    show _ ≤ sm (fun e => c (e / g)) m + c ((m : Int) / g)
    split <;> omega
def wkF (P : Nat → Int → Bool) (g N n s : Int) : Nat → Int → Int
  | 0, v => if v = s then 1 else 0
  | k + 1, v => wAcc (P k) g N (wkF P g N n s k) n.toNat v
theorem wk_b {P : Nat → Int → Bool} {g N n s : Int} (hg : 1 ≤ g) (hN : 0 ≤ N) (hn : n = N * g) : ∀ k : Nat, (∀ v, 0 ≤ v → v < N → 0 ≤ wkF P g N n s k v) ∧ sm (wkF P g N n s k) N.toNat ≤ g ^ k
  | 0 => by
    refine ⟨fun v _ _ => by unfold wkF; split <;> omega, ?_⟩
    have h := sm_one (p := true) (k := s) (x := 1) N.toNat
    have e : sm (wkF P g N n s 0) N.toNat = sm (fun v => if (true && (s == v)) = true then 1 else 0) N.toNat := sm_c _ fun i _ _ => by
      show (if i = s then (1 : Int) else 0) = _
      by_cases q : i = s
      · rw [if_pos q, if_pos (by simp [q])]
      · rw [if_neg q, if_neg (by simp; omega)]
    rw [e, h]
    split <;> simp
  | k + 1 => by
    obtain ⟨h1, h2⟩ := wk_b hg hN hn k
    have hm : ((n.toNat : Nat) : Int) ≤ N * g := by
      have := Int.mul_nonneg hN (show 0 ≤ g by omega)
      omega
    refine ⟨fun v h0 hv => (wA_b hg h1 n.toNat hm v).1, ?_⟩
    have h3 := wA_sum (P := P k) (N := N) hg h1 N.toNat n.toNat hm
    rw [sm_div hg hN hn] at h3
    have h4 : g * sm (wkF P g N n s k) N.toNat ≤ g * g ^ k := Int.mul_le_mul_of_nonneg_left h2 (by omega)
    rw [Int.pow_succ, Int.mul_comm (g ^ k)]
    exact Int.le_trans h3 h4
theorem wk_S {P : Nat → Int → Bool} {g N n s k v : Int} (h : 0 ≤ k) : wkF P g N n s (k + 1).toNat v = wAcc (P k.toNat) g N (wkF P g N n s k.toNat) n.toNat v := by
  rw [show (k + 1).toNat = k.toNat + 1 by omega]; rfl
theorem pwl {a b : Int} (h : 0 ≤ a ∧ a ≤ b) : ∀ k : Nat, a ^ k ≤ b ^ k
  | 0 => by simp
  | k + 1 => by
    have ih := pwl h k
    rw [Int.pow_succ, Int.pow_succ]
    exact Int.mul_le_mul ih h.2 h.1 (Int.pow_nonneg (by omega))
theorem g6_16 {g : Int} (hg : 2 ≤ g ∧ g ≤ 6) {k : Nat} (hk : k ≤ 16) : 1 ≤ g ^ k ∧ g ^ k ≤ 2821109907456 := by
  have h1 : g ^ k ≤ 6 ^ k := pwl ⟨by omega, hg.2⟩ k
  exact ⟨Int.pow_pos (by omega), Int.le_trans h1 (pow6 hk)⟩
def labP (T R : Int → Int) (w L : Int) : Nat → Int → Bool := fun k e => T e == R (((k : Int) + w - 2) % L)
def CLW (T R : Int → Int) (g N n w L : Int) : Int := sm (fun s => wkF (labP T R w L) g N n s L.toNat s) N.toNat
theorem fr_rul {r a : Int} (hr : rul r) (h : a = 50 ∨ a = 51 ∨ a = 52) : r ≠ a ∧ r + 1 ≠ a ∧ r + 2 ≠ a ∧ r + 3 ≠ a := by rcases hr with rfl | rfl | rfl <;> rcases h with rfl | rfl | rfl <;> decide
theorem fr_rng {r a : Int} (hr : rng r) (h : a = 50 ∨ a = 51 ∨ a = 52) : r ≠ a ∧ r + 1 ≠ a := by rcases hr with rfl | rfl | rfl | rfl | rfl | rfl <;> rcases h with rfl | rfl | rfl <;> decide
theorem fr5 {r : Int} (h : r ≠ 50 ∧ r ≠ 51) : r ∉ [(50 : Int), 51] := by simp; exact h
theorem fr_a {a r : Int} (h : r ≠ a) : r ∉ [a] := by simpa using h

theorem wA_skip {P : Int → Bool} {g N d : Int} {c : Int → Int} (hg : 1 ≤ g) (hd : 0 ≤ d) (h : c d = 0) (v : Int) : wAcc P g N c ((d + 1) * g).toNat v = wAcc P g N c (d * g).toNat v := by
  have key : ∀ x : Nat, (x : Int) ≤ g → wAcc P g N c (d * g + x).toNat v = wAcc P g N c (d * g).toNat v := by
    intro x
    induction x with
    | zero => intro _; simp
    | succ x ih =>
      intro hx
      have h0 : 0 ≤ d * g := Int.mul_nonneg hd (by omega)
      rw [show d * g + ((x + 1 : Nat) : Int) = d * g + x + 1 by push_cast; omega, wA_S (by omega), ih (by omega), (dm_of (p := d) (g := g) (x := (x : Int)) ⟨by omega, by omega⟩).1, h]
      split <;> simp
  have := key g.toNat (by omega)
  rw [show ((g.toNat : Nat) : Int) = g by omega] at this
  rw [Int.add_mul, Int.one_mul]; exact this
set_option maxHeartbeats 4000000 in
theorem ok_X10_labelOf {V : VV} {r o k : Int} (ho9 : RO V r) (hr : rul r) (hro : rng o) (hn : 1 ≤ V o 1 ∧ V o 1 ≤ 16) (hk : 0 ≤ k ∧ k ≤ 100) : Ok NC yX10_labelOf cX10_labelOf 3 (some .int) 3 64 [vA r, vA o, vI k] V (pI (fun x9 V' => x9 = V (o + 1) ((k + V r 4 - 2) % V o 1) ∧ V' = V)) := by
  refine Ok.intro (by decide +kernel) (Nat.le_of_ble_eq_true rfl) (fun X G hX hG hR hoa hoV => ?_)
  show J X G 0 [vA r, vA o, vI k] [] V
  have hb9 := ho9.b
  have hnn := ho9.n
  refine j_al1 hX dX10_labelOf_0 rfl ?_
  refine j_il2 hX dX10_labelOf_1 ?_
  refine j_al0 hX dX10_labelOf_2 rfl ?_
  refine j_getI hX hG fl_X10_58 (Or.inl rfl) (by first | assumption | decide | exact ob8 (by assumption) | exact ob7 (by assumption) | exact ob2 (by assumption)) dX10_labelOf_3 ?_
  refine j_iadd hX dX10_labelOf_6 (by omega) ?_
  refine j_iconst hX dX10_labelOf_7 ⟨by decide, by decide⟩ ?_
  refine j_isub hX dX10_labelOf_8 (by omega) ?_
  refine j_pVI1 (ci := 7) hX hG lk_X10_61 (ok_X7_stateAround (by first | assumption | omega | decide) (by first | assumption | omega | decide)) (by first | assumption | decide | exact ob8 (by assumption) | exact ob7 (by assumption) | exact ob2 (by assumption)) rfl (Nat.le_of_ble_eq_true rfl) (Nat.le_of_ble_eq_true rfl) (Nat.le_of_ble_eq_true rfl) rfl dX10_labelOf_9 ?_
  exact j_retI hR dX10_labelOf_12 ⟨by first | rfl | omega | (exfalso; omega), rfl⟩
set_option maxHeartbeats 4000000 in
theorem ok_X10_addEdges {V : VV} {r l d : Int} (ho9 : RO V r) (hr : rul r) (hd : 0 ≤ d ∧ d < V r 6) (hB : (∀ u, 0 ≤ u → u < V r 6 → 0 ≤ V 50 u) ∧ V r 3 * sm (V 50) (V r 6).toNat ≤ 1000000000000000) (hA : ∀ v, 0 ≤ v → v < V r 6 → V 51 v = wAcc (fun e => V (r + 1) e == l) (V r 3) (V r 6) (V 50) (d * V r 3).toNat v) : Ok NC yX10_addEdges cX10_addEdges 7 none 2 42 [vA 49, vA r, vI l, vI d] V (pV (fun V' => (∀ v, 0 ≤ v → v < V r 6 → V' 51 v = wAcc (fun e => V (r + 1) e == l) (V r 3) (V r 6) (V 50) ((d + 1) * V r 3).toNat v) ∧ fr [51] V V')) := by
  refine Ok.intro (by decide +kernel) (Nat.le_of_ble_eq_true rfl) (fun X G hX hG hR hoa hoV => ?_)
  show J X G 0 [vA 49, vA r, vI l, vI d, vU, vU, vU] [] V
  have hb9 := ho9.b
  have hnn := ho9.n
  have n50 := fr_rul hr (a := 50) (Or.inl rfl)
  have n51 := fr_rul hr (a := 51) (Or.inr (Or.inl rfl))
  have hde : d * V r 3 + V r 3 ≤ V r 5 := by have := wd_b (g := V r 3) (a := d) (b := V r 3 - 1) (N := V r 6) (by omega) hd (by omega); omega
  have hd0 : 0 ≤ d * V r 3 := Int.mul_nonneg hd.1 (by omega)
  refine j_iconst hX dX10_addEdges_0 ⟨by decide, by decide⟩ ?_
  refine j_is4 hX dX10_addEdges_1 rfl ?_
  have lp_3 : ∀ (f9 : Nat) (x : Int) (W : VV), (0 ≤ x ∧ x ≤ V r 3) → (fr [51] V W) → (∀ v, 0 ≤ v → v < V r 6 → W 51 v = wAcc (fun e => V (r + 1) e == l) (V r 3) (V r 6) (V 50) (d * V r 3 + x).toNat v) → ((V r 3 - x).toNat) < f9 → J X G 3 [vA 49, vA r, vI l, vI d, vI x, vU, vU] [] W := by
    intro f9
    induction f9 with
    | zero => intro x W _ _ _ hm; exact absurd hm (Nat.not_lt_zero _)
    | succ f9 ih_3 =>
      intro x W hx hs hW hm
      refine j_il4 hX dX10_addEdges_3 ?_
      refine j_al1 hX dX10_addEdges_5 rfl ?_
      refine j_getI hX hG fl_X10_69 (Or.inl rfl) (by first | assumption | decide | exact ob8 (by assumption) | exact ob7 (by assumption) | exact ob2 (by assumption)) dX10_addEdges_6 ?_
      refine j_icmp_ge (tgt := 77) hX dX10_addEdges_9 (by decide) (fun h_9 => ?_) (fun h_9 => ?_)
      · skip
        exact j_ret hR dX10_addEdges_77 (by have ex : x = V r 3 := (by have := hs r 3 (fr_a n51.1); omega); subst ex; exact ⟨fun v h0 h1 => by rw [show (d + 1) * V r 3 = d * V r 3 + V r 3 by rw [Int.add_mul, Int.one_mul]]; exact hW v h0 h1, hs⟩)
      · skip
        have q3 : W r 3 = V r 3 := hs r 3 (fr_a n51.1)
        have q6 : W r 6 = V r 6 := hs r 6 (fr_a n51.1)
        have qT : ∀ e, W (r + 1) e = V (r + 1) e := fun e => hs (r + 1) e (fr_a n51.2.1)
        have q50 : ∀ b, W 50 b = V 50 b := fun b => hs 50 b (by decide)
        refine j_il3 hX dX10_addEdges_12 ?_
        refine j_al1 hX dX10_addEdges_13 rfl ?_
        refine j_getI hX hG fl_X10_69 (Or.inl rfl) (by first | assumption | decide | exact ob8 (by assumption) | exact ob7 (by assumption) | exact ob2 (by assumption)) dX10_addEdges_14 ?_
        refine j_eqS (st' := [vI (V r 3), vI d]) (by rw [q3]) ?_
        refine j_imul hX dX10_addEdges_17 (by omega) ?_
        refine j_il4 hX dX10_addEdges_18 ?_
        refine j_iadd hX dX10_addEdges_20 (by omega) ?_
        refine j_is5 hX dX10_addEdges_21 rfl ?_
        refine j_al1 hX dX10_addEdges_23 rfl ?_
        refine j_il5 hX dX10_addEdges_24 ?_
        refine j_pVI1 (ci := 8) hX hG lk_X10_72 (ok_X8_gives (by first | assumption | omega | decide) (by omega)) (by first | assumption | decide | exact ob8 (by assumption) | exact ob7 (by assumption) | exact ob2 (by assumption)) rfl (Nat.le_of_ble_eq_true rfl) (Nat.le_of_ble_eq_true rfl) (Nat.le_of_ble_eq_true rfl) rfl dX10_addEdges_26 ?_
        refine j_eqS (st' := [vI (V (r + 1) (d * V r 3 + x))]) (by rw [qT]) ?_
        refine j_il2 hX dX10_addEdges_29 ?_
        refine j_icmp_ne (tgt := 71) hX dX10_addEdges_30 (by decide) (fun h_30 => ?_) (fun h_30 => ?_)
        · skip
          refine j_inc4 hX dX10_addEdges_71 rfl (by omega) ?_
          refine j_goto (tgt := 3) hX dX10_addEdges_74 (by decide) ?_
          refine j_fg5 ?_
          exact ih_3 _ _ (by omega) (by first | exact fr_u hs (by decide) | exact hs) (fun v h0 h1 => by rw [show d * V r 3 + (x + 1) = d * V r 3 + x + 1 by omega, wA_S (by omega), (dm_of (p := d) (g := V r 3) (x := x) ⟨hx.1, by omega⟩).1]; first | (rw [if_neg (by simp [h_30]), hW v h0 h1, Int.add_zero]) | (by_cases e : v = (d * V r 3 + x) % V r 6; (rw [if_pos (by simp [h_30, e]), e, up_s, hW _ (md_b _ (by omega)).1 (md_b _ (by omega)).2, q50]); (rw [if_neg (by simp; intro _ q; exact e q.symm), up_n _ (by omega), hW v h0 h1, Int.add_zero]))) (by omega)
        · skip
          refine j_il5 hX dX10_addEdges_33 ?_
          refine j_al1 hX dX10_addEdges_35 rfl ?_
          refine j_getI hX hG fl_X10_21 (Or.inl rfl) (by first | assumption | decide | exact ob8 (by assumption) | exact ob7 (by assumption) | exact ob2 (by assumption)) dX10_addEdges_36 ?_
          refine j_eqS (st' := [vI (V r 6), vI (d * V r 3 + x)]) (by rw [q6]) ?_
          refine j_pSI2 hX hG lk_X10_75 (ok_X11_remainder_in (by omega) (by omega)) (Nat.le_of_ble_eq_true rfl) (Nat.le_of_ble_eq_true rfl) (Nat.le_of_ble_eq_true rfl) rfl dX10_addEdges_39 ?_
          have hm9 := md_b (d * V r 3 + x) (n := V r 6) (by omega)
          have ha9 := wA_b (P := (fun e => V (r + 1) e == l)) (N := V r 6) (M := V r 6) (g := V r 3) (by omega) hB.1 (d * V r 3 + x).toNat (by omega) ((d * V r 3 + x) % V r 6)
          have hb8 := sm_mono (f := fun e => V 50 (e / V r 3)) (m := (d * V r 3 + x).toNat) (V r 5).toNat (by omega) (fun i h0 h1 => hB.1 _ (Int.ediv_nonneg h0 (by omega)) (Int.ediv_lt_of_lt_mul (by omega) (by omega)))
          rw [sm_div (by omega) (by omega) hnn] at hb8
          have hc8 := sm_ge (f := V 50) (n := (V r 6).toNat) (fun i h0 h1 => hB.1 i h0 (by omega)) hd.1 (by omega)
          have hc7 := sm_nn (f := V 50) (V r 6).toNat (fun i h0 h1 => hB.1 i h0 (by omega))
          have hc6 : sm (V 50) (V r 6).toNat ≤ V r 3 * sm (V 50) (V r 6).toNat := by have := Int.mul_le_mul_of_nonneg_right (a := 1) (b := V r 3) (c := sm (V 50) (V r 6).toNat) (by omega) hc7; omega
          have hw9 := hW _ hm9.1 hm9.2
          have hd9 := hB.1 d hd.1 hd.2
          refine j_is6 hX dX10_addEdges_42 rfl ?_
          refine j_al0 hX dX10_addEdges_44 rfl ?_
          refine j_getR (q := 51) hX hG fl_X10_15 rfl rfl (by decide) dX10_addEdges_45 ?_
          refine j_il6 hX dX10_addEdges_48 ?_
          refine j_al0 hX dX10_addEdges_50 rfl ?_
          refine j_getR (q := 51) hX hG fl_X10_15 rfl rfl (by decide) dX10_addEdges_51 ?_
          refine j_il6 hX dX10_addEdges_54 ?_
          refine j_pSL2 hX hG lk_X10_54 (ok_X11_bitsAt_in (n := 36) (by decide) (by first | assumption | decide) (by omega)) (Nat.le_of_ble_eq_true rfl) (Nat.le_of_ble_eq_true rfl) (Nat.le_of_ble_eq_true rfl) rfl dX10_addEdges_56 ?_
          refine j_al0 hX dX10_addEdges_59 rfl ?_
          refine j_getR (q := 50) hX hG fl_X10_9 rfl rfl (by decide) dX10_addEdges_60 ?_
          refine j_il3 hX dX10_addEdges_63 ?_
          refine j_pSL2 hX hG lk_X10_54 (ok_X11_bitsAt_in (n := 36) (by decide) (by first | assumption | decide) (by omega)) (Nat.le_of_ble_eq_true rfl) (Nat.le_of_ble_eq_true rfl) (Nat.le_of_ble_eq_true rfl) rfl dX10_addEdges_64 ?_
          refine j_ladd hX dX10_addEdges_67 (by rw [q50]; omega) ?_
          refine j_cSV3 hX hG lk_X10_37 (ok_X11_putBits_in (n := 36) (by decide) (by first | assumption | decide) (by omega)) (Nat.le_of_ble_eq_true rfl) (Nat.le_of_ble_eq_true rfl) (Nat.le_of_ble_eq_true rfl) rfl dX10_addEdges_68 (fun V_68 h_68 => ?_)
          subst h_68
          refine j_inc4 hX dX10_addEdges_71 rfl (by omega) ?_
          refine j_goto (tgt := 3) hX dX10_addEdges_74 (by decide) ?_
          refine j_fg5 ?_
          refine j_fg6 ?_
          exact ih_3 _ _ (by omega) (by first | exact fr_u hs (by decide) | exact hs) (fun v h0 h1 => by rw [show d * V r 3 + (x + 1) = d * V r 3 + x + 1 by omega, wA_S (by omega), (dm_of (p := d) (g := V r 3) (x := x) ⟨hx.1, by omega⟩).1]; first | (rw [if_neg (by simp [h_30]), hW v h0 h1, Int.add_zero]) | (by_cases e : v = (d * V r 3 + x) % V r 6; (rw [if_pos (by simp [h_30, e]), e, up_s, hW _ (md_b _ (by omega)).1 (md_b _ (by omega)).2, q50]); (rw [if_neg (by simp; intro _ q; exact e q.symm), up_n _ (by omega), hW v h0 h1, Int.add_zero]))) (by omega)
  exact lp_3 _ _ _ (by omega) fr_0 (fun v h0 h1 => by rw [Int.add_zero]; exact hA v h0 h1) (Nat.lt_succ_self _)
set_option maxHeartbeats 4000000 in
theorem ok_X10_countEdges {V : VV} {r l : Int} (ho9 : RO V r) (hr : rul r) (hB : (∀ u, 0 ≤ u → u < V r 6 → 0 ≤ V 50 u) ∧ V r 3 * sm (V 50) (V r 6).toNat ≤ 1000000000000000) : Ok NC yX10_countEdges cX10_countEdges 4 none 3 68 [vA 49, vA r, vI l] V (pV (fun V' => (∀ v, 0 ≤ v → v < V r 6 → V' 50 v = wAcc (fun e => V (r + 1) e == l) (V r 3) (V r 6) (V 50) (V r 5).toNat v) ∧ fr [50, 51] V V')) := by
  refine Ok.intro (by decide +kernel) (Nat.le_of_ble_eq_true rfl) (fun X G hX hG hR hoa hoV => ?_)
  show J X G 0 [vA 49, vA r, vI l, vU] [] V
  have hb9 := ho9.b
  have hnn := ho9.n
  have n50 := fr_rul hr (a := 50) (Or.inl rfl)
  have n51 := fr_rul hr (a := 51) (Or.inr (Or.inl rfl))
  refine j_al0 hX dX10_countEdges_0 rfl ?_
  refine j_getR (q := 51) hX hG fl_X10_15 rfl rfl (by decide) dX10_countEdges_1 ?_
  refine j_lconst (x := 0) hX dX10_countEdges_4 rfl ⟨by decide, by decide⟩ ?_
  refine j_cSV2 hX hG lk_X10_31 (ok_J7_fill_d0a16 (n := 36) (by decide) (by first | assumption | decide)) (Nat.le_of_ble_eq_true rfl) (Nat.le_of_ble_eq_true rfl) (Nat.le_of_ble_eq_true rfl) rfl dX10_countEdges_5 (fun V_5 h_5 => ?_)
  subst h_5
  refine j_iconst hX dX10_countEdges_8 ⟨by decide, by decide⟩ ?_
  refine j_is3 hX dX10_countEdges_9 rfl ?_
  have lp_10 : ∀ (f9 : Nat) (d : Int) (W : VV), (0 ≤ d ∧ d ≤ V r 6) → (fr [51] V W) → (∀ v, 0 ≤ v → v < V r 6 → W 51 v = wAcc (fun e => V (r + 1) e == l) (V r 3) (V r 6) (V 50) (d * V r 3).toNat v) → ((V r 6 - d).toNat) < f9 → J X G 10 [vA 49, vA r, vI l, vI d] [] W := by
    intro f9
    induction f9 with
    | zero => intro d W _ _ _ hm; exact absurd hm (Nat.not_lt_zero _)
    | succ f9 ih_10 =>
      intro d W hd hs hW hm
      refine j_il3 hX dX10_countEdges_10 ?_
      refine j_al1 hX dX10_countEdges_11 rfl ?_
      refine j_getI hX hG fl_X10_21 (Or.inl rfl) (by first | assumption | decide | exact ob8 (by assumption) | exact ob7 (by assumption) | exact ob2 (by assumption)) dX10_countEdges_12 ?_
      refine j_icmp_ge (tgt := 44) hX dX10_countEdges_15 (by decide) (fun h_15 => ?_) (fun h_15 => ?_)
      · skip
        refine j_iconst hX dX10_countEdges_44 ⟨by decide, by decide⟩ ?_
        refine j_is3 hX dX10_countEdges_45 rfl ?_
        have lp_46 : ∀ (f9 : Nat) (i : Int) (W : VV), (0 ≤ i ∧ i ≤ V r 6) → (fr [50, 51] V W) → (∀ v, 0 ≤ v → v < V r 6 → W 51 v = wAcc (fun e => V (r + 1) e == l) (V r 3) (V r 6) (V 50) (V r 5).toNat v) → (∀ v, 0 ≤ v → v < i → W 50 v = wAcc (fun e => V (r + 1) e == l) (V r 3) (V r 6) (V 50) (V r 5).toNat v) → ((V r 6 - i).toNat) < f9 → J X G 46 [vA 49, vA r, vI l, vI i] [] W := by
          intro f9
          induction f9 with
          | zero => intro i W _ _ _ _ hm; exact absurd hm (Nat.not_lt_zero _)
          | succ f9 ih_46 =>
            intro i W hi hs hW hC hm
            refine j_il3 hX dX10_countEdges_46 ?_
            refine j_al1 hX dX10_countEdges_47 rfl ?_
            refine j_getI hX hG fl_X10_21 (Or.inl rfl) (by first | assumption | decide | exact ob8 (by assumption) | exact ob7 (by assumption) | exact ob2 (by assumption)) dX10_countEdges_48 ?_
            refine j_icmp_ge (tgt := 76) hX dX10_countEdges_51 (by decide) (fun h_51 => ?_) (fun h_51 => ?_)
            · skip
              exact j_ret hR dX10_countEdges_76 ⟨fun v h0 h1 => hC v h0 (by have := hs r 6 (fr5 ⟨n50.1, n51.1⟩); omega), hs⟩
            · skip
              have q6 : W r 6 = V r 6 := hs r 6 (fr5 ⟨n50.1, n51.1⟩)
              refine j_al0 hX dX10_countEdges_54 rfl ?_
              refine j_getR (q := 50) hX hG fl_X10_9 rfl rfl (by decide) dX10_countEdges_55 ?_
              refine j_il3 hX dX10_countEdges_58 ?_
              refine j_al0 hX dX10_countEdges_59 rfl ?_
              refine j_getR (q := 51) hX hG fl_X10_15 rfl rfl (by decide) dX10_countEdges_60 ?_
              refine j_il3 hX dX10_countEdges_63 ?_
              refine j_pSL2 hX hG lk_X10_54 (ok_X11_bitsAt_in (n := 36) (by decide) (by first | assumption | decide) (by omega)) (Nat.le_of_ble_eq_true rfl) (Nat.le_of_ble_eq_true rfl) (Nat.le_of_ble_eq_true rfl) rfl dX10_countEdges_64 ?_
              refine j_cSV3 hX hG lk_X10_37 (ok_X11_putBits_in (n := 36) (by decide) (by first | assumption | decide) (by omega)) (Nat.le_of_ble_eq_true rfl) (Nat.le_of_ble_eq_true rfl) (Nat.le_of_ble_eq_true rfl) rfl dX10_countEdges_67 (fun V_67 h_67 => ?_)
              subst h_67
              refine j_inc3 hX dX10_countEdges_70 rfl (by omega) ?_
              refine j_goto (tgt := 46) hX dX10_countEdges_73 (by decide) ?_
              exact ih_46 _ _ (by omega) (fr_u hs (by decide)) (fun v h0 h1 => by rw [up_n _ (by omega)]; exact hW v h0 h1) (lt_stepI (fun v h0 h1 => by rw [up_n _ (by omega)]; exact hC v h0 h1) (by rw [up_s]; exact hW i hi.1 (by omega))) (by omega)
        exact lp_46 _ _ _ ⟨by decide, by omega⟩ (fr_w hs (by decide)) (fun v h0 h1 => by rw [hW v h0 h1, hnn, show d = V r 6 by have := hs r 6 (fr_a n51.1); omega]) (fun v h0 h1 => by omega) (Nat.lt_succ_self _)
      · skip
        have q3 : W r 3 = V r 3 := hs r 3 (fr_a n51.1)
        have q6 : W r 6 = V r 6 := hs r 6 (fr_a n51.1)
        have qT : W (r + 1) = V (r + 1) := funext fun e => hs (r + 1) e (fr_a n51.2.1)
        have q50 : W 50 = V 50 := funext fun b => hs 50 b (by decide)
        have roW : RO W r := ho9.sm (fun b => hs r b (fr_a n51.1))
        refine j_al0 hX dX10_countEdges_18 rfl ?_
        refine j_getR (q := 50) hX hG fl_X10_9 rfl rfl (by decide) dX10_countEdges_19 ?_
        refine j_il3 hX dX10_countEdges_22 ?_
        refine j_pSL2 hX hG lk_X10_54 (ok_X11_bitsAt_in (n := 36) (by decide) (by first | assumption | decide) (by omega)) (Nat.le_of_ble_eq_true rfl) (Nat.le_of_ble_eq_true rfl) (Nat.le_of_ble_eq_true rfl) rfl dX10_countEdges_23 ?_
        refine j_lconst (x := 0) hX dX10_countEdges_26 rfl ⟨by decide, by decide⟩ ?_
        refine j_lcmp_eq (tgt := 38) hX dX10_countEdges_27 dX10_countEdges_28 (by decide) (fun h_28 => ?_) (fun h_28 => ?_)
        · skip
          try (have h9 : V 50 d = 0 := by rw [← q50]; exact h_28)
          refine j_inc3 hX dX10_countEdges_38 rfl (by omega) ?_
          refine j_goto (tgt := 10) hX dX10_countEdges_41 (by decide) ?_
          exact ih_10 _ _ (by omega) (by first | exact hs | exact fr_t hs f_35) (by first | exact (fun v h0 h1 => by rw [hW v h0 h1]; exact (wA_skip (by omega) hd.1 h9 v).symm) | exact (fun v h0 h1 => by rw [a_35 v h0 (by rw [q6]; exact h1), qT, q3, q6, q50])) (by omega)
        · skip
          refine j_al0 hX dX10_countEdges_31 rfl ?_
          refine j_al1 hX dX10_countEdges_32 rfl ?_
          refine j_il2 hX dX10_countEdges_33 ?_
          refine j_il3 hX dX10_countEdges_34 ?_
          refine j_cVV3 (ci := 10) hX hG lk_X10_65 (ok_X10_addEdges roW (by first | assumption | omega | decide) (by omega) (by rw [q50, q3, q6]; exact hB) (by rw [q50, q3, q6, qT]; exact hW)) (by decide) rfl (Nat.le_of_ble_eq_true rfl) (Nat.le_of_ble_eq_true rfl) (Nat.le_of_ble_eq_true rfl) rfl dX10_countEdges_35 (fun V_35 h_35 => ?_)
          obtain ⟨a_35, f_35⟩ := h_35
          try (have h9 : V 50 d = 0 := by rw [← q50]; exact h_28)
          refine j_inc3 hX dX10_countEdges_38 rfl (by omega) ?_
          refine j_goto (tgt := 10) hX dX10_countEdges_41 (by decide) ?_
          exact ih_10 _ _ (by omega) (by first | exact hs | exact fr_t hs f_35) (by first | exact (fun v h0 h1 => by rw [hW v h0 h1]; exact (wA_skip (by omega) hd.1 h9 v).symm) | exact (fun v h0 h1 => by rw [a_35 v h0 (by rw [q6]; exact h1), qT, q3, q6, q50])) (by omega)
  exact lp_10 _ _ _ ⟨by decide, by omega⟩ (fr_f fr_0 (by decide)) (fun v h0 h1 => by rw [fill_in _ h0 (by omega), Int.zero_mul]; rfl) (Nat.lt_succ_self _)
set_option maxHeartbeats 4000000 in
theorem ok_X10_countFrom {V : VV} {r o s : Int} (ho9 : RO V r) (hr : rul r) (hro : rng o) (hn : 1 ≤ V o 1 ∧ V o 1 ≤ 16) (hs9 : 0 ≤ s ∧ s < V r 6) : Ok NC yX10_countFrom cX10_countFrom 5 (some .long) 4 91 [vA 49, vA r, vA o, vI s] V (pL (fun x9 V' => x9 = wkF (labP (V (r + 1)) (V (o + 1)) (V r 4) (V o 1)) (V r 3) (V r 6) (V r 5) s (V o 1).toNat s ∧ fr [50, 51] V V')) := by
  refine Ok.intro (by decide +kernel) (Nat.le_of_ble_eq_true rfl) (fun X G hX hG hR hoa hoV => ?_)
  show J X G 0 [vA 49, vA r, vA o, vI s, vU] [] V
  have hb9 := ho9.b
  have hnn := ho9.n
  have n50 := fr_rul hr (a := 50) (Or.inl rfl)
  have n51 := fr_rul hr (a := 51) (Or.inr (Or.inl rfl))
  have m50 := fr_rng hro (a := 50) (Or.inl rfl)
  have m51 := fr_rng hro (a := 51) (Or.inr (Or.inl rfl))
  refine j_al0 hX dX10_countFrom_0 rfl ?_
  refine j_getR (q := 50) hX hG fl_X10_9 rfl rfl (by decide) dX10_countFrom_1 ?_
  refine j_lconst (x := 0) hX dX10_countFrom_4 rfl ⟨by decide, by decide⟩ ?_
  refine j_cSV2 hX hG lk_X10_31 (ok_J7_fill_d0a16 (n := 36) (by decide) (by first | assumption | decide)) (Nat.le_of_ble_eq_true rfl) (Nat.le_of_ble_eq_true rfl) (Nat.le_of_ble_eq_true rfl) rfl dX10_countFrom_5 (fun V_5 h_5 => ?_)
  subst h_5
  refine j_al0 hX dX10_countFrom_8 rfl ?_
  refine j_getR (q := 50) hX hG fl_X10_9 rfl rfl (by decide) dX10_countFrom_9 ?_
  refine j_il3 hX dX10_countFrom_12 ?_
  refine j_lconst (x := 1) hX dX10_countFrom_13 rfl ⟨by decide, by decide⟩ ?_
  refine j_cSV3 hX hG lk_X10_37 (ok_X11_putBits_in (n := 36) (by decide) (by first | assumption | decide) (by omega)) (Nat.le_of_ble_eq_true rfl) (Nat.le_of_ble_eq_true rfl) (Nat.le_of_ble_eq_true rfl) rfl dX10_countFrom_14 (fun V_14 h_14 => ?_)
  subst h_14
  refine j_iconst hX dX10_countFrom_17 ⟨by decide, by decide⟩ ?_
  refine j_is4 hX dX10_countFrom_18 rfl ?_
  have lp_20 : ∀ (f9 : Nat) (k : Int) (W : VV), (0 ≤ k ∧ k ≤ V o 1) → (fr [50, 51] V W) → (∀ v, 0 ≤ v → v < V r 6 → W 50 v = wkF (labP (V (r + 1)) (V (o + 1)) (V r 4) (V o 1)) (V r 3) (V r 6) (V r 5) s k.toNat v) → ((V o 1 - k).toNat) < f9 → J X G 20 [vA 49, vA r, vA o, vI s, vI k] [] W := by
    intro f9
    induction f9 with
    | zero => intro k W _ _ _ hm; exact absurd hm (Nat.not_lt_zero _)
    | succ f9 ih_20 =>
      intro k W hk hs hW hm
      refine j_il4 hX dX10_countFrom_20 ?_
      refine j_al2 hX dX10_countFrom_22 rfl ?_
      refine j_getI hX hG fl_X10_41 (Or.inl rfl) (by first | assumption | decide | exact ob8 (by assumption) | exact ob7 (by assumption) | exact ob2 (by assumption)) dX10_countFrom_23 ?_
      refine j_icmp_ge (tgt := 47) hX dX10_countFrom_26 (by decide) (fun h_26 => ?_) (fun h_26 => ?_)
      · skip
        refine j_al0 hX dX10_countFrom_47 rfl ?_
        refine j_getR (q := 50) hX hG fl_X10_9 rfl rfl (by decide) dX10_countFrom_48 ?_
        refine j_il3 hX dX10_countFrom_51 ?_
        refine j_pSL2 hX hG lk_X10_54 (ok_X11_bitsAt_in (n := 36) (by decide) (by first | assumption | decide) (by omega)) (Nat.le_of_ble_eq_true rfl) (Nat.le_of_ble_eq_true rfl) (Nat.le_of_ble_eq_true rfl) rfl dX10_countFrom_52 ?_
        exact j_retL hR dX10_countFrom_55 ⟨by rw [hW s hs9.1 hs9.2, show k = V o 1 by have := hs o 1 (fr5 ⟨m50.1, m51.1⟩); omega], hs⟩
      · skip
        have q3 : W r 3 = V r 3 := hs r 3 (fr5 ⟨n50.1, n51.1⟩)
        have q4 : W r 4 = V r 4 := hs r 4 (fr5 ⟨n50.1, n51.1⟩)
        have q5 : W r 5 = V r 5 := hs r 5 (fr5 ⟨n50.1, n51.1⟩)
        have q6 : W r 6 = V r 6 := hs r 6 (fr5 ⟨n50.1, n51.1⟩)
        have qT : W (r + 1) = V (r + 1) := funext fun e => hs (r + 1) e (fr5 ⟨n50.2.1, n51.2.1⟩)
        have qo : W o 1 = V o 1 := hs o 1 (fr5 ⟨m50.1, m51.1⟩)
        have qR : W (o + 1) = V (o + 1) := funext fun e => hs (o + 1) e (fr5 ⟨m50.2, m51.2⟩)
        have roW : RO W r := ho9.sm (fun b => hs r b (fr5 ⟨n50.1, n51.1⟩))
        have hwb := wk_b (P := (labP (V (r + 1)) (V (o + 1)) (V r 4) (V o 1))) (s := s) (show 1 ≤ V r 3 by omega) (show 0 ≤ V r 6 by omega) hnn k.toNat
        have hg9 := g6_16 hb9.1 (k := (k + 1).toNat) (by omega)
        rw [pwS _ hk.1, Int.mul_comm] at hg9
        have hsm : sm (W 50) (V r 6).toNat = sm (wkF (labP (V (r + 1)) (V (o + 1)) (V r 4) (V o 1)) (V r 3) (V r 6) (V r 5) s k.toNat) (V r 6).toNat := sm_c _ (fun i h0 h1 => hW i h0 (by omega))
        have hsb : V r 3 * sm (W 50) (V r 6).toNat ≤ V r 3 * V r 3 ^ k.toNat := by rw [hsm]; exact Int.mul_le_mul_of_nonneg_left hwb.2 (by omega)
        refine j_al0 hX dX10_countFrom_29 rfl ?_
        refine j_al1 hX dX10_countFrom_30 rfl ?_
        refine j_al1 hX dX10_countFrom_31 rfl ?_
        refine j_al2 hX dX10_countFrom_32 rfl ?_
        refine j_il4 hX dX10_countFrom_33 ?_
        refine j_pSI3 hX hG lk_X10_46 (ok_X10_labelOf roW (by first | assumption | omega | decide) (by first | assumption | omega | decide) (by rw [qo]; exact hn) (by omega)) (Nat.le_of_ble_eq_true rfl) (Nat.le_of_ble_eq_true rfl) (Nat.le_of_ble_eq_true rfl) rfl dX10_countFrom_35 ?_
        refine j_eqS (st' := [vI (V (o + 1) ((k + V r 4 - 2) % V o 1)), vA r, vA 49]) (by rw [qR, q4, qo]) ?_
        refine j_cVV2 (ci := 10) hX hG lk_X10_50 (ok_X10_countEdges roW (by first | assumption | omega | decide) ⟨fun u h0 h1 => by rw [hW u h0 (by rw [q6] at h1; exact h1)]; exact hwb.1 u h0 (by rw [q6] at h1; exact h1), by rw [q3, q6]; omega⟩) (by decide) rfl (Nat.le_of_ble_eq_true rfl) (Nat.le_of_ble_eq_true rfl) (Nat.le_of_ble_eq_true rfl) rfl dX10_countFrom_38 (fun V_38 h_38 => ?_)
        obtain ⟨a_38, f_38⟩ := h_38
        refine j_inc4 hX dX10_countFrom_41 rfl (by omega) ?_
        refine j_goto (tgt := 20) hX dX10_countFrom_44 (by decide) ?_
        exact ih_20 _ _ (by omega) (fr_t hs f_38) (fun v h0 h1 => by rw [a_38 v h0 (by rw [q6]; exact h1), wk_S hk.1, qT, q3, q6, q5]; have el : (fun e => V (r + 1) e == V (o + 1) ((k + V r 4 - 2) % V o 1)) = labP (V (r + 1)) (V (o + 1)) (V r 4) (V o 1) k.toNat := (by unfold labP; rw [show ((k.toNat : Nat) : Int) = k by omega]); rw [el]; exact wA_c (M := V r 6) (by omega) hW _ (by omega) v) (by omega)
  exact lp_20 _ _ _ ⟨by decide, by omega⟩ (fr_u (fr_f fr_0 (by decide)) (by decide)) (fun v h0 h1 => by show _ = (if v = s then 1 else 0); by_cases e : v = s; (rw [if_pos e, e, up_s]); (rw [if_neg e, up_n _ (by omega), fill_in _ h0 (by omega)])) (Nat.lt_succ_self _)
set_option maxHeartbeats 4000000 in
theorem ok_X10_count {V : VV} {r o : Int} (ho9 : RO V r) (hr : rul r) (hro : rng o) (hn : 1 ≤ V o 1 ∧ V o 1 ≤ 16) : Ok NC yX10_count cX10_count 6 (some .long) 5 115 [vA 49, vA r, vA o] V (pL (fun x9 V' => x9 = CLW (V (r + 1)) (V (o + 1)) (V r 3) (V r 6) (V r 5) (V r 4) (V o 1) ∧ fr [50, 51] V V')) := by
  refine Ok.intro (by decide +kernel) (Nat.le_of_ble_eq_true rfl) (fun X G hX hG hR hoa hoV => ?_)
  show J X G 0 [vA 49, vA r, vA o, vU, vU, vU] [] V
  have hb9 := ho9.b
  have hnn := ho9.n
  have n50 := fr_rul hr (a := 50) (Or.inl rfl)
  have n51 := fr_rul hr (a := 51) (Or.inr (Or.inl rfl))
  have m50 := fr_rng hro (a := 50) (Or.inl rfl)
  have m51 := fr_rng hro (a := 51) (Or.inr (Or.inl rfl))
  refine j_lconst (x := 0) hX dX10_count_0 rfl ⟨by decide, by decide⟩ ?_
  refine j_ls3 hX dX10_count_1 rfl ?_
  refine j_iconst hX dX10_count_2 ⟨by decide, by decide⟩ ?_
  refine j_is5 hX dX10_count_3 rfl ?_
  have lp_5 : ∀ (f9 : Nat) (s : Int) (W : VV), (0 ≤ s ∧ s ≤ V r 6) → (fr [50, 51] V W) → ((V r 6 - s).toNat) < f9 → J X G 5 [vA 49, vA r, vA o, vL (sm (fun s => wkF (labP (V (r + 1)) (V (o + 1)) (V r 4) (V o 1)) (V r 3) (V r 6) (V r 5) s (V o 1).toNat s) s.toNat), vU, vI s] [] W := by
    intro f9
    induction f9 with
    | zero => intro s W _ _ hm; exact absurd hm (Nat.not_lt_zero _)
    | succ f9 ih_5 =>
      intro s W hk hs hm
      refine j_il5 hX dX10_count_5 ?_
      refine j_al1 hX dX10_count_7 rfl ?_
      refine j_getI hX hG fl_X10_21 (Or.inl rfl) (by first | assumption | decide | exact ob8 (by assumption) | exact ob7 (by assumption) | exact ob2 (by assumption)) dX10_count_8 ?_
      refine j_icmp_ge (tgt := 31) hX dX10_count_11 (by decide) (fun h_11 => ?_) (fun h_11 => ?_)
      · skip
        refine j_ll3 hX dX10_count_31 ?_
        exact j_retL hR dX10_count_32 ⟨by unfold CLW; rw [show s = V r 6 by have := hs r 6 (fr5 ⟨n50.1, n51.1⟩); omega], hs⟩
      · skip
        have q3 : W r 3 = V r 3 := hs r 3 (fr5 ⟨n50.1, n51.1⟩)
        have q4 : W r 4 = V r 4 := hs r 4 (fr5 ⟨n50.1, n51.1⟩)
        have q5 : W r 5 = V r 5 := hs r 5 (fr5 ⟨n50.1, n51.1⟩)
        have q6 : W r 6 = V r 6 := hs r 6 (fr5 ⟨n50.1, n51.1⟩)
        have qT : W (r + 1) = V (r + 1) := funext fun e => hs (r + 1) e (fr5 ⟨n50.2.1, n51.2.1⟩)
        have qo : W o 1 = V o 1 := hs o 1 (fr5 ⟨m50.1, m51.1⟩)
        have qR : W (o + 1) = V (o + 1) := funext fun e => hs (o + 1) e (fr5 ⟨m50.2, m51.2⟩)
        have roW : RO W r := ho9.sm (fun b => hs r b (fr5 ⟨n50.1, n51.1⟩))
        have hwb : ∀ i, 0 ≤ i → i < V r 6 → 0 ≤ (fun s => wkF (labP (V (r + 1)) (V (o + 1)) (V r 4) (V o 1)) (V r 3) (V r 6) (V r 5) s (V o 1).toNat s) i ∧ (fun s => wkF (labP (V (r + 1)) (V (o + 1)) (V r 4) (V o 1)) (V r 3) (V r 6) (V r 5) s (V o 1).toNat s) i ≤ 2821109907456 := fun i h0 h1 => by
          have h2 := wk_b (P := (labP (V (r + 1)) (V (o + 1)) (V r 4) (V o 1))) (s := i) (show 1 ≤ V r 3 by omega) (show 0 ≤ V r 6 by omega) hnn (V o 1).toNat
          have h3 := sm_ge (f := wkF (labP (V (r + 1)) (V (o + 1)) (V r 4) (V o 1)) (V r 3) (V r 6) (V r 5) i (V o 1).toNat) (n := (V r 6).toNat) (fun j j0 j1 => h2.1 j j0 (by omega)) h0 (by omega)
          have h4 := g6_16 hb9.1 (k := (V o 1).toNat) (by omega)
          exact ⟨h2.1 i h0 h1, Int.le_trans h3 (Int.le_trans h2.2 h4.2)⟩
        have hsb := sm_b (f := (fun s => wkF (labP (V (r + 1)) (V (o + 1)) (V r 4) (V o 1)) (V r 3) (V r 6) (V r 5) s (V o 1).toNat s)) (b := 2821109907456) s.toNat (fun i h0 h1 => (hwb i h0 (by omega)).2)
        have hsn := sm_nn (f := (fun s => wkF (labP (V (r + 1)) (V (o + 1)) (V r 4) (V o 1)) (V r 3) (V r 6) (V r 5) s (V o 1).toNat s)) s.toNat (fun i h0 h1 => (hwb i h0 (by omega)).1)
        have hsi := hwb s hk.1
        refine j_ll3 hX dX10_count_14 ?_
        refine j_al0 hX dX10_count_15 rfl ?_
        refine j_al1 hX dX10_count_16 rfl ?_
        refine j_al2 hX dX10_count_17 rfl ?_
        refine j_il5 hX dX10_count_18 ?_
        refine j_cVL3 (ci := 10) hX hG lk_X10_27 (ok_X10_countFrom roW (by first | assumption | omega | decide) (by first | assumption | omega | decide) (by rw [qo]; exact hn) (by omega)) (by decide) rfl (Nat.le_of_ble_eq_true rfl) (Nat.le_of_ble_eq_true rfl) (Nat.le_of_ble_eq_true rfl) rfl dX10_count_20 (fun x_20 V_20 h_20 => ?_)
        obtain ⟨x_20e, f_20⟩ := h_20
        rw [q3, q4, q5, q6, qT, qo, qR] at x_20e
        subst x_20e
        refine j_ladd hX dX10_count_23 (by have := hsi (by omega); simp only [] at this hsb hsn ⊢; omega) ?_
        refine j_ls3 hX dX10_count_24 rfl ?_
        refine j_inc5 hX dX10_count_25 rfl (by omega) ?_
        refine j_goto (tgt := 5) hX dX10_count_28 (by decide) ?_
        refine j_eqL (ls' := [vA 49, vA r, vA o, vL (sm (fun s => wkF (labP (V (r + 1)) (V (o + 1)) (V r 4) (V o 1)) (V r 3) (V r 6) (V r 5) s (V o 1).toNat s) (s + 1).toNat), vU, vI (s + 1)]) (by rw [sm_S hk.1]) ?_
        exact ih_5 _ _ (by omega) (fr_t hs f_20) (by omega)
  refine j_eqL (ls' := [vA 49, vA r, vA o, vL (sm (fun s => wkF (labP (V (r + 1)) (V (o + 1)) (V r 4) (V o 1)) (V r 3) (V r 6) (V r 5) s (V o 1).toNat s) (0 : Int).toNat), vU, vI 0]) rfl ?_
  exact lp_5 _ _ _ ⟨by decide, by omega⟩ fr_0 (Nat.lt_succ_self _)
