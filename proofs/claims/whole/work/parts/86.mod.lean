def CBq (V : VV) (p k : Int) : Prop := V 81 k = -1 ∨ V 81 k = p % V 55 1
/-- the nodes to which one can come from s by k words -/
def frN (V : VV) (s : Int) : Nat → Int → Prop
  | 0, v => v = s
  | k + 1, v => ∃ e, (0 ≤ e ∧ e < V 55 3) ∧ (frN V s k (e / V 55 1) ∧ V 58 e = V 59 (k : Int) ∧ CBq V (e % V 55 4) (((k : Int) + 1) % V 55 5)) ∧ e % V 55 4 = v
def frE (V : VV) (s k m v : Int) : Prop := ∃ e, 0 ≤ e ∧ e < m ∧ (frN V s k.toNat (e / V 55 1) ∧ V 58 e = V 59 k ∧ CBq V (e % V 55 4) ((k + 1) % V 55 5)) ∧ e % V 55 4 = v
def RETq (V : VV) (s : Int) : Prop := CBq V s 0 ∧ frN V s (V 55 5).toNat s
theorem ite01 {z : Int} {P : Prop} [Decidable P] (h : z = if P then 1 else 0) : (z = 1 ∧ P) ∨ (z = 0 ∧ ¬ P) := by
  by_cases q : P
  · rw [if_pos q] at h; exact Or.inl ⟨h, q⟩
  · rw [if_neg q] at h; exact Or.inr ⟨h, q⟩
theorem frN_S {V : VV} {s k v : Int} (hk : 0 ≤ k) : frN V s (k + 1).toNat v ↔ frE V s k (V 55 3) v := by
  rw [show (k + 1).toNat = k.toNat + 1 by omega]
  have e : ((k.toNat : Nat) : Int) = k := by omega
  unfold frE
  show (∃ e, (0 ≤ e ∧ e < V 55 3) ∧ (frN V s k.toNat (e / V 55 1) ∧ V 58 e = V 59 ((k.toNat : Nat) : Int) ∧ CBq V (e % V 55 4) ((((k.toNat : Nat) : Int) + 1) % V 55 5)) ∧ e % V 55 4 = v) ↔ _
  rw [e]
  exact ⟨fun ⟨e, a, b, c⟩ => ⟨e, a.1, a.2, b, c⟩, fun ⟨e, a, b, c, d⟩ => ⟨e, ⟨a, b⟩, c, d⟩⟩
theorem frE_no {V Z : VV} {s k e : Int} (h : ∀ v, 0 ≤ v → v < V 55 4 → (Z 83 v = 1 ∧ frE V s k e v) ∨ (Z 83 v = 0 ∧ ¬ frE V s k e v)) (hn : ¬ (frN V s k.toNat (e / V 55 1) ∧ V 58 e = V 59 k ∧ CBq V (e % V 55 4) ((k + 1) % V 55 5))) : ∀ v, 0 ≤ v → v < V 55 4 → (Z 83 v = 1 ∧ frE V s k (e + 1) v) ∨ (Z 83 v = 0 ∧ ¬ frE V s k (e + 1) v) := fun v a b => by
  rcases h v a b with ⟨c, e', d0, d1, d2, d3⟩ | ⟨c, d⟩
  · exact Or.inl ⟨c, e', d0, by omega, d2, d3⟩
  · refine Or.inr ⟨c, fun ⟨e', d0, d1, d2, d3⟩ => ?_⟩
    by_cases q : e' = e
    · rw [q] at d2; exact hn d2
    · exact d ⟨e', d0, by omega, d2, d3⟩
theorem frE_yes {V Z : VV} {s k e : Int} (h : ∀ v, 0 ≤ v → v < V 55 4 → (Z 83 v = 1 ∧ frE V s k e v) ∨ (Z 83 v = 0 ∧ ¬ frE V s k e v)) (he : 0 ≤ e) (hn : frN V s k.toNat (e / V 55 1) ∧ V 58 e = V 59 k ∧ CBq V (e % V 55 4) ((k + 1) % V 55 5)) : ∀ v, 0 ≤ v → v < V 55 4 → ((up Z 83 (e % V 55 4) 1) 83 v = 1 ∧ frE V s k (e + 1) v) ∨ ((up Z 83 (e % V 55 4) 1) 83 v = 0 ∧ ¬ frE V s k (e + 1) v) := fun v a b => by
  by_cases q : v = e % V 55 4
  · rw [q, up_s]; exact Or.inl ⟨rfl, e, he, by omega, hn, rfl⟩
  · rw [up_n _ (fun r => q r.2)]
    rcases h v a b with ⟨c, e', d0, d1, d2, d3⟩ | ⟨c, d⟩
    · exact Or.inl ⟨c, e', d0, by omega, d2, d3⟩
    · refine Or.inr ⟨c, fun ⟨e', d0, d1, d2, d3⟩ => ?_⟩
      by_cases r : e' = e
      · rw [r] at d3; exact q d3.symm
      · exact d ⟨e', d0, by omega, d2, d3⟩
theorem frN_c {V W : VV} {s : Int} (h1 : W 55 1 = V 55 1) (h3 : W 55 3 = V 55 3) (h4 : W 55 4 = V 55 4) (h5 : W 55 5 = V 55 5) (h58 : W 58 = V 58) (h59 : W 59 = V 59) (h81 : W 81 = V 81) : ∀ k v, frN W s k v = frN V s k v := by
  intro k
  induction k with
  | zero => exact fun v => rfl
  | succ k ih =>
    intro v
    show (∃ e, _) = (∃ e, _)
    unfold CBq
    simp only [ih, h1, h3, h4, h5, h58, h59, h81]
theorem RETq_c {V W : VV} {s : Int} (h : fr [82, 83] V W) : RETq W s = RETq V s := by
  unfold RETq CBq
  rw [frN_c (h 55 1 (by decide)) (h 55 3 (by decide)) (h 55 4 (by decide)) (h 55 5 (by decide)) (funext fun b => h 58 b (by decide)) (funext fun b => h 59 b (by decide)) (funext fun b => h 81 b (by decide)), h 55 5 (by decide), h 81 0 (by decide), h 55 1 (by decide)]
/-- a ring before, with the cells that are known -/
def SLK2 (V : VV) (K x : Int → Int) : Prop := SOL (V 58) (V 55 1) (V 55 2) (V 55 5) (V 59) x ∧ ∀ k, 0 ≤ k → k < V 55 5 → K k = -1 ∨ K k = x k
def SLK (V : VV) (x : Int → Int) : Prop := SLK2 V (V 81) x
theorem SLK_i {V Z : VV} {x : Int → Int} (h : ∀ b, b ≠ 0 → Z 55 b = V 55 b) (h58 : ∀ b, Z 58 b = V 58 b) (h59 : ∀ b, Z 59 b = V 59 b) : SLK Z x ↔ SLK2 V (Z 81) x := by
  unfold SLK SLK2
  rw [h 1 (by decide), h 2 (by decide), h 5 (by decide), show Z 58 = V 58 from funext h58, show Z 59 = V 59 from funext h59]
theorem SLK_all {V Z : VV} {x : Int → Int} (h : ∀ b, b ≠ 0 → Z 55 b = V 55 b) (h58 : ∀ b, Z 58 b = V 58 b) (h59 : ∀ b, Z 59 b = V 59 b) (hD : ∀ i, 0 ≤ i → i < 16 → Z 81 i = -1) (hx : SOL (V 58) (V 55 1) (V 55 2) (V 55 5) (V 59) x) (h5 : V 55 5 ≤ 16 := by omega) : SLK Z x := (SLK_i h h58 h59).mpr ⟨hx, fun k a b => Or.inl (hD k a (by omega))⟩
theorem SLK_e {V Z : VV} {K : Int → Int} (h : ∀ x, SLK Z x ↔ SLK2 V K x) (he : ∃ x, SLK Z x) : ∃ x, SLK2 V K x := by obtain ⟨x, hx⟩ := he; exact ⟨x, (h x).mp hx⟩
theorem SLK_n {V Z : VV} {K : Int → Int} (h : ∀ x, SLK Z x ↔ SLK2 V K x) (he : ∀ x, ¬ SLK Z x) : ∀ x, ¬ SLK2 V K x := fun x hx => he x ((h x).mpr hx)
/-- the node and the word over a cell -/
def nM (g w n : Int) (x : Int → Int) (k : Int) : Int := if w = 2 then x (k % n) else x ((k - 1) % n) * g + x (k % n)
theorem nM_b {V : VV} {x : Int → Int} (ho : MO V) (hn : 1 ≤ V 55 5 ∧ V 55 5 ≤ 16) (hx : ∀ k, 0 ≤ k → k < V 55 5 → 0 ≤ x k ∧ x k < V 55 1) (k : Int) : (0 ≤ nM (V 55 1) (V 55 2) (V 55 5) x k ∧ nM (V 55 1) (V 55 2) (V 55 5) x k < V 55 4) ∧ nM (V 55 1) (V 55 2) (V 55 5) x k % V 55 1 = x (k % V 55 5) ∧ (nM (V 55 1) (V 55 2) (V 55 5) x k * V 55 1 + x ((k + 1) % V 55 5)) % V 55 4 = nM (V 55 1) (V 55 2) (V 55 5) x (k + 1) := by
  have m := fun k => hx _ (md_b k hn.1).1 (md_b k hn.1).2
  have hb := ho.b
  unfold nM
  rw [show k + 1 - 1 = k by omega]
  rcases ho.2.1 with ⟨h2, h4⟩ | ⟨h3, h4⟩
  · rw [if_pos h2, if_pos h2, h4]
    exact ⟨m k, Int.emod_eq_of_lt (m k).1 (m k).2, (dm1 (m (k + 1))).2⟩
  · rw [if_neg (by omega), if_neg (by omega), h4]
    refine ⟨wd2 (by omega) (m (k - 1)) (m k), (dm1 (m k)).2, ?_⟩
    have w := wd2 (g := V 55 1) (N := V 55 1) (by omega) (m k) (m (k + 1))
    rw [show (x ((k - 1) % V 55 5) * V 55 1 + x (k % V 55 5)) * V 55 1 + x ((k + 1) % V 55 5) = x (k % V 55 5) * V 55 1 + x ((k + 1) % V 55 5) + V 55 1 * V 55 1 * x ((k - 1) % V 55 5) by rw [Int.add_mul, Int.mul_assoc, Int.mul_comm (x ((k - 1) % V 55 5))]; omega, Int.add_mul_emod_self_left]
    exact Int.emod_eq_of_lt w.1 w.2
theorem nM_step {V : VV} {x : Int → Int} {k : Int} (ho : MO V) (k0 : 0 ≤ k) (k1 : k < V 55 5) : V 58 (nM (V 55 1) (V 55 2) (V 55 5) x k * V 55 1 + x ((k + 1) % V 55 5)) = stepF (V 58) (V 55 1) (V 55 2) (V 55 5) x k := by
  unfold nM stepF
  rw [Int.emod_eq_of_lt k0 k1]
  rcases ho.2.1 with ⟨h2, -⟩ | ⟨h3, -⟩
  · rw [if_pos h2, if_pos h2]
  · rw [if_neg (by omega), if_neg (by omega)]
theorem nM_p {g w n : Int} {x : Int → Int} (_ : 1 ≤ n) : nM g w n x n = nM g w n x 0 := by
  unfold nM
  rw [Int.emod_self, Int.zero_emod, show (0 - 1 : Int) % n = (n - 1) % n by rw [← Int.add_emod_right (0 - 1) n]; congr 1; omega]
theorem x_RET {V : VV} {x : Int → Int} (ho : MO V) (hn : 1 ≤ V 55 5 ∧ V 55 5 ≤ 16) (h : SLK V x) : ∃ s, 0 ≤ s ∧ s < V 55 4 ∧ RETq V s := by
  obtain ⟨⟨h1, h2⟩, h3⟩ := h
  have hb := ho.b
  have nb := nM_b ho hn h1
  have key : ∀ k : Nat, (k : Int) ≤ V 55 5 → frN V (nM (V 55 1) (V 55 2) (V 55 5) x 0) k (nM (V 55 1) (V 55 2) (V 55 5) x k) := by
    intro k
    induction k with
    | zero => intro _; rfl
    | succ k ih =>
      intro hk
      have m1 := h1 _ (md_b ((k : Int) + 1) hn.1).1 (md_b ((k : Int) + 1) hn.1).2
      have w := wd2 (g := V 55 1) (N := V 55 4) (by omega) (nb k).1 m1
      have d := dm1 (g := V 55 1) (a := nM (V 55 1) (V 55 2) (V 55 5) x k) m1
      refine ⟨nM (V 55 1) (V 55 2) (V 55 5) x k * V 55 1 + x (((k : Int) + 1) % V 55 5), ⟨w.1, by rw [ho.2.2]; exact w.2⟩, ⟨by rw [d.1]; exact ih (by omega), ?_, ?_⟩, by rw [(nb k).2.2]; rfl⟩
      · rw [nM_step ho (by omega) (by omega)]; exact h2 k (by omega) (by omega)
      · unfold CBq
        rw [(nb k).2.2, (nb _).2.1]
        exact h3 _ (md_b _ hn.1).1 (md_b _ hn.1).2
  have k := key (V 55 5).toNat (by omega)
  rw [show (((V 55 5).toNat : Nat) : Int) = V 55 5 by omega, nM_p hn.1] at k
  refine ⟨_, (nb 0).1.1, (nb 0).1.2, ?_, k⟩
  unfold CBq
  rw [(nb 0).2.1, Int.zero_emod]
  exact h3 0 (by decide) (by omega)
theorem fr_path {V : VV} {s : Int} : ∀ (k : Nat) (v : Int), frN V s k v → ∃ nd : Int → Int, nd 0 = s ∧ nd k = v ∧ ∀ j : Int, 0 ≤ j → j < k → ∃ e, (0 ≤ e ∧ e < V 55 3) ∧ e / V 55 1 = nd j ∧ e % V 55 4 = nd (j + 1) ∧ V 58 e = V 59 j ∧ CBq V (nd (j + 1)) ((j + 1) % V 55 5)
  | 0, v, h => ⟨fun _ => s, rfl, h.symm, fun j a b => by omega⟩
  | k + 1, v, ⟨e, e0, ⟨e1, e2, e3⟩, e4⟩ => by
    obtain ⟨nd, n0, n1, n2⟩ := fr_path k _ e1
    refine ⟨fun j => if j = (k : Int) + 1 then v else nd j, by show (if (0 : Int) = (k : Int) + 1 then v else nd 0) = s; rw [if_neg (by omega)]; exact n0, by show (if ((k + 1 : Nat) : Int) = (k : Int) + 1 then v else nd _) = v; rw [if_pos (by omega)], fun j a b => ?_⟩
    by_cases q : j = k
    · refine ⟨e, e0, ?_, ?_, by rw [q]; exact e2, ?_⟩
      · show _ = if j = (k : Int) + 1 then v else nd j
        rw [if_neg (by omega), q, n1]
      · show _ = if j + 1 = (k : Int) + 1 then v else nd (j + 1)
        rw [if_pos (by omega)]; exact e4
      · show CBq V (if j + 1 = (k : Int) + 1 then v else nd (j + 1)) _
        rw [if_pos (by omega), q, ← e4]; exact e3
    · obtain ⟨e', f0, f1, f2, f3, f4⟩ := n2 j a (by omega)
      refine ⟨e', f0, ?_, ?_, f3, ?_⟩
      · show _ = if j = (k : Int) + 1 then v else nd j
        rw [if_neg (by omega)]; exact f1
      · show _ = if j + 1 = (k : Int) + 1 then v else nd (j + 1)
        rw [if_neg (by omega)]; exact f2
      · show CBq V (if j + 1 = (k : Int) + 1 then v else nd (j + 1)) _
        rw [if_neg (by omega)]; exact f4
theorem RET_x {V : VV} {s : Int} (ho : MO V) (hn : 1 ≤ V 55 5 ∧ V 55 5 ≤ 16) (h : RETq V s) : ∃ x, SLK V x := by
  obtain ⟨h0, h1⟩ := h
  have hb := ho.b
  obtain ⟨nd, n0, n1, n2⟩ := fr_path _ _ h1
  rw [show (((V 55 5).toNat : Nat) : Int) = V 55 5 by omega] at n1 n2
  have m := fun k => md_b (nd k) (n := V 55 1) (by omega)
  have em : ∀ e, e % V 55 4 % V 55 1 = e % V 55 1 := fun e => Int.emod_emod_of_dvd _ ho.dvd
  -- a node is told by the last states of it and of the one before
  have nn : ∀ k, 0 ≤ k → k < V 55 5 → nM (V 55 1) (V 55 2) (V 55 5) (fun k => nd k % V 55 1) k = nd k := fun k k0 k1 => by
    have pre : ∃ p e, 0 ≤ p ∧ p < V 55 5 ∧ (k - 1) % V 55 5 = p ∧ (0 ≤ e ∧ e < V 55 3) ∧ e / V 55 1 = nd p ∧ e % V 55 4 = nd k := by
      by_cases q : k = 0
      · obtain ⟨e, f0, f1, f2, -⟩ := n2 (V 55 5 - 1) (by omega) (by omega)
        refine ⟨V 55 5 - 1, e, by omega, by omega, ?_, f0, f1, ?_⟩
        · rw [q, ← Int.add_emod_right (0 - 1) (V 55 5), Int.emod_eq_of_lt (by omega) (by omega)]; omega
        · rw [f2, show V 55 5 - 1 + 1 = V 55 5 by omega, n1, q, n0]
      · obtain ⟨e, f0, f1, f2, -⟩ := n2 (k - 1) (by omega) (by omega)
        exact ⟨k - 1, e, by omega, by omega, Int.emod_eq_of_lt (by omega) (by omega), f0, f1, by rw [f2, show k - 1 + 1 = k by omega]⟩
    obtain ⟨p, e, p0, p1, p2, p3, p4, p5⟩ := pre
    unfold nM
    rw [p2, Int.emod_eq_of_lt k0 k1]
    rcases ho.2.1 with ⟨h2, h4⟩ | ⟨h3, h4⟩
    · rw [if_pos h2]
      show nd k % V 55 1 = nd k
      rw [← p5, h4, Int.emod_emod]
    · rw [if_neg (by omega)]
      show nd p % V 55 1 * V 55 1 + nd k % V 55 1 = nd k
      have e1 : nd k / V 55 1 = nd p % V 55 1 := by
        have := em_div (g := V 55 1) (y := e) (o := 2) (k := 1) (by omega) (by decide)
        rw [show (2 - 1 : Nat) = 1 from rfl, Int.pow_succ, Int.pow_succ, Int.pow_zero, Int.one_mul] at this
        rw [← p5, h4, this, p4]
      rw [← e1]
      exact Int.ediv_mul_add_emod _ _
  refine ⟨fun k => nd k % V 55 1, ⟨fun k _ _ => m k, fun k k0 k1 => ?_⟩, fun k k0 k1 => ?_⟩
  · rw [← nM_step ho k0 k1, nn k k0 k1]
    obtain ⟨e, f0, f1, f2, f3, -⟩ := n2 k k0 k1
    rw [← f3]
    congr 1
    show nd k * V 55 1 + nd ((k + 1) % V 55 5) % V 55 1 = e
    have : nd ((k + 1) % V 55 5) = nd (k + 1) := by
      by_cases q : k + 1 = V 55 5
      · rw [q, Int.emod_self, n0, n1]
      · rw [Int.emod_eq_of_lt (by omega) (by omega)]
    rw [this, ← f1, ← f2, em]
    exact Int.ediv_mul_add_emod _ _
  · show V 81 k = -1 ∨ V 81 k = nd k % V 55 1
    by_cases q : k = 0
    · rw [q, n0]; exact h0
    · obtain ⟨e, f0, f1, f2, f3, f4⟩ := n2 (k - 1) (by omega) (by omega)
      rw [show k - 1 + 1 = k by omega, Int.emod_eq_of_lt k0 k1] at f4
      exact f4
/-- what is known of the first ring before: cells below k -/
def PREq (V : VV) (K : Int → Int) (k : Int) : Prop := (∃ x, SOL (V 58) (V 55 1) (V 55 2) (V 55 5) (V 59) x ∧ ∀ j, 0 ≤ j → j < k → x j = K j) ∧ ∀ y, SOL (V 58) (V 55 1) (V 55 2) (V 55 5) (V 59) y → (∀ j, 0 ≤ j → j < k → y j = K j) ∨ ∃ i, 0 ≤ i ∧ i < k ∧ K i < y i ∧ ∀ j, 0 ≤ j → j < i → K j = y j
theorem PREq_e {V : VV} {K K' : Int → Int} {k : Int} (h : PREq V K k) (e : ∀ j, 0 ≤ j → j < k → K' j = K j) : PREq V K' k := by
  obtain ⟨⟨x, b, c⟩, d⟩ := h
  refine ⟨⟨x, b, fun j j0 j1 => (c j j0 j1).trans (e j j0 j1).symm⟩, fun y hy => ?_⟩
  rcases d y hy with z | ⟨i, i0, i1, i2, i3⟩
  · exact Or.inl fun j j0 j1 => (z j j0 j1).trans (e j j0 j1).symm
  · exact Or.inr ⟨i, i0, i1, by rw [e i i0 i1]; exact i2, fun j j0 j1 => (e j j0 (by omega)).trans (i3 j j0 j1)⟩
def PRq (V : VV) (K : Int → Int) (k : Int) : Prop := (∀ i, k ≤ i → i < V 55 5 → K i = -1) ∧ PREq V K k
def PRk (V : VV) (K : Int → Int) (k : Int) : Prop := (∀ i, k < i → i < V 55 5 → K i = -1) ∧ PREq V K k ∧ (∀ y, SOL (V 58) (V 55 1) (V 55 2) (V 55 5) (V 59) y → (∀ j, 0 ≤ j → j < k → y j = K j) → K k ≤ y k) ∧ 0 ≤ K k
theorem PRq_0 {V : VV} {K : Int → Int} (hn : 1 ≤ V 55 5 ∧ V 55 5 ≤ 16) (hD : ∀ i, 0 ≤ i → i < 16 → K i = -1) (h : ∃ x, SOL (V 58) (V 55 1) (V 55 2) (V 55 5) (V 59) x) : PRq V K 0 := by
  obtain ⟨x, hx⟩ := h
  exact ⟨fun i a b => hD i a (by omega), ⟨x, hx, fun j a b => by omega⟩, fun y _ => Or.inl fun j a b => by omega⟩
theorem PRk_0 {V : VV} {K K' : Int → Int} {k : Int} (h : PRq V K k) (k0 : 0 ≤ k ∧ k < V 55 5) (h1 : K' k = 0) (h2 : ∀ i, i ≠ k → K' i = K i) : PRk V K' k :=
  ⟨fun i a b => by rw [h2 i (by omega)]; exact h.1 i (by omega) b, PREq_e h.2 (fun j a b => h2 j (by omega)), fun y hy _ => by rw [h1]; exact (hy.1 k k0.1 k0.2).1, by omega⟩
theorem PRk_no {V : VV} {K y : Int → Int} {k : Int} (h : PRk V K k) (hN : ∀ x, ¬ SLK2 V K x) (hy : SOL (V 58) (V 55 1) (V 55 2) (V 55 5) (V 59) y) (hj : ∀ j, 0 ≤ j → j < k → y j = K j) : K k < y k := by
  have h1 := h.2.2.1 y hy hj
  by_cases e : K k = y k
  · exfalso
    refine hN y ⟨hy, fun j j0 j1 => ?_⟩
    by_cases a : j < k
    · exact Or.inr (hj j j0 a).symm
    · by_cases b : j = k
      · rw [b]; exact Or.inr e
      · exact Or.inl (h.1 j (by omega) j1)
  · omega
theorem PRk_S {V : VV} {K K' : Int → Int} {k : Int} (h : PRk V K k) (_ : 0 ≤ k) (hN : ∀ x, ¬ SLK2 V K x) (h1 : K' k = K k + 1) (h2 : ∀ i, i ≠ k → K' i = K i) : PRk V K' k :=
  ⟨fun i a b => by rw [h2 i (by omega)]; exact h.1 i a b, PREq_e h.2.1 (fun j a b => h2 j (by omega)), fun y hy hj => by
    have := PRk_no h hN hy (fun j a b => (hj j a b).trans (h2 j (by omega)))
    omega, by have := h.2.2.2; omega⟩
theorem PRk_lt {V : VV} {K : Int → Int} {k : Int} (h : PRk V K k) (k0 : 0 ≤ k ∧ k < V 55 5) : K k < V 55 1 := by
  obtain ⟨x, hx, hj⟩ := h.2.1.1
  have h1 := h.2.2.1 x hx hj
  have h2 := (hx.1 k k0.1 k0.2).2
  omega
theorem PRq_S {V : VV} {K K' : Int → Int} {k : Int} (e : ∀ i, K' i = K i) (h : PRk V K k) (k0 : 0 ≤ k ∧ k < V 55 5) (hx : ∃ x, SLK2 V K x) : PRq V K' (k + 1) := by
  rw [show K' = K from funext e]
  obtain ⟨a, ⟨⟨x', b, c⟩, d⟩, f, g⟩ := h
  obtain ⟨x, x1, x2⟩ := hx
  refine ⟨fun i i0 i1 => a i (by omega) i1, ⟨x, x1, fun j j0 j1 => ?_⟩, fun y hy => ?_⟩
  · rcases x2 j j0 (by omega) with z | z
    · by_cases q : j = k
      · rw [q] at z; omega
      · have := c j j0 (by omega)
        have := (b.1 j j0 (by omega)).1
        omega
    · exact z.symm
  · rcases d y hy with z | ⟨i, i0, i1, i2, i3⟩
    · have h1 := f y hy z
      by_cases q : K k = y k
      · exact Or.inl (lt_stepI z q.symm)
      · exact Or.inr ⟨k, k0.1, by omega, by omega, fun j j0 j1 => (z j j0 j1).symm⟩
    · exact Or.inr ⟨i, i0, by omega, i2, i3⟩
theorem PRq_end {V : VV} {K x : Int → Int} {k c : Int} (h : PRq V K k) (hc : 0 ≤ c ∧ c < V 55 5) (hk : k = c + 1) (hx : FST (V 58) (V 55 1) (V 55 2) (V 55 5) (V 59) x) : K c = x c := by
  obtain ⟨-, ⟨x', b, d⟩, e⟩ := h
  rcases e x hx.1 with z | ⟨i, i0, i1, i2, i3⟩
  · exact (z c hc.1 (by omega)).symm
  · exfalso
    have di := d i i0 i1
    rcases hx.2 x' b with q | ⟨i', j0, j1, j2, j3⟩
    · have := q i i0 (by omega); omega
    · by_cases l : i' < i
      · have h1 := i3 i' j0 l
        have h2 := d i' j0 (by omega)
        omega
      · by_cases l2 : i' = i
        · rw [l2] at j2; omega
        · have := j3 i i0 (by omega); omega
set_option maxHeartbeats 4000000 in
theorem ok_X12_returns {V : VV} {s : Int} (hmo : MO V) (hnm : 1 ≤ V 55 5 ∧ V 55 5 ≤ 16) (hs9 : 0 ≤ s ∧ s < V 55 4) : Ok NA yX12_returns cX12_returns 4 (some .boolean) 1 24 [vA 55, vI s] V (pI (fun x9 V' => ((x9 = 1 ∧ RETq V s) ∨ (x9 = 0 ∧ ¬ RETq V s)) ∧ fr [82, 83] V V')) := by
  refine Ok.intro (by decide +kernel) (Nat.le_of_ble_eq_true rfl) (fun X G hX hG hR hoa hoV => ?_)
  show J X G 0 [vA 55, vI s, vU, vU] [] V
  have hb9 := hmo.b
  have hnn := hmo.2.2
  refine j_al0 hX dX12_returns_0 rfl ?_
  refine j_il1 hX dX12_returns_1 ?_
  refine j_iconst hX dX12_returns_2 ⟨by decide, by decide⟩ ?_
  refine j_pVI2 (ci := 12) hX hG lk_X12_417 (ok_X12_canBe (by first | assumption | omega | decide) hs9.1 (by decide)) (by decide) rfl (Nat.le_of_ble_eq_true rfl) (Nat.le_of_ble_eq_true rfl) (Nat.le_of_ble_eq_true rfl) rfl dX12_returns_3 ?_
  refine j_ifz_ne (tgt := 11) hX dX12_returns_6 (by decide) (fun h_6 => ?_) (fun h_6 => ?_)
  · skip
    refine j_iconst hX dX12_returns_11 ⟨by decide, by decide⟩ ?_
    refine j_is2 hX dX12_returns_12 rfl ?_
    have lp_13 : ∀ (f9 : Nat) (v : Int) (Y : VV), (0 ≤ v ∧ v ≤ V 55 4) → (fr [82, 83] V Y) → (∀ j, 0 ≤ j → j < v → Y 82 j = if j = s then 1 else 0) → ((V 55 4 - v).toNat) < f9 → J X G 13 [vA 55, vI s, vI v, vU] [] Y := by
      intro f9
      induction f9 with
      | zero => intro v Y _ _ _ hm; exact absurd hm (Nat.not_lt_zero _)
      | succ f9 ih_13 =>
        intro v Y hv hy hD hm
        refine j_il2 hX dX12_returns_13 ?_
        have f1_Y : Y 55 1 = V 55 1 := hy 55 1 (by decide)
        have f2_Y : Y 55 2 = V 55 2 := hy 55 2 (by decide)
        have f3_Y : Y 55 3 = V 55 3 := hy 55 3 (by decide)
        have f4_Y : Y 55 4 = V 55 4 := hy 55 4 (by decide)
        have f5_Y : Y 55 5 = V 55 5 := hy 55 5 (by decide)
        refine j_al0 hX dX12_returns_14 rfl ?_
        refine j_getI hX hG fl_X12_145 (Or.inl rfl) (by decide) dX12_returns_15 ?_
        refine j_fx (x := V 55 4) (by first | assumption | rfl) ?_
        refine j_icmp_ge (tgt := 43) hX dX12_returns_18 (by decide) (fun h_18 => ?_) (fun h_18 => ?_)
        · skip
          refine j_iconst hX dX12_returns_43 ⟨by decide, by decide⟩ ?_
          refine j_is2 hX dX12_returns_44 rfl ?_
          have lp_45 : ∀ (f9 : Nat) (k : Int) (W : VV), (0 ≤ k ∧ k ≤ V 55 5) → (fr [82, 83] V W) → (∀ v, 0 ≤ v → v < V 55 4 → (W 82 v = 1 ∧ frN V s k.toNat v) ∨ (W 82 v = 0 ∧ ¬ frN V s k.toNat v)) → ((V 55 5 - k).toNat) < f9 → J X G 45 [vA 55, vI s, vI k, vU] [] W := by
            intro f9
            induction f9 with
            | zero => intro k W _ _ _ hm; exact absurd hm (Nat.not_lt_zero _)
            | succ f9 ih_45 =>
              intro k W hk hw hW hm
              refine j_il2 hX dX12_returns_45 ?_
              have f1_W : W 55 1 = V 55 1 := hw 55 1 (by decide)
              have f2_W : W 55 2 = V 55 2 := hw 55 2 (by decide)
              have f3_W : W 55 3 = V 55 3 := hw 55 3 (by decide)
              have f4_W : W 55 4 = V 55 4 := hw 55 4 (by decide)
              have f5_W : W 55 5 = V 55 5 := hw 55 5 (by decide)
              refine j_al0 hX dX12_returns_46 rfl ?_
              refine j_getI hX hG fl_X12_142 (Or.inl rfl) (by decide) dX12_returns_47 ?_
              refine j_fx (x := V 55 5) (by first | assumption | rfl) ?_
              refine j_icmp_ge (tgt := 183) hX dX12_returns_50 (by decide) (fun h_50 => ?_) (fun h_50 => ?_)
              · skip
                refine j_al0 hX dX12_returns_183 rfl ?_
                refine j_getR (q := 82) hX hG fl_X12_95 rfl rfl (by decide) dX12_returns_184 ?_
                refine j_il1 hX dX12_returns_187 ?_
                refine j_zald (n := 36) hX hG (by decide) (by omega) dX12_returns_188 ?_
                exact j_retZ hR dX12_returns_189 ((hW s hs9.1 hs9.2).elim (fun q => Or.inr q.1) (fun q => Or.inl q.1)) ⟨(by
      have ek : k = V 55 5 := by omega
      rw [ek] at hW
      rcases hW s hs9.1 hs9.2 with ⟨a, b⟩ | ⟨a, b⟩
      · exact Or.inl ⟨a, h_6, b⟩
      · exact Or.inr ⟨a, fun q => b q.2⟩), hw⟩
              · skip
                refine j_iconst hX dX12_returns_53 ⟨by decide, by decide⟩ ?_
                refine j_is3 hX dX12_returns_54 rfl ?_
                have lp_55 : ∀ (f9 : Nat) (v : Int) (X1 : VV), (0 ≤ v ∧ v ≤ V 55 4) → (fr [83] W X1) → (∀ j, 0 ≤ j → j < v → X1 83 j = 0) → ((V 55 4 - v).toNat) < f9 → J X G 55 [vA 55, vI s, vI k, vI v] [] X1 := by
                  intro f9
                  induction f9 with
                  | zero => intro v X1 _ _ _ hm; exact absurd hm (Nat.not_lt_zero _)
                  | succ f9 ih_55 =>
                    intro v X1 hv2 hx1 hD2 hm
                    refine j_il3 hX dX12_returns_55 ?_
                    have f1_X1 : X1 55 1 = V 55 1 := (fr_t hw (fr_w hx1 (by decide))) 55 1 (by decide)
                    have f2_X1 : X1 55 2 = V 55 2 := (fr_t hw (fr_w hx1 (by decide))) 55 2 (by decide)
                    have f3_X1 : X1 55 3 = V 55 3 := (fr_t hw (fr_w hx1 (by decide))) 55 3 (by decide)
                    have f4_X1 : X1 55 4 = V 55 4 := (fr_t hw (fr_w hx1 (by decide))) 55 4 (by decide)
                    have f5_X1 : X1 55 5 = V 55 5 := (fr_t hw (fr_w hx1 (by decide))) 55 5 (by decide)
                    refine j_al0 hX dX12_returns_56 rfl ?_
                    refine j_getI hX hG fl_X12_145 (Or.inl rfl) (by decide) dX12_returns_57 ?_
                    refine j_fx (x := V 55 4) (by first | assumption | rfl) ?_
                    refine j_icmp_ge (tgt := 76) hX dX12_returns_60 (by decide) (fun h_60 => ?_) (fun h_60 => ?_)
                    · skip
                      refine j_iconst hX dX12_returns_76 ⟨by decide, by decide⟩ ?_
                      refine j_is3 hX dX12_returns_77 rfl ?_
                      have lp_78 : ∀ (f9 : Nat) (e : Int) (Z : VV), (0 ≤ e ∧ e ≤ V 55 3) → (fr [83] W Z) → (∀ v, 0 ≤ v → v < V 55 4 → (Z 83 v = 1 ∧ frE V s k e v) ∨ (Z 83 v = 0 ∧ ¬ frE V s k e v)) → ((V 55 3 - e).toNat) < f9 → J X G 78 [vA 55, vI s, vI k, vI e] [] Z := by
                        intro f9
                        induction f9 with
                        | zero => intro e Z _ _ _ hm; exact absurd hm (Nat.not_lt_zero _)
                        | succ f9 ih_78 =>
                          intro e Z he hzz hA hm
                          refine j_il3 hX dX12_returns_78 ?_
                          have f1_Z : Z 55 1 = V 55 1 := (fr_t hw (fr_w hzz (by decide))) 55 1 (by decide)
                          have f2_Z : Z 55 2 = V 55 2 := (fr_t hw (fr_w hzz (by decide))) 55 2 (by decide)
                          have f3_Z : Z 55 3 = V 55 3 := (fr_t hw (fr_w hzz (by decide))) 55 3 (by decide)
                          have f4_Z : Z 55 4 = V 55 4 := (fr_t hw (fr_w hzz (by decide))) 55 4 (by decide)
                          have f5_Z : Z 55 5 = V 55 5 := (fr_t hw (fr_w hzz (by decide))) 55 5 (by decide)
                          refine j_al0 hX dX12_returns_79 rfl ?_
                          refine j_getI hX hG fl_X12_148 (Or.inl rfl) (by decide) dX12_returns_80 ?_
                          refine j_fx (x := V 55 3) (by first | assumption | rfl) ?_
                          refine j_icmp_ge (tgt := 149) hX dX12_returns_83 (by decide) (fun h_83 => ?_) (fun h_83 => ?_)
                          · skip
                            refine j_iconst hX dX12_returns_149 ⟨by decide, by decide⟩ ?_
                            refine j_is3 hX dX12_returns_150 rfl ?_
                            have lp_151 : ∀ (f9 : Nat) (v : Int) (Q : VV), (0 ≤ v ∧ v ≤ V 55 4) → (fr [82] Z Q) → (∀ j, 0 ≤ j → j < v → Q 82 j = Z 83 j) → ((V 55 4 - v).toNat) < f9 → J X G 151 [vA 55, vI s, vI k, vI v] [] Q := by
                              intro f9
                              induction f9 with
                              | zero => intro v Q _ _ _ hm; exact absurd hm (Nat.not_lt_zero _)
                              | succ f9 ih_151 =>
                                intro v Q hv3 hq hC hm
                                refine j_il3 hX dX12_returns_151 ?_
                                have f1_Q : Q 55 1 = V 55 1 := (fr_t hw (fr_t (fr_w hzz (by decide)) (fr_w hq (by decide)))) 55 1 (by decide)
                                have f2_Q : Q 55 2 = V 55 2 := (fr_t hw (fr_t (fr_w hzz (by decide)) (fr_w hq (by decide)))) 55 2 (by decide)
                                have f3_Q : Q 55 3 = V 55 3 := (fr_t hw (fr_t (fr_w hzz (by decide)) (fr_w hq (by decide)))) 55 3 (by decide)
                                have f4_Q : Q 55 4 = V 55 4 := (fr_t hw (fr_t (fr_w hzz (by decide)) (fr_w hq (by decide)))) 55 4 (by decide)
                                have f5_Q : Q 55 5 = V 55 5 := (fr_t hw (fr_t (fr_w hzz (by decide)) (fr_w hq (by decide)))) 55 5 (by decide)
                                refine j_al0 hX dX12_returns_152 rfl ?_
                                refine j_getI hX hG fl_X12_145 (Or.inl rfl) (by decide) dX12_returns_153 ?_
                                refine j_fx (x := V 55 4) (by first | assumption | rfl) ?_
                                refine j_icmp_ge (tgt := 177) hX dX12_returns_156 (by decide) (fun h_156 => ?_) (fun h_156 => ?_)
                                · skip
                                  refine j_inc2 hX dX12_returns_177 rfl (by omega) ?_
                                  refine j_goto (tgt := 45) hX dX12_returns_180 (by decide) ?_
                                  refine j_fg3 ?_
                                  exact ih_45 _ _ (by omega) (fr_t hw (fr_t (fr_w hzz (by decide)) (fr_w hq (by decide)))) (fun v a b => by rw [hC v a (by omega), frN_S hk.1, ← show e = V 55 3 by omega]; exact hA v a b) (by omega)
                                · skip
                                  refine j_al0 hX dX12_returns_159 rfl ?_
                                  refine j_getR (q := 82) hX hG fl_X12_95 rfl rfl (by decide) dX12_returns_160 ?_
                                  refine j_il3 hX dX12_returns_163 ?_
                                  refine j_al0 hX dX12_returns_164 rfl ?_
                                  refine j_getR (q := 83) hX hG fl_X12_98 rfl rfl (by decide) dX12_returns_165 ?_
                                  refine j_il3 hX dX12_returns_168 ?_
                                  refine j_zald (n := 36) hX hG (by decide) (by omega) dX12_returns_169 ?_
                                  refine j_zast (n := 36) hX hG (by decide) (by omega) ((hA v hv3.1 (by omega)).elim (fun q => Or.inr ((hq 83 v (by decide)).trans q.1)) (fun q => Or.inl ((hq 83 v (by decide)).trans q.1))) dX12_returns_170 ?_
                                  refine j_inc3 hX dX12_returns_171 rfl (by omega) ?_
                                  refine j_goto (tgt := 151) hX dX12_returns_174 (by decide) ?_
                                  exact ih_151 _ _ (by omega) (fr_u hq (by decide)) (lt_stepI (fun j a b => by rw [up_n _ (by omega)]; exact hC j a b) (by rw [up_s]; exact hq 83 _ (by decide))) (by omega)
                            exact lp_151 _ 0 _ ⟨by decide, by omega⟩ fr_0 (fun j a b => by omega) (Nat.lt_succ_self _)
                          · skip
                            have hen : e < V 55 3 := by omega
                            have wZ : fr [82, 83] V Z := fr_t hw (fr_w hzz (by decide))
                            have moZ : MO Z := by unfold MO; rw [f1_Z, wZ 55 2 (by decide), f3_Z, f4_Z]; exact hmo
                            have hm9 := md_b e (n := V 55 4) (by omega)
                            have hmk := md_b (k + 1) (n := V 55 5) (by omega)
                            have hdv : 0 ≤ e / V 55 1 ∧ e / V 55 1 < V 55 4 := ⟨Int.ediv_nonneg he.1 (by omega), Int.ediv_lt_of_lt_mul (by omega) (by omega)⟩
                            have z82 : Z 82 (e / V 55 1) = W 82 (e / V 55 1) := hzz 82 _ (by decide)
                            have he82 : Z 82 (e / V 55 1) = 0 ↔ ¬ frN V s k.toNat (e / V 55 1) := by
                              rw [z82]
                              rcases hW _ hdv.1 hdv.2 with ⟨a, b⟩ | ⟨a, b⟩
                              · exact ⟨fun q => by omega, fun q => absurd b q⟩
                              · exact ⟨fun _ => b, fun _ => a⟩
                            have hway : (Z 58 e = (if (0 : Int) = 0 then Z 59 k else if (0 : Int) = 1 then (if Z 55 2 = 2 then e / Z 55 1 else e / Z 55 1 % Z 55 1) else 0)) ↔ V 58 e = V 59 k := by rw [if_pos rfl, wZ 58 e (by decide), wZ 59 k (by decide)]
                            have hcan : (Z 81 ((k + 1) % V 55 5) = -1 ∨ Z 81 ((k + 1) % V 55 5) = e % V 55 4 % Z 55 1) ↔ CBq V (e % V 55 4) ((k + 1) % V 55 5) := by rw [f1_Z, wZ 81 _ (by decide)]; exact Iff.rfl
                            refine j_al0 hX dX12_returns_86 rfl ?_
                            refine j_getR (q := 82) hX hG fl_X12_95 rfl rfl (by decide) dX12_returns_87 ?_
                            refine j_il3 hX dX12_returns_90 ?_
                            refine j_al0 hX dX12_returns_91 rfl ?_
                            refine j_getI hX hG fl_X12_136 (Or.inl rfl) (by decide) dX12_returns_92 ?_
                            refine j_fx (x := V 55 1) (by first | assumption | rfl) ?_
                            refine j_idiv hX dX12_returns_95 (by omega) he.1 ?_
                            refine j_zald (n := 36) hX hG (by decide) (by omega) dX12_returns_96 ?_
                            refine j_if_eq (tgt := 143) hX dX12_returns_97 (by decide) (fun h_97 => ?_) (fun h_97 => ?_)
                            · skip
                              refine j_inc3 hX dX12_returns_143 rfl (by omega) ?_
                              refine j_goto (tgt := 78) hX dX12_returns_146 (by decide) ?_
                              exact ih_78 _ _ (by omega) (by first | exact fr_u hzz (by decide) | exact hzz) (by first | exact frE_no hA (fun q => (he82.mp h_97) q.1) | exact frE_no hA (fun q => h_107 (hway.mpr q.2.1)) | exact frE_no hA (fun q => h_128 (hcan.mpr q.2.2)) | exact frE_yes hA he.1 ⟨Classical.byContradiction fun q => h_97 (he82.mpr q), hway.mp h_107, hcan.mp h_128⟩) (by omega)
                            · skip
                              refine j_al0 hX dX12_returns_100 rfl ?_
                              refine j_il3 hX dX12_returns_101 ?_
                              refine j_il2 hX dX12_returns_102 ?_
                              refine j_iconst hX dX12_returns_103 ⟨by decide, by decide⟩ ?_
                              refine j_pVI3 (ci := 12) hX hG lk_X12_406 (ok_X12_isWay moZ (by rw [f3_Z]; omega) (by omega)) (by decide) rfl (Nat.le_of_ble_eq_true rfl) (Nat.le_of_ble_eq_true rfl) (Nat.le_of_ble_eq_true rfl) rfl dX12_returns_104 ?_
                              refine j_ifz_eq (tgt := 143) hX dX12_returns_107 (by decide) (fun h_107 => ?_) (fun h_107 => ?_)
                              · skip
                                refine j_inc3 hX dX12_returns_143 rfl (by omega) ?_
                                refine j_goto (tgt := 78) hX dX12_returns_146 (by decide) ?_
                                exact ih_78 _ _ (by omega) (by first | exact fr_u hzz (by decide) | exact hzz) (by first | exact frE_no hA (fun q => (he82.mp h_97) q.1) | exact frE_no hA (fun q => h_107 (hway.mpr q.2.1)) | exact frE_no hA (fun q => h_128 (hcan.mpr q.2.2)) | exact frE_yes hA he.1 ⟨Classical.byContradiction fun q => h_97 (he82.mpr q), hway.mp h_107, hcan.mp h_128⟩) (by omega)
                              · skip
                                refine j_al0 hX dX12_returns_110 rfl ?_
                                refine j_il3 hX dX12_returns_111 ?_
                                refine j_al0 hX dX12_returns_112 rfl ?_
                                refine j_getI hX hG fl_X12_145 (Or.inl rfl) (by decide) dX12_returns_113 ?_
                                refine j_fx (x := V 55 4) (by first | assumption | rfl) ?_
                                refine j_irem hX dX12_returns_116 (by omega) he.1 ?_
                                refine j_il2 hX dX12_returns_117 ?_
                                refine j_iconst hX dX12_returns_118 ⟨by decide, by decide⟩ ?_
                                refine j_iadd hX dX12_returns_119 (by omega) ?_
                                refine j_al0 hX dX12_returns_120 rfl ?_
                                refine j_getI hX hG fl_X12_142 (Or.inl rfl) (by decide) dX12_returns_121 ?_
                                refine j_fx (x := V 55 5) (by first | assumption | rfl) ?_
                                refine j_irem hX dX12_returns_124 (by omega) (by omega) ?_
                                refine j_pVI2 (ci := 12) hX hG lk_X12_417 (ok_X12_canBe moZ hm9.1 (by omega)) (by decide) rfl (Nat.le_of_ble_eq_true rfl) (Nat.le_of_ble_eq_true rfl) (Nat.le_of_ble_eq_true rfl) rfl dX12_returns_125 ?_
                                refine j_ifz_eq (tgt := 143) hX dX12_returns_128 (by decide) (fun h_128 => ?_) (fun h_128 => ?_)
                                · skip
                                  refine j_inc3 hX dX12_returns_143 rfl (by omega) ?_
                                  refine j_goto (tgt := 78) hX dX12_returns_146 (by decide) ?_
                                  exact ih_78 _ _ (by omega) (by first | exact fr_u hzz (by decide) | exact hzz) (by first | exact frE_no hA (fun q => (he82.mp h_97) q.1) | exact frE_no hA (fun q => h_107 (hway.mpr q.2.1)) | exact frE_no hA (fun q => h_128 (hcan.mpr q.2.2)) | exact frE_yes hA he.1 ⟨Classical.byContradiction fun q => h_97 (he82.mpr q), hway.mp h_107, hcan.mp h_128⟩) (by omega)
                                · skip
                                  refine j_al0 hX dX12_returns_131 rfl ?_
                                  refine j_getR (q := 83) hX hG fl_X12_98 rfl rfl (by decide) dX12_returns_132 ?_
                                  refine j_il3 hX dX12_returns_135 ?_
                                  refine j_al0 hX dX12_returns_136 rfl ?_
                                  refine j_getI hX hG fl_X12_145 (Or.inl rfl) (by decide) dX12_returns_137 ?_
                                  refine j_fx (x := V 55 4) (by first | assumption | rfl) ?_
                                  refine j_irem hX dX12_returns_140 (by omega) he.1 ?_
                                  refine j_iconst hX dX12_returns_141 ⟨by decide, by decide⟩ ?_
                                  refine j_zast (n := 36) hX hG (by decide) (by omega) (by omega) dX12_returns_142 ?_
                                  refine j_inc3 hX dX12_returns_143 rfl (by omega) ?_
                                  refine j_goto (tgt := 78) hX dX12_returns_146 (by decide) ?_
                                  exact ih_78 _ _ (by omega) (by first | exact fr_u hzz (by decide) | exact hzz) (by first | exact frE_no hA (fun q => (he82.mp h_97) q.1) | exact frE_no hA (fun q => h_107 (hway.mpr q.2.1)) | exact frE_no hA (fun q => h_128 (hcan.mpr q.2.2)) | exact frE_yes hA he.1 ⟨Classical.byContradiction fun q => h_97 (he82.mpr q), hway.mp h_107, hcan.mp h_128⟩) (by omega)
                      exact lp_78 _ 0 _ ⟨by decide, by omega⟩ hx1 (fun v a b => Or.inr ⟨hD2 v a (by omega), fun ⟨e, e0, e1, _⟩ => by omega⟩) (Nat.lt_succ_self _)
                    · skip
                      refine j_al0 hX dX12_returns_63 rfl ?_
                      refine j_getR (q := 83) hX hG fl_X12_98 rfl rfl (by decide) dX12_returns_64 ?_
                      refine j_il3 hX dX12_returns_67 ?_
                      refine j_iconst hX dX12_returns_68 ⟨by decide, by decide⟩ ?_
                      refine j_zast (n := 36) hX hG (by decide) (by omega) (by omega) dX12_returns_69 ?_
                      refine j_inc3 hX dX12_returns_70 rfl (by omega) ?_
                      refine j_goto (tgt := 55) hX dX12_returns_73 (by decide) ?_
                      exact ih_55 _ _ (by omega) (fr_u hx1 (by decide)) (lt_stepI (fun j a b => by rw [up_n _ (by omega)]; exact hD2 j a b) (up_s ..)) (by omega)
                exact lp_55 _ 0 _ ⟨by decide, by omega⟩ fr_0 (fun j a b => by omega) (Nat.lt_succ_self _)
          exact lp_45 _ 0 _ ⟨by decide, by omega⟩ hy (fun v a b => (show (Y 82 v = 1 ∧ v = s) ∨ (Y 82 v = 0 ∧ ¬ v = s) from ite01 (hD v a (by omega)))) (Nat.lt_succ_self _)
        · skip
          have jn_36 : ∀ (z : Int), (z = if v = s then 1 else 0) → J X G 36 [vA 55, vI s, vI v, vU] [vI z, vI v, vA 82] Y := by
            intro z hz
            refine j_zast (n := 36) hX hG (by decide) (by omega) (by rw [hz]; split <;> simp) dX12_returns_36 ?_
            refine j_inc2 hX dX12_returns_37 rfl (by omega) ?_
            refine j_goto (tgt := 13) hX dX12_returns_40 (by decide) ?_
            exact ih_13 _ _ (by omega) (fr_u hy (by decide)) (lt_stepI (fun j a b => by rw [up_n _ (by omega)]; exact hD j a b) (by rw [up_s]; exact hz)) (by omega)
          refine j_al0 hX dX12_returns_21 rfl ?_
          refine j_getR (q := 82) hX hG fl_X12_95 rfl rfl (by decide) dX12_returns_22 ?_
          refine j_il2 hX dX12_returns_25 ?_
          refine j_il2 hX dX12_returns_26 ?_
          refine j_il1 hX dX12_returns_27 ?_
          refine j_icmp_ne (tgt := 35) hX dX12_returns_28 (by decide) (fun h_28 => ?_) (fun h_28 => ?_)
          · skip
            refine j_iconst hX dX12_returns_35 ⟨by decide, by decide⟩ ?_
            exact jn_36 _ (by first | exact (if_pos (by omega)).symm | exact (if_neg (by omega)).symm)
          · skip
            refine j_iconst hX dX12_returns_31 ⟨by decide, by decide⟩ ?_
            refine j_goto (tgt := 36) hX dX12_returns_32 (by decide) ?_
            exact jn_36 _ (by first | exact (if_pos (by omega)).symm | exact (if_neg (by omega)).symm)
    exact lp_13 _ _ _ (by omega) fr_0 (fun j a b => by omega) (Nat.lt_succ_self _)
  · skip
    refine j_iconst hX dX12_returns_9 ⟨by decide, by decide⟩ ?_
    exact j_retZ hR dX12_returns_10 (by omega) ⟨Or.inr ⟨rfl, fun q => h_6 q.1⟩, fr_0⟩
set_option maxHeartbeats 4000000 in
theorem ok_X12_isReached {V : VV} (hmo : MO V) (hnm : 1 ≤ V 55 5 ∧ V 55 5 ≤ 16) : Ok NA yX12_isReached cX12_isReached 2 (some .boolean) 2 47 [vA 55] V (pI (fun x9 V' => ((x9 = 1 ∧ ∃ x, SLK V x) ∨ (x9 = 0 ∧ ∀ x, ¬ SLK V x)) ∧ fr [82, 83] V V')) := by
  refine Ok.intro (by decide +kernel) (Nat.le_of_ble_eq_true rfl) (fun X G hX hG hR hoa hoV => ?_)
  show J X G 0 [vA 55, vU] [] V
  have hb9 := hmo.b
  refine j_iconst hX dX12_isReached_0 ⟨by decide, by decide⟩ ?_
  refine j_is1 hX dX12_isReached_1 rfl ?_
  have lp_2 : ∀ (f9 : Nat) (s : Int) (W : VV), (0 ≤ s ∧ s ≤ V 55 4) → (fr [82, 83] V W) → (∀ j, 0 ≤ j → j < s → ¬ RETq V j) → ((V 55 4 - s).toNat) < f9 → J X G 2 [vA 55, vI s] [] W := by
    intro f9
    induction f9 with
    | zero => intro s W _ _ _ hm; exact absurd hm (Nat.not_lt_zero _)
    | succ f9 ih_2 =>
      intro s W hk hw hN hm
      refine j_il1 hX dX12_isReached_2 ?_
      have f1_W : W 55 1 = V 55 1 := hw 55 1 (by decide)
      have f2_W : W 55 2 = V 55 2 := hw 55 2 (by decide)
      have f3_W : W 55 3 = V 55 3 := hw 55 3 (by decide)
      have f4_W : W 55 4 = V 55 4 := hw 55 4 (by decide)
      have f5_W : W 55 5 = V 55 5 := hw 55 5 (by decide)
      have moW : MO W := by unfold MO; rw [f1_W, hw 55 2 (by decide), f3_W, f4_W]; exact hmo
      refine j_al0 hX dX12_isReached_3 rfl ?_
      refine j_getI hX hG fl_X12_145 (Or.inl rfl) (by decide) dX12_isReached_4 ?_
      refine j_fx (x := V 55 4) (by first | assumption | rfl) ?_
      refine j_icmp_ge (tgt := 26) hX dX12_isReached_7 (by decide) (fun h_7 => ?_) (fun h_7 => ?_)
      · skip
        refine j_iconst hX dX12_isReached_26 ⟨by decide, by decide⟩ ?_
        exact j_retZ hR dX12_isReached_27 (by omega) ⟨Or.inr ⟨rfl, fun x hx => by obtain ⟨j, j0, j1, j2⟩ := x_RET hmo hnm hx; exact hN j j0 (by omega) j2⟩, hw⟩
      · skip
        refine j_al0 hX dX12_isReached_10 rfl ?_
        refine j_il1 hX dX12_isReached_11 ?_
        refine j_cVI1 (ci := 12) hX hG lk_X12_420 (ok_X12_returns moW (by rw [f5_W]; exact hnm) (by rw [f4_W]; omega)) (by decide) rfl (Nat.le_of_ble_eq_true rfl) (Nat.le_of_ble_eq_true rfl) (Nat.le_of_ble_eq_true rfl) rfl dX12_isReached_12 (fun x_12 V_12 h_12 => ?_)
        obtain ⟨d_12, f_12⟩ := h_12
        rw [RETq_c hw] at d_12
        refine j_if_eq (tgt := 20) hX dX12_isReached_15 (by decide) (fun h_15 => ?_) (fun h_15 => ?_)
        · skip
          refine j_inc1 hX dX12_isReached_20 rfl (by omega) ?_
          refine j_goto (tgt := 2) hX dX12_isReached_23 (by decide) ?_
          exact ih_2 _ _ (by omega) (fr_t hw f_12) (lt_stepI hN (d_12.elim (fun q => absurd q.1 (by omega)) (fun q => q.2))) (by omega)
        · skip
          refine j_iconst hX dX12_isReached_18 ⟨by decide, by decide⟩ ?_
          exact j_retZ hR dX12_isReached_19 (by omega) ⟨Or.inl ⟨rfl, RET_x hmo hnm (d_12.elim (fun q => q.2) (fun q => absurd q.1 h_15))⟩, fr_t hw f_12⟩
  exact lp_2 _ _ _ ⟨by decide, by omega⟩ fr_0 (fun j a b => by omega) (Nat.lt_succ_self _)
set_option maxHeartbeats 4000000 in
theorem ok_X12_preimage {V : VV} {c : Int} (hmo : MO V) (hnm : 1 ≤ V 55 5 ∧ V 55 5 ≤ 16) : Ok NA yX12_preimage cX12_preimage 3 (some .int) 3 68 [vA 55, vI c] V (pI (fun x9 V' => ((0 ≤ c ∧ c < V 55 5) ∧ (∃ x, SOL (V 58) (V 55 1) (V 55 2) (V 55 5) (V 59) x) ∧ (∀ x, FST (V 58) (V 55 1) (V 55 2) (V 55 5) (V 59) x → x9 = x c) ∧ fr [81, 82, 83] (up V 55 0 0) V') ∨ (¬ (0 ≤ c ∧ c < V 55 5) ∧ x9 = 0 ∧ fr [81, 82, 83] (up (up V 55 0 0) 55 0 1) V') ∨ ((0 ≤ c ∧ c < V 55 5) ∧ (∀ x, ¬ SOL (V 58) (V 55 1) (V 55 2) (V 55 5) (V 59) x) ∧ x9 = 0 ∧ fr [81, 82, 83] (up (up V 55 0 0) 55 0 2) V'))) := by
  refine Ok.intro (by decide +kernel) (Nat.le_of_ble_eq_true rfl) (fun X G hX hG hR hoa hoV => ?_)
  show J X G 0 [vA 55, vI c, vU] [] V
  have hb9 := hmo.b
  refine j_al0 hX dX12_preimage_0 rfl ?_
  refine j_iconst hX dX12_preimage_1 ⟨by decide, by decide⟩ ?_
  refine j_putI hX hG fp_X12_126 rfl (by decide) dX12_preimage_2 ?_
  obtain ⟨U, hU⟩ : ∃ U, U = up V 55 0 0 := ⟨_, rfl⟩
  rw [← hU]
  have u0 : U 55 0 = 0 := by rw [hU]; exact up_s ..
  have uF : ∀ b, b ≠ 0 → U 55 b = V 55 b := fun b hb => by rw [hU]; exact up_n _ (fun q => hb q.2)
  have uC : ∀ a b, a ≠ 55 → U a b = V a b := fun a b ha => by rw [hU]; exact up_n _ (fun q => ha q.1)
  have moU : MO U := hmo.t uF
  have e5 := uF 5 (by decide)
  have e1 := uF 1 (by decide)
  refine j_iconst hX dX12_preimage_5 ⟨by decide, by decide⟩ ?_
  refine j_is2 hX dX12_preimage_6 rfl ?_
  have lp_7 : ∀ (f9 : Nat) (j : Int) (Y : VV), (0 ≤ j ∧ j ≤ 16) → (fr [81, 82, 83] U Y) → (∀ i, 0 ≤ i → i < j → Y 81 i = -1) → ((16 - j).toNat) < f9 → J X G 7 [vA 55, vI c, vI j] [] Y := by
    intro f9
    induction f9 with
    | zero => intro j Y _ _ _ hm; exact absurd hm (Nat.not_lt_zero _)
    | succ f9 ih_7 =>
      intro j Y hj hy hD hm
      refine j_il2 hX dX12_preimage_7 ?_
      refine j_bipush hX dX12_preimage_8 (by decide) ⟨by decide, by decide⟩ ?_
      refine j_icmp_ge (tgt := 26) hX dX12_preimage_10 (by decide) (fun h_10 => ?_) (fun h_10 => ?_)
      · skip
        refine j_al0 hX dX12_preimage_26 rfl ?_
        have y5 : Y 55 5 = V 55 5 := (hy 55 5 (by decide)).trans e5
        have moY : MO Y := moU.t (fun b _ => hy 55 b (by decide))
        have y0 : Y 55 0 = 0 := (hy 55 0 (by decide)).trans u0
        refine j_al0 hX dX12_preimage_27 rfl ?_
        refine j_il1 hX dX12_preimage_28 ?_
        refine j_pVI1 (ci := 12) hX hG lk_X12_400 (ok_X12_isCell (by rw [y5]; exact hnm)) (by decide) rfl (Nat.le_of_ble_eq_true rfl) (Nat.le_of_ble_eq_true rfl) (Nat.le_of_ble_eq_true rfl) rfl dX12_preimage_29 ?_
        refine j_iconst hX dX12_preimage_32 ⟨by decide, by decide⟩ ?_
        refine j_cVI2 (ci := 12) hX hG lk_X12_168 (ok_X12_may y0 (by decide)) (by decide) rfl (Nat.le_of_ble_eq_true rfl) (Nat.le_of_ble_eq_true rfl) (Nat.le_of_ble_eq_true rfl) rfl dX12_preimage_33 (fun x_33 V_33 h_33 => ?_)
        skip
        refine j_if_eq (tgt := 51) hX dX12_preimage_36 (by decide) (fun h_36 => ?_) (fun h_36 => ?_)
        · skip
          refine j_iconst hX dX12_preimage_51 ⟨by decide, by decide⟩ ?_
          exact j_retI hR dX12_preimage_52 (by
      first
      | exact (by
          obtain ⟨c_45, -, w_45⟩ := h_45.elim (fun q => absurd q.2.1 (by omega)) id
          rw [w_45, ← hU]
          refine Or.inr (Or.inr ⟨c9, fun x hx => ?_, rfl, fr_up (fr_t hy (fr_w f_41 (by decide)))⟩)
          rcases d_41 with ⟨a, -⟩ | ⟨-, b⟩
          · omega
          · exact b x (SLK_all (fun b hb => (hy 55 b (by decide)).trans (uF b hb)) (fun b => (hy 58 b (by decide)).trans (uC 58 b (by decide))) (fun b => (hy 59 b (by decide)).trans (uC 59 b (by decide))) (fun i a b => hD i a (by omega)) hx))
      | exact (by
          obtain ⟨c_33, -, w_33⟩ := h_33.elim (fun q => absurd q.2.1 (by omega)) id
          rw [w_33, ← hU]
          exact Or.inr (Or.inl ⟨fun q => by rw [y5, if_pos q] at c_33; exact absurd c_33 (by decide), rfl, fr_up hy⟩)))
        · skip
          obtain ⟨c_33, -, w_33⟩ := h_33.elim id (fun q => absurd q.2.1 (by omega))
          have w2_33 := w_33.symm
          subst w2_33
          have c9 : 0 ≤ c ∧ c < V 55 5 := Classical.byContradiction fun q => c_33 (by rw [y5, if_neg q])
          refine j_al0 hX dX12_preimage_39 rfl ?_
          refine j_al0 hX dX12_preimage_40 rfl ?_
          refine j_cVI0 (ci := 12) hX hG lk_X12_423 (ok_X12_isReached moY (by rw [y5]; exact hnm)) (by decide) rfl (Nat.le_of_ble_eq_true rfl) (Nat.le_of_ble_eq_true rfl) (Nat.le_of_ble_eq_true rfl) rfl dX12_preimage_41 (fun x_41 V_41 h_41 => ?_)
          obtain ⟨d_41, f_41⟩ := h_41
          have v0 : V_41 55 0 = 0 := (f_41 55 0 (by decide)).trans y0
          refine j_iconst hX dX12_preimage_44 ⟨by decide, by decide⟩ ?_
          refine j_cVI2 (ci := 12) hX hG lk_X12_168 (ok_X12_may v0 (by decide)) (by decide) rfl (Nat.le_of_ble_eq_true rfl) (Nat.le_of_ble_eq_true rfl) (Nat.le_of_ble_eq_true rfl) rfl dX12_preimage_45 (fun x_45 V_45 h_45 => ?_)
          skip
          refine j_if_ne (tgt := 53) hX dX12_preimage_48 (by decide) (fun h_48 => ?_) (fun h_48 => ?_)
          · skip
            obtain ⟨c_45, -, w_45⟩ := h_45.elim id (fun q => absurd q.2.1 (by omega))
            have w2_45 := w_45.symm
            subst w2_45
            have c41 : ∃ x, SOL (V 58) (V 55 1) (V 55 2) (V 55 5) (V 59) x := by
              obtain ⟨x, hx⟩ := d_41.elim (fun q => q.2) (fun q => absurd q.1 c_45)
              exact ⟨x, ((SLK_i (fun b hb => (hy 55 b (by decide)).trans (uF b hb)) (fun b => (hy 58 b (by decide)).trans (uC 58 b (by decide))) (fun b => (hy 59 b (by decide)).trans (uC 59 b (by decide)))).mp hx).1⟩
            refine j_iconst hX dX12_preimage_53 ⟨by decide, by decide⟩ ?_
            refine j_is2 hX dX12_preimage_54 rfl ?_
            have lp_55 : ∀ (f9 : Nat) (k : Int) (W : VV), (0 ≤ k ∧ k ≤ c + 1) → (fr [81, 82, 83] U W) → (PRq V (W 81) k) → ((c + 1 - k).toNat) < f9 → J X G 55 [vA 55, vI c, vI k] [] W := by
              intro f9
              induction f9 with
              | zero => intro k W _ _ _ hm; exact absurd hm (Nat.not_lt_zero _)
              | succ f9 ih_55 =>
                intro k W hk hw hP hm
                refine j_il2 hX dX12_preimage_55 ?_
                refine j_il1 hX dX12_preimage_56 ?_
                refine j_icmp_gt (tgt := 93) hX dX12_preimage_57 (by decide) (fun h_57 => ?_) (fun h_57 => ?_)
                · skip
                  refine j_al0 hX dX12_preimage_93 rfl ?_
                  refine j_getR (q := 81) hX hG fl_X12_92 rfl rfl (by decide) dX12_preimage_94 ?_
                  refine j_il1 hX dX12_preimage_97 ?_
                  refine j_iald (n := 16) hX hG (by decide) (by omega) dX12_preimage_98 ?_
                  exact j_retI hR dX12_preimage_99 (by rw [← hU]; exact Or.inl ⟨c9, (by obtain ⟨x, a, b⟩ := hP.2.1; exact ⟨x, a⟩), fun x hx => PRq_end hP c9 (by omega) hx, hw⟩)
                · skip
                  have w5 : W 55 5 = V 55 5 := (hw 55 5 (by decide)).trans e5
                  refine j_al0 hX dX12_preimage_60 rfl ?_
                  refine j_getR (q := 81) hX hG fl_X12_92 rfl rfl (by decide) dX12_preimage_61 ?_
                  refine j_il2 hX dX12_preimage_64 ?_
                  refine j_iconst hX dX12_preimage_65 ⟨by decide, by decide⟩ ?_
                  refine j_iast (n := 16) hX hG (by decide) (by omega) dX12_preimage_66 ?_
                  have lp_67 : ∀ (f9 : Nat) (Z : VV), (fr [81, 82, 83] U Z) → (PRk V (Z 81) k) → ((V 55 1 - Z 81 k).toNat) < f9 → J X G 67 [vA 55, vI c, vI k] [] Z := by
                    intro f9
                    induction f9 with
                    | zero => intro Z _ _ hm; exact absurd hm (Nat.not_lt_zero _)
                    | succ f9 ih_67 =>
                      intro Z hz2 hQ hm
                      refine j_al0 hX dX12_preimage_67 rfl ?_
                      have z5 : Z 55 5 = V 55 5 := (hz2 55 5 (by decide)).trans e5
                      have moZ : MO Z := moU.t (fun b _ => hz2 55 b (by decide))
                      have f81 : ∀ x, SLK Z x ↔ SLK2 V (Z 81) x := fun x => SLK_i (fun b hb => (hz2 55 b (by decide)).trans (uF b hb)) (fun b => (hz2 58 b (by decide)).trans (uC 58 b (by decide))) (fun b => (hz2 59 b (by decide)).trans (uC 59 b (by decide)))
                      refine j_cVI0 (ci := 12) hX hG lk_X12_423 (ok_X12_isReached moZ (by rw [z5]; exact hnm)) (by decide) rfl (Nat.le_of_ble_eq_true rfl) (Nat.le_of_ble_eq_true rfl) (Nat.le_of_ble_eq_true rfl) rfl dX12_preimage_68 (fun x_68 V_68 h_68 => ?_)
                      obtain ⟨d_68, f_68⟩ := h_68
                      refine j_if_ne (tgt := 87) hX dX12_preimage_71 (by decide) (fun h_71 => ?_) (fun h_71 => ?_)
                      · skip
                        refine j_inc2 hX dX12_preimage_87 rfl (by omega) ?_
                        refine j_goto (tgt := 55) hX dX12_preimage_90 (by decide) ?_
                        exact ih_55 _ _ (by omega) (fr_t hz2 (fr_w f_68 (by decide))) (PRq_S (fun i => f_68 81 i (by decide)) hQ ⟨hk.1, by omega⟩ (SLK_e f81 (d_68.elim (fun q => q.2) (fun q => absurd q.1 h_71)))) (by omega)
                      · skip
                        refine j_al0 hX dX12_preimage_74 rfl ?_
                        refine j_getR (q := 81) hX hG fl_X12_92 rfl rfl (by decide) dX12_preimage_75 ?_
                        refine j_il2 hX dX12_preimage_78 ?_
                        refine j_dup2 hX dX12_preimage_79 rfl rfl ?_
                        refine j_iald (n := 16) hX hG (by decide) (by omega) dX12_preimage_80 ?_
                        refine j_iconst hX dX12_preimage_81 ⟨by decide, by decide⟩ ?_
                        refine j_iadd hX dX12_preimage_82 (by have h9 := PRk_lt hQ ⟨hk.1, by omega⟩; have h8 := hQ.2.2.2; rw [f_68 81 k (by decide)]; omega) ?_
                        refine j_iast (n := 16) hX hG (by decide) (by omega) dX12_preimage_83 ?_
                        refine j_goto (tgt := 67) hX dX12_preimage_84 (by decide) ?_
                        exact ih_67 _ (fr_u (fr_t hz2 (fr_w f_68 (by decide))) (by decide)) (PRk_S hQ hk.1 (SLK_n f81 (d_68.elim (fun q => absurd q.1 (by omega)) (fun q => q.2))) (by rw [up_s, f_68 81 k (by decide)]) (fun i hi => by rw [up_n _ (fun q => hi q.2)]; exact f_68 81 i (by decide))) (by rw [up_s, f_68 81 k (by decide)]; have h9 := PRk_lt hQ ⟨hk.1, by omega⟩; have h8 := hQ.2.2.2; omega)
                  exact lp_67 _ _ (fr_u hw (by decide)) (PRk_0 hP ⟨hk.1, by omega⟩ (up_s ..) (fun i hi => up_n _ (fun q => hi q.2))) (Nat.lt_succ_self _)
            exact lp_55 _ 0 _ ⟨by decide, by omega⟩ (fr_t hy (fr_w f_41 (by decide))) (PRq_0 hnm (fun i a b => (f_41 81 i (by decide)).trans (hD i a (by omega))) c41) (Nat.lt_succ_self _)
          · skip
            refine j_iconst hX dX12_preimage_51 ⟨by decide, by decide⟩ ?_
            exact j_retI hR dX12_preimage_52 (by
      first
      | exact (by
          obtain ⟨c_45, -, w_45⟩ := h_45.elim (fun q => absurd q.2.1 (by omega)) id
          rw [w_45, ← hU]
          refine Or.inr (Or.inr ⟨c9, fun x hx => ?_, rfl, fr_up (fr_t hy (fr_w f_41 (by decide)))⟩)
          rcases d_41 with ⟨a, -⟩ | ⟨-, b⟩
          · omega
          · exact b x (SLK_all (fun b hb => (hy 55 b (by decide)).trans (uF b hb)) (fun b => (hy 58 b (by decide)).trans (uC 58 b (by decide))) (fun b => (hy 59 b (by decide)).trans (uC 59 b (by decide))) (fun i a b => hD i a (by omega)) hx))
      | exact (by
          obtain ⟨c_33, -, w_33⟩ := h_33.elim (fun q => absurd q.2.1 (by omega)) id
          rw [w_33, ← hU]
          exact Or.inr (Or.inl ⟨fun q => by rw [y5, if_pos q] at c_33; exact absurd c_33 (by decide), rfl, fr_up hy⟩)))
      · skip
        refine j_al0 hX dX12_preimage_13 rfl ?_
        refine j_getR (q := 81) hX hG fl_X12_92 rfl rfl (by decide) dX12_preimage_14 ?_
        refine j_il2 hX dX12_preimage_17 ?_
        refine j_iconst hX dX12_preimage_18 ⟨by decide, by decide⟩ ?_
        refine j_iast (n := 16) hX hG (by decide) (by omega) dX12_preimage_19 ?_
        refine j_inc2 hX dX12_preimage_20 rfl (by omega) ?_
        refine j_goto (tgt := 7) hX dX12_preimage_23 (by decide) ?_
        exact ih_7 _ _ (by omega) (fr_u hy (by decide)) (lt_stepI (fun i a b => by rw [up_n _ (by omega)]; exact hD i a b) (up_s ..)) (by omega)
  exact lp_7 _ _ _ ⟨by decide, by decide⟩ fr_0 (fun i a b => by omega) (Nat.lt_succ_self _)
