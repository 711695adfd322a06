section PSTGO
variable {V : VV}
theorem MO.dvd (ho : MO V) : V 55 1 ∣ V 55 4 := by
  rcases ho.2.1 with ⟨-, h⟩ | ⟨-, h⟩
  · rw [h]; exact Int.dvd_refl _
  · rw [h]; exact Int.dvd_mul_right _ _
theorem dm2 {g a b : Int} (hb : 0 ≤ b ∧ b < g) : (g * a + b) / g = a ∧ (g * a + b) % g = b := by rw [Int.mul_comm]; exact dm1 hb
theorem pdm (ho : MO V) {p : Int} (hp : 0 ≤ p ∧ p < V 55 4 * V 55 4) : (0 ≤ p / V 55 4 ∧ p / V 55 4 < V 55 4) ∧ (0 ≤ p % V 55 4 ∧ p % V 55 4 < V 55 4) ∧ V 55 4 * (p / V 55 4) + p % V 55 4 = p := by
  have hb := ho.b
  exact ⟨⟨Int.ediv_nonneg hp.1 (by omega), Int.ediv_lt_of_lt_mul (by omega) hp.2⟩, md_b p (by omega), Int.mul_ediv_add_emod p _⟩
theorem go_pst {p x y : Int} (ho : MO V) (hp : 0 ≤ p ∧ p < V 55 4 * V 55 4) (hx : 0 ≤ x ∧ x < V 55 1) (hy : 0 ≤ y ∧ y < V 55 1) (h : goF (V 58) (V 55 1) (V 55 4) p x y ≠ -1) : pst (V 58) (V 55 1) (V 55 4) (V 55 3) (p / V 55 4) (p % V 55 4) (goF (V 58) (V 55 1) (V 55 4) p x y / V 55 4) (goF (V 58) (V 55 1) (V 55 4) p x y % V 55 4) := by
  have hb := ho.b
  have gb := go_b ho hp hx hy
  unfold goF at h ⊢
  by_cases z : V 58 (V 55 1 * (p / V 55 4) + x) = V 58 (V 55 1 * (p % V 55 4) + y)
  · rw [if_pos z]
    have m1 := md_b (V 55 1 * (p / V 55 4) + x) (n := V 55 4) (by omega)
    have m2 := md_b (V 55 1 * (p % V 55 4) + y) (n := V 55 4) (by omega)
    have d := dm2 (g := V 55 4) (a := (V 55 1 * (p / V 55 4) + x) % V 55 4) m2
    rw [d.1, d.2]
    exact ⟨_, _, ⟨by omega, gb.1.2⟩, ⟨by omega, gb.2.1.2⟩, z, (dm2 hx).1, (dm2 hy).1, rfl, rfl⟩
  · rw [if_neg z] at h; exact absurd rfl h
theorem pst_go {a b a' b' : Int} (ho : MO V) (h : pst (V 58) (V 55 1) (V 55 4) (V 55 3) a b a' b') : ∃ x y, (0 ≤ x ∧ x < V 55 1) ∧ (0 ≤ y ∧ y < V 55 1) ∧ (0 ≤ V 55 4 * a + b ∧ V 55 4 * a + b < V 55 4 * V 55 4) ∧ (V 55 4 * a + b) / V 55 4 = a ∧ (V 55 4 * a + b) % V 55 4 = b ∧ goF (V 58) (V 55 1) (V 55 4) (V 55 4 * a + b) x y = V 55 4 * a' + b' ∧ (0 ≤ V 55 4 * a' + b' ∧ V 55 4 * a' + b' < V 55 4 * V 55 4) ∧ (V 55 4 * a' + b') / V 55 4 = a' ∧ (V 55 4 * a' + b') % V 55 4 = b' ∧ (a = b → a' ≠ b' → x ≠ y) := by
  have hb := ho.b
  obtain ⟨e, e', he, he', hT, rfl, rfl, rfl, rfl⟩ := h
  have h3 := ho.2.2
  have a1 : 0 ≤ e / V 55 1 ∧ e / V 55 1 < V 55 4 := ⟨Int.ediv_nonneg he.1 (by omega), Int.ediv_lt_of_lt_mul (by omega) (by omega)⟩
  have b1 : 0 ≤ e' / V 55 1 ∧ e' / V 55 1 < V 55 4 := ⟨Int.ediv_nonneg he'.1 (by omega), Int.ediv_lt_of_lt_mul (by omega) (by omega)⟩
  have x1 := md_b e (n := V 55 1) (by omega)
  have y1 := md_b e' (n := V 55 1) (by omega)
  have m1 := md_b e (n := V 55 4) (by omega)
  have m2 := md_b e' (n := V 55 4) (by omega)
  have d1 := dm2 (g := V 55 4) (a := e / V 55 1) b1
  have d2 := dm2 (g := V 55 4) (a := e % V 55 4) m2
  have w1 := wd2 (g := V 55 4) (N := V 55 4) (by omega) a1 b1
  have w2 := wd2 (g := V 55 4) (N := V 55 4) (by omega) m1 m2
  rw [Int.mul_comm] at w1 w2
  have p1 := Int.mul_ediv_add_emod e (V 55 1)
  have p2 := Int.mul_ediv_add_emod e' (V 55 1)
  refine ⟨_, _, x1, y1, w1, d1.1, d1.2, ?_, w2, d2.1, d2.2, fun q r s => r ?_⟩
  · unfold goF
    rw [d1.1, d1.2, p1, p2, if_pos hT]
  · have : e = e' := by rw [← p1, ← p2, q, s]
    rw [this]
theorem gof_r {p x y : Int} (ho : MO V) (hp : 0 ≤ p ∧ p < V 55 4 * V 55 4) (hx : 0 ≤ x ∧ x < V 55 1) (hy : 0 ≤ y ∧ y < V 55 1) (h : goF (V 58) (V 55 1) (V 55 4) p x y ≠ -1) : 0 ≤ goF (V 58) (V 55 1) (V 55 4) p x y ∧ goF (V 58) (V 55 1) (V 55 4) p x y < V 55 4 * V 55 4 := by
  have hb := ho.b
  unfold goF at h ⊢
  by_cases z : V 58 (V 55 1 * (p / V 55 4) + x) = V 58 (V 55 1 * (p % V 55 4) + y)
  · rw [if_pos z]
    have m1 := md_b (V 55 1 * (p / V 55 4) + x) (n := V 55 4) (by omega)
    have m2 := md_b (V 55 1 * (p % V 55 4) + y) (n := V 55 4) (by omega)
    have w2 := wd2 (g := V 55 4) (N := V 55 4) (by omega) m1 m2
    rw [Int.mul_comm] at w2
    exact w2
  · rw [if_neg z] at h; exact absurd rfl h
def PWp (V : VV) (j : Nat) (p : Int) : Prop := pWk (V 58) (V 55 1) (V 55 4) (V 55 3) j (p / V 55 4) (p % V 55 4)
theorem pwS_go {p x y : Int} {j : Nat} (ho : MO V) (hp : 0 ≤ p ∧ p < V 55 4 * V 55 4) (hx : 0 ≤ x ∧ x < V 55 1) (hy : 0 ≤ y ∧ y < V 55 1) (hj : PWp V j p) (h : goF (V 58) (V 55 1) (V 55 4) p x y ≠ -1) : PWp V (j + 1) (goF (V 58) (V 55 1) (V 55 4) p x y) := ⟨_, _, hj, go_pst ho hp hx hy h⟩
theorem pw0_go {p x y : Int} (ho : MO V) (hp : 0 ≤ p ∧ p < V 55 4 * V 55 4) (hal : p / V 55 4 = p % V 55 4) (hx : 0 ≤ x ∧ x < V 55 1) (hy : 0 ≤ y ∧ y < V 55 1) (hxy : ¬ x = y) (h : goF (V 58) (V 55 1) (V 55 4) p x y ≠ -1) : PWp V 0 (goF (V 58) (V 55 1) (V 55 4) p x y) := by
  have hs := go_pst ho hp hx hy h
  have hb := ho.b
  refine ⟨?_, p / V 55 4, by rw [← hal] at hs; exact hs⟩
  unfold goF at h ⊢
  by_cases z : V 58 (V 55 1 * (p / V 55 4) + x) = V 58 (V 55 1 * (p % V 55 4) + y)
  · rw [if_pos z]
    have m2 := md_b (V 55 1 * (p % V 55 4) + y) (n := V 55 4) (by omega)
    have d := dm2 (g := V 55 4) (a := (V 55 1 * (p / V 55 4) + x) % V 55 4) m2
    rw [d.1, d.2, ← hal]
    intro c
    have c2 : (V 55 1 * (p / V 55 4) + x) % V 55 4 % V 55 1 = (V 55 1 * (p / V 55 4) + y) % V 55 4 % V 55 1 := by rw [c]
    rw [Int.emod_emod_of_dvd _ ho.dvd, Int.emod_emod_of_dvd _ ho.dvd, (dm2 hx).2, (dm2 hy).2] at c2
    exact hxy c2
  · rw [if_neg z] at h; exact absurd rfl h
def H0p (V : VV) (F : Int → Int) (p k : Int) : Prop := ∀ q x y, (0 ≤ q ∧ q < V 55 4 * V 55 4) → q / V 55 4 = q % V 55 4 → (q < p ∨ q = p ∧ x * V 55 1 + y < k) → (0 ≤ x ∧ x < V 55 1) → (0 ≤ y ∧ y < V 55 1) → x ≠ y → goF (V 58) (V 55 1) (V 55 4) q x y ≠ -1 → F (goF (V 58) (V 55 1) (V 55 4) q x y) = 1
def BF (V : VV) (F Q : Int → Int) (M i k : Int) : Prop := (0 ≤ i ∧ i ≤ M ∧ (i < M ∨ k = 0) ∧ M = cntI (fun p => F p != 0) (V 55 4 * V 55 4).toNat) ∧ (∀ a, 0 ≤ a → a < M → (0 ≤ Q a ∧ Q a < V 55 4 * V 55 4) ∧ (1 ≤ F (Q a) ∧ F (Q a) ≤ a + 1) ∧ PWp V (F (Q a) - 1).toNat (Q a)) ∧ (∀ p, 0 ≤ p → p < V 55 4 * V 55 4 → F p = 0 ∨ ∃ a, 0 ≤ a ∧ a < M ∧ Q a = p) ∧ (∀ a b, 0 ≤ a → a ≤ b → b < M → F (Q a) ≤ F (Q b)) ∧ (i < M → ∀ b, 0 ≤ b → b < M → F (Q b) ≤ F (Q i) + 1) ∧
  ∀ a x y, 0 ≤ a → a < M → (a < i ∨ a = i ∧ x * V 55 1 + y < k) → (0 ≤ x ∧ x < V 55 1) → (0 ≤ y ∧ y < V 55 1) → goF (V 58) (V 55 1) (V 55 4) (Q a) x y ≠ -1 → goF (V 58) (V 55 1) (V 55 4) (Q a) x y / V 55 4 ≠ goF (V 58) (V 55 1) (V 55 4) (Q a) x y % V 55 4 ∧ F (goF (V 58) (V 55 1) (V 55 4) (Q a) x y) ≠ 0 ∧ F (goF (V 58) (V 55 1) (V 55 4) (Q a) x y) ≤ F (Q a) + 1
variable {F Q F' Q' : Int → Int} {M i k t v p : Int}
theorem bf_M (h : BF V F Q M i k) : 0 ≤ M := by have := h.1.1; have := h.1.2.1; omega
theorem bf_N (h : BF V F Q M i k) (hn : 0 ≤ V 55 4 * V 55 4 := by omega) : M ≤ V 55 4 * V 55 4 := by
  have h1 := h.1.2.2.2
  have := cntI_b (fun p => F p != 0) (V 55 4 * V 55 4).toNat
  omega
theorem bf_Q (h : BF V F Q M i k) {a : Int} (a0 : 0 ≤ a) (a1 : a < M) : (0 ≤ Q a ∧ Q a < V 55 4 * V 55 4) ∧ (1 ≤ F (Q a) ∧ F (Q a) ≤ a + 1) ∧ PWp V (F (Q a) - 1).toNat (Q a) := h.2.1 a a0 a1
theorem bf_E (h : BF V F Q M i k) (hi : i < M) {b : Int} (b0 : 0 ≤ b) (b1 : b < M) : F (Q b) ≤ F (Q i) + 1 := h.2.2.2.2.1 hi b b0 b1
theorem bf_z (h : BF V F Q M i k) (ht : 0 ≤ t ∧ t < V 55 4 * V 55 4) (hl : F t ≤ 0) : F t = 0 := by
  rcases h.2.2.1 t ht.1 ht.2 with a | ⟨a, b, c, d⟩
  · exact a
  · have := (h.2.1 a b c).2.1.1
    rw [d] at this
    omega
theorem bf_lt (h : BF V F Q M i k) (ht : 0 ≤ t ∧ t < V 55 4 * V 55 4) (h0 : F t = 0) : M < V 55 4 * V 55 4 := by
  have h1 := h.1.2.2.2
  have := cntI_lt (p := fun p => F p != 0) (r := fun _ => true) (V 55 4 * V 55 4).toNat (fun _ _ _ _ => rfl) ⟨t, ht.1, by omega, by simp [h0], rfl⟩
  have := cntI_b (fun _ => true) (V 55 4 * V 55 4).toNat
  omega
theorem bf_1 (h : BF V F Q M i k) (hf : ∀ a, 0 ≤ a → a < M → F (Q a) = 1) (ht : 0 ≤ t ∧ t < V 55 4 * V 55 4) (h0 : 0 < F t) : F t = 1 := by
  rcases h.2.2.1 t ht.1 ht.2 with a | ⟨a, b, c, d⟩
  · omega
  · rw [← d]; exact hf a b c
theorem cnt_add {n : Nat} (ht : 0 ≤ t) (h0 : F t = 0) (hv : v ≠ 0) (hF : ∀ p, F' p = if p = t then v else F p) : t < n → cntI (fun p => F' p != 0) n = cntI (fun p => F p != 0) n + 1 := by
  induction n with
  | zero => intro h; omega
  | succ n ih =>
    intro h
    by_cases e : t = n
    · have c := cntI_c (p := fun p => F' p != 0) (r := fun p => F p != 0) n (fun k k0 k1 => by show (F' k != 0) = (F k != 0); rw [hF, if_neg (by omega)])
      have e1 : F' n = v := by rw [hF, if_pos e.symm]
      have e2 : F n = 0 := by rw [← e]; exact h0
      unfold cntI
      rw [c]
      simp [e1, e2, hv]
    · have e1 : F' n = F n := by rw [hF, if_neg (fun q => e q.symm)]
      unfold cntI
      rw [ih (by omega), e1]
      omega
theorem cnt_zero {n : Nat} (h : ∀ k : Int, 0 ≤ k → k < n → F k = 0) : cntI (fun p => F p != 0) n = 0 := by
  induction n with
  | zero => rfl
  | succ n ih =>
    unfold cntI
    rw [ih (fun k a b => h k a (by omega)), h n (by omega) (by omega)]
    rfl
theorem bf_0 (h : ∀ t, 0 ≤ t → t < V 55 4 * V 55 4 → F t = 0) : BF V F Q 0 0 0 := by
  refine ⟨⟨by decide, by decide, Or.inr rfl, (cnt_zero (fun k a b => h k a (by omega))).symm⟩, fun a a0 a1 => by omega, fun p p0 p1 => Or.inl (h p p0 p1), fun a b a0 ab bM => by omega, fun q => by omega, fun a x y a0 a1 => by omega⟩
theorem up_f9 (Y : VV) (t v M : Int) (q : Int) : (up (up Y 69 t v) 70 M t) 69 q = if q = t then v else Y 69 q := by
  rw [up_n _ (by omega)]
  by_cases e : q = t
  · rw [if_pos e, e, up_s]
  · rw [if_neg e, up_n _ (fun z => e z.2)]
theorem up_q9 (Y : VV) (t v M : Int) (q : Int) : (up (up Y 69 t v) 70 M t) 70 q = if q = M then t else Y 70 q := by
  by_cases e : q = M
  · rw [if_pos e, e, up_s]
  · rw [if_neg e, up_n _ (fun z => e z.2), up_n _ (by omega)]
theorem bf_q (h : BF V F Q M i k) (h0 : F t = 0) (hF : ∀ p, F' p = if p = t then v else F p) (hQ : ∀ a, Q' a = if a = M then t else Q a) {a : Int} (a0 : 0 ≤ a) (a1 : a < M) : Q' a = Q a ∧ F' (Q a) = F (Q a) := by
  refine ⟨by rw [hQ, if_neg (by omega)], ?_⟩
  have := (h.2.1 a a0 a1).2.1.1
  rw [hF, if_neg (fun q => by rw [q] at this; omega)]
theorem bf_add (h : BF V F Q M i k) (ht : 0 ≤ t ∧ t < V 55 4 * V 55 4) (h0 : F t = 0) (hv : 1 ≤ v ∧ v ≤ M + 1) (hw : PWp V (v - 1).toNat t) (hm : ∀ b, 0 ≤ b → b < M → F (Q b) ≤ v) (hi : i < M → v ≤ F (Q i) + 1) (hF : ∀ p, F' p = if p = t then v else F p) (hQ : ∀ a, Q' a = if a = M then t else Q a) : BF V F' Q' (M + 1) i k := by
  have q0 := fun {a : Int} (a0 : 0 ≤ a) (a1 : a < M) => bf_q h h0 hF hQ a0 a1
  have M0 := bf_M h
  have qM : Q' M = t := by rw [hQ, if_pos rfl]
  have fM : F' t = v := by rw [hF, if_pos rfl]
  obtain ⟨⟨a1, a2, a3, a4⟩, B, C, D, E, K⟩ := h
  refine ⟨⟨a1, by omega, by omega, ?_⟩, fun a b c => ?_, fun p p0 p1 => ?_, fun a b x y z => ?_, fun q b x y => ?_, fun a x y z1 z2 z3 z4 z5 z6 => ?_⟩
  · rw [cnt_add ht.1 h0 (by omega) hF (by omega), ← a4]
  · by_cases e : a = M
    · rw [e, qM, fM]; exact ⟨ht, hv, hw⟩
    · have q := q0 b (by omega)
      rw [q.1, q.2]; exact B a b (by omega)
  · by_cases e : p = t
    · exact Or.inr ⟨M, M0, by omega, by rw [qM, e]⟩
    · rw [hF, if_neg e]
      rcases C p p0 p1 with c | ⟨a, c, d, f⟩
      · exact Or.inl c
      · exact Or.inr ⟨a, c, by omega, by rw [(q0 c d).1, f]⟩
  · by_cases e : b = M
    · by_cases e2 : a = M
      · rw [e, e2]; exact Int.le_refl _
      · rw [e, qM, fM, (q0 x (by omega)).1, (q0 x (by omega)).2]; exact hm a x (by omega)
    · rw [(q0 x (by omega)).1, (q0 x (by omega)).2, (q0 (by omega) (by omega)).1, (q0 (by omega) (by omega)).2]; exact D a b x y (by omega)
  · by_cases e2 : i = M
    · rw [e2, qM, fM]
      by_cases e : b = M
      · rw [e, qM, fM]; omega
      · rw [(q0 x (by omega)).1, (q0 x (by omega)).2]; have := hm b x (by omega); omega
    · rw [(q0 a1 (by omega)).1, (q0 a1 (by omega)).2]
      by_cases e : b = M
      · rw [e, qM, fM]; exact hi (by omega)
      · rw [(q0 x (by omega)).1, (q0 x (by omega)).2]; exact E (by omega) b x (by omega)
  · have hn := Int.mul_nonneg z4.1 (show 0 ≤ V 55 1 by omega)
    have zM : a < M := by omega
    rw [(q0 z1 zM).1] at z6 ⊢
    rw [(q0 z1 zM).2]
    obtain ⟨r1, r2, r3⟩ := K a x y z1 zM z3 z4 z5 z6
    refine ⟨r1, ?_⟩
    have e : goF (V 58) (V 55 1) (V 55 4) (Q a) x y ≠ t := fun q => r2 (by rw [q]; exact h0)
    rw [hF, if_neg e]
    exact ⟨r2, r3⟩
theorem bf_f1 (h : BF V F Q M i k) (hf : ∀ a, 0 ≤ a → a < M → F (Q a) = 1) (hF : ∀ p, F' p = if p = t then 1 else F p) (hQ : ∀ a, Q' a = if a = M then t else Q a) : ∀ a, 0 ≤ a → a < M + 1 → F' (Q' a) = 1 := fun a a0 a1 => by
  rw [hF, hQ]
  by_cases e : a = M
  · rw [if_pos e, if_pos rfl]
  · rw [if_neg e, hf a a0 (by omega)]; split <;> rfl
theorem h0_0 (ho : MO V) : H0p V F 0 0 := fun q x y a b c d => by
  have hb := ho.b
  have := Int.mul_nonneg d.1 (show 0 ≤ V 55 1 by omega)
  omega
theorem h0_R (h : H0p V F p k) (hk : V 55 1 * V 55 1 ≤ k) : H0p V F (p + 1) 0 := fun q x y a b c d e => by
  have w := wd2 (g := V 55 1) (N := V 55 1) (by omega) d e
  exact h q x y a b (by omega) d e
theorem h0_N (h : H0p V F p 0) (hn : ¬ p / V 55 4 = p % V 55 4) : H0p V F (p + 1) 0 := fun q x y a b c d e => by
  have w := wd2 (g := V 55 1) (N := V 55 1) (by omega) d e
  have : q ≠ p := fun z => hn (by rw [← z]; exact b)
  exact h q x y a b (by omega) d e
theorem h0_k (h : H0p V F p k) (hr : ¬ k / V 55 1 = k % V 55 1 → goF (V 58) (V 55 1) (V 55 4) p (k / V 55 1) (k % V 55 1) ≠ -1 → F (goF (V 58) (V 55 1) (V 55 4) p (k / V 55 1) (k % V 55 1)) = 1) : H0p V F p (k + 1) := fun q x y a b c d e f g9 => by
  by_cases z : q < p ∨ q = p ∧ x * V 55 1 + y < k
  · exact h q x y a b z d e f g9
  · have hk : x * V 55 1 + y = k := by omega
    have w := dm1 (g := V 55 1) (a := x) e
    rw [hk] at w
    have qp : q = p := by omega
    rw [qp] at g9 ⊢
    rw [← w.1, ← w.2] at g9 ⊢
    exact hr (by rw [w.1, w.2]; exact f) g9
theorem h0_u (h : H0p V F p k) (hF : ∀ p, F' p = if p = t then 1 else F p) : H0p V F' p k := fun q x y a b c d e f g9 => by
  rw [hF, h q x y a b c d e f g9]; split <;> rfl
theorem h0_w (h : H0p V F p k) (hF : ∀ p, F' p = if p = t then v else F p) (h0 : F t = 0) : H0p V F' p k := fun q x y a b c d e f g9 => by
  have h1 := h q x y a b c d e f g9
  rw [hF, if_neg (fun z => by rw [z, h0] at h1; exact absurd h1 (by decide)), h1]
theorem bf_k (ho : MO V) (h : BF V F Q M i k) (hi : i < M) (hk : 0 ≤ k) (hl : k < V 55 1 * V 55 1) (hr : goF (V 58) (V 55 1) (V 55 4) (Q i) (k / V 55 1) (k % V 55 1) ≠ -1 → goF (V 58) (V 55 1) (V 55 4) (Q i) (k / V 55 1) (k % V 55 1) / V 55 4 ≠ goF (V 58) (V 55 1) (V 55 4) (Q i) (k / V 55 1) (k % V 55 1) % V 55 4 ∧ F (goF (V 58) (V 55 1) (V 55 4) (Q i) (k / V 55 1) (k % V 55 1)) ≠ 0) : BF V F Q M i (k + 1) := by
  obtain ⟨⟨a1, a2, a3, a4⟩, B, C, D, E, K⟩ := h
  refine ⟨⟨a1, a2, Or.inl hi, a4⟩, B, C, D, E, fun a x y z1 z2 z3 z4 z5 z6 => ?_⟩
  by_cases z : a < i ∨ a = i ∧ x * V 55 1 + y < k
  · exact K a x y z1 z2 z z4 z5 z6
  · have hk : x * V 55 1 + y = k := by omega
    have w := dm1 (g := V 55 1) (a := x) z5
    rw [hk] at w
    have e : a = i := by omega
    rw [e, ← w.1, ← w.2] at z6
    have r := hr z6
    rw [e, ← w.1, ← w.2]
    refine ⟨r.1, r.2, ?_⟩
    have gr := gof_r ho (B i a1 hi).1 (by rw [w.1]; exact z4) (by rw [w.2]; exact z5) z6
    rcases C _ gr.1 gr.2 with c | ⟨c, c0, c1, c2⟩
    · exact absurd c r.2
    · rw [← c2]; exact E hi c c0 c1
theorem bf_n (h : BF V F Q M i k) (hi : i < M) (hk : V 55 1 * V 55 1 ≤ k) : BF V F Q M (i + 1) 0 := by
  obtain ⟨⟨a1, a2, a3, a4⟩, B, C, D, E, K⟩ := h
  refine ⟨⟨by omega, by omega, Or.inr rfl, a4⟩, B, C, D, fun q b b0 b1 => ?_, fun a x y z1 z2 z3 z4 z5 z6 => ?_⟩
  · have := E hi b b0 b1
    have := D i (i + 1) a1 (by omega) q
    omega
  · have w := wd2 (g := V 55 1) (N := V 55 1) (by omega) z4 z5
    exact K a x y z1 z2 (by omega) z4 z5 z6
theorem pWkm_b (ho : MO V) : ∀ (j : Nat) (a b : Int), pWk (V 58) (V 55 1) (V 55 4) (V 55 3) j a b → (0 ≤ a ∧ a < V 55 4) ∧ 0 ≤ b ∧ b < V 55 4 := fun j a b h => by
  have hb := ho.b
  cases j with
  | zero => obtain ⟨-, c, d⟩ := h; exact pst_b (by omega) d
  | succ j => obtain ⟨c, d, -, e⟩ := h; exact pst_b (by omega) e
theorem sh_all (ho : MO V) (h : BF V F Q M i k) (hH : H0p V F (V 55 4 * V 55 4) 0) (J : Nat) (hJ : ∀ a, 0 ≤ a → a < M → F (Q a) ≤ J → a < i) : ∀ j : Nat, j ≤ J → ∀ a b, pWk (V 58) (V 55 1) (V 55 4) (V 55 3) j a b → (F (V 55 4 * a + b) ≠ 0 ∧ F (V 55 4 * a + b) ≤ j + 1) ∧ a ≠ b := by
  intro j
  induction j with
  | zero =>
    rintro - a b ⟨h1, c, h2⟩
    obtain ⟨x, y, x1, y1, p1, p2, p3, p4, p5, p6, p7, p8⟩ := pst_go ho h2
    have hf := hH _ x y p1 (by rw [p2, p3]) (Or.inl p1.2) x1 y1 (p8 rfl h1) (by rw [p4]; omega)
    rw [p4] at hf
    exact ⟨⟨by omega, by omega⟩, h1⟩
  | succ j ih =>
    rintro hj a b ⟨c, d, h1, h2⟩
    obtain ⟨⟨i1, i2⟩, -⟩ := ih (by omega) c d h1
    obtain ⟨x, y, x1, y1, p1, p2, p3, p4, p5, p6, p7, p8⟩ := pst_go ho h2
    rcases h.2.2.1 _ p1.1 p1.2 with z | ⟨z, z0, z1, z2⟩
    · exact absurd z i1
    · have zi := hJ z z0 z1 (by rw [z2]; omega)
      have r := h.2.2.2.2.2 z x y z0 z1 (Or.inl zi) x1 y1 (by rw [z2, p4]; omega)
      rw [z2, p4, p6, p7] at r
      exact ⟨⟨r.2.1, by have := r.2.2; omega⟩, r.1⟩
theorem sh_some {x y : Int} (ho : MO V) (h : BF V F Q M i k) (hH : H0p V F (V 55 4 * V 55 4) 0) (hi0 : 0 ≤ i) (hi : i < M) (hx : 0 ≤ x ∧ x < V 55 1) (hy : 0 ≤ y ∧ y < V 55 1) (hg : goF (V 58) (V 55 1) (V 55 4) (Q i) x y ≠ -1) (hal : goF (V 58) (V 55 1) (V 55 4) (Q i) x y / V 55 4 = goF (V 58) (V 55 1) (V 55 4) (Q i) x y % V 55 4) : DI (V 58) (V 55 1) (V 55 4) (V 55 3) (F (Q i) + 1) := by
  obtain ⟨b1, b2, b3⟩ := h.2.1 i hi0 hi
  refine Or.inr ⟨(F (Q i)).toNat, by omega, ⟨goF (V 58) (V 55 1) (V 55 4) (Q i) x y / V 55 4, ?_⟩, fun j hj a q => ?_⟩
  · have := pwS_go ho b1 hx hy b3 hg
    unfold PWp at this
    rw [← hal, show (F (Q i) - 1).toNat + 1 = (F (Q i)).toNat by omega] at this
    exact this
  · refine (sh_all ho h hH ((F (Q i)).toNat - 1) (fun a a0 a1 a2 => ?_) j (by omega) a a q).2 rfl
    refine Classical.byContradiction fun z => ?_
    have := h.2.2.2.1 i a hi0 (by omega) a1
    omega
theorem sh_none (ho : MO V) (h : BF V F Q M i k) (hi : M ≤ i) (hH : H0p V F (V 55 4 * V 55 4) 0) : DI (V 58) (V 55 1) (V 55 4) (V 55 3) 0 := Or.inl ⟨rfl, fun j a q => (sh_all ho h hH j (fun a a0 a1 a2 => by omega) j (Nat.le_refl _) a a q).2 rfl⟩
end PSTGO
set_option maxHeartbeats 4000000 in
theorem ok_X12_shortest {V : VV} (hmo : MO V) : Ok NA yX12_shortest cX12_shortest 5 (some .int) 1 25 [vA 55] V (pI (fun x9 V' => ((x9 = -1 ∧ DI (V 58) (V 55 1) (V 55 4) (V 55 3) 0) ∨ (1 ≤ x9 ∧ DI (V 58) (V 55 1) (V 55 4) (V 55 3) x9)) ∧ fr [69, 70] V V')) := by
  refine Ok.intro (by decide +kernel) (Nat.le_of_ble_eq_true rfl) (fun X G hX hG hR hoa hoV => ?_)
  show J X G 0 [vA 55, vU, vU, vU, vU] [] V
  have hb9 := hmo.b
  have nn := n36 hb9.2.2.1
  have gg := g36 hb9.1
  refine j_iconst hX dX12_shortest_0 ⟨by decide, by decide⟩ ?_
  refine j_is1 hX dX12_shortest_1 rfl ?_
  have lp_2 : ∀ (f9 : Nat) (p : Int) (Y : VV), (0 ≤ p ∧ p ≤ V 55 4 * V 55 4) → (fr [69, 70] V Y) → (∀ j, 0 ≤ j → j < p → Y 69 j = 0) → ((V 55 4 * V 55 4 - p).toNat) < f9 → J X G 2 [vA 55, vI p, vU, vU, vU] [] Y := by
    intro f9
    induction f9 with
    | zero => intro p Y _ _ _ hm; exact absurd hm (Nat.not_lt_zero _)
    | succ f9 ih_2 =>
      intro p Y hp hsy hF0 hm
      refine j_il1 hX dX12_shortest_2 ?_
      refine j_al0 hX dX12_shortest_3 rfl ?_
      refine j_getI hX hG fl_X12_145 (Or.inl rfl) (by decide) dX12_shortest_4 ?_
      refine j_al0 hX dX12_shortest_7 rfl ?_
      refine j_getI hX hG fl_X12_145 (Or.inl rfl) (by decide) dX12_shortest_8 ?_
      refine j_eqS (st' := [vI (V 55 4), vI (V 55 4), vI p]) (by rw [hsy 55 4 (by decide)]) ?_
      refine j_imul hX dX12_shortest_11 (by omega) ?_
      refine j_icmp_ge (tgt := 28) hX dX12_shortest_12 (by decide) (fun h_12 => ?_) (fun h_12 => ?_)
      · skip
        refine j_iconst hX dX12_shortest_28 ⟨by decide, by decide⟩ ?_
        refine j_is1 hX dX12_shortest_29 rfl ?_
        refine j_iconst hX dX12_shortest_30 ⟨by decide, by decide⟩ ?_
        refine j_is2 hX dX12_shortest_31 rfl ?_
        have lp_32 : ∀ (f9 : Nat) (M p : Int) (Y2 : VV), (0 ≤ p ∧ p ≤ V 55 4 * V 55 4) → (fr [69, 70] V Y2) → (BF V (Y2 69) (Y2 70) M 0 0) → (∀ a, 0 ≤ a → a < M → Y2 69 (Y2 70 a) = 1) → (H0p V (Y2 69) p 0) → ((V 55 4 * V 55 4 - p).toNat) < f9 → J X G 32 [vA 55, vI M, vI p, vU, vU] [] Y2 := by
          intro f9
          induction f9 with
          | zero => intro M p Y2 _ _ _ _ _ hm; exact absurd hm (Nat.not_lt_zero _)
          | succ f9 ih_32 =>
            intro M p Y2 hp2 hs2 hB2 hF2 hH2 hm
            refine j_il2 hX dX12_shortest_32 ?_
            refine j_al0 hX dX12_shortest_33 rfl ?_
            refine j_getI hX hG fl_X12_145 (Or.inl rfl) (by decide) dX12_shortest_34 ?_
            refine j_al0 hX dX12_shortest_37 rfl ?_
            refine j_getI hX hG fl_X12_145 (Or.inl rfl) (by decide) dX12_shortest_38 ?_
            refine j_eqS (st' := [vI (V 55 4), vI (V 55 4), vI p]) (by rw [hs2 55 4 (by decide)]) ?_
            refine j_imul hX dX12_shortest_41 (by omega) ?_
            refine j_icmp_ge (tgt := 159) hX dX12_shortest_42 (by decide) (fun h_42 => ?_) (fun h_42 => ?_)
            · skip
              refine j_iconst hX dX12_shortest_159 ⟨by decide, by decide⟩ ?_
              refine j_is2 hX dX12_shortest_160 rfl ?_
              have lp_161 : ∀ (f9 : Nat) (M3 i : Int) (Z : VV), (0 ≤ i ∧ i ≤ M3) → (fr [69, 70] V Z) → (BF V (Z 69) (Z 70) M3 i 0) → (H0p V (Z 69) (V 55 4 * V 55 4) 0) → ((V 55 4 * V 55 4 - i).toNat) < f9 → J X G 161 [vA 55, vI M3, vI i, vU, vU] [] Z := by
                intro f9
                induction f9 with
                | zero => intro M3 i Z _ _ _ _ hm; exact absurd hm (Nat.not_lt_zero _)
                | succ f9 ih_161 =>
                  intro M3 i Z hi hs4 hB4 hH4 hm
                  refine j_il2 hX dX12_shortest_161 ?_
                  refine j_il1 hX dX12_shortest_162 ?_
                  refine j_icmp_ge (tgt := 293) hX dX12_shortest_163 (by decide) (fun h_163 => ?_) (fun h_163 => ?_)
                  · skip
                    refine j_iconst hX dX12_shortest_293 ⟨by decide, by decide⟩ ?_
                    exact j_retI hR dX12_shortest_294 ⟨Or.inl ⟨rfl, sh_none hmo hB4 (by omega) hH4⟩, hs4⟩
                  · skip
                    refine j_iconst hX dX12_shortest_166 ⟨by decide, by decide⟩ ?_
                    refine j_is3 hX dX12_shortest_167 rfl ?_
                    have lp_168 : ∀ (f9 : Nat) (M4 k : Int) (Z2 : VV), (0 ≤ k ∧ k ≤ V 55 1 * V 55 1) → (fr [69, 70] V Z2) → (BF V (Z2 69) (Z2 70) M4 i k) → (H0p V (Z2 69) (V 55 4 * V 55 4) 0) → (i < M4) → ((V 55 1 * V 55 1 - k).toNat) < f9 → J X G 168 [vA 55, vI M4, vI i, vI k, vU] [] Z2 := by
                      intro f9
                      induction f9 with
                      | zero => intro M4 k Z2 _ _ _ _ _ hm; exact absurd hm (Nat.not_lt_zero _)
                      | succ f9 ih_168 =>
                        intro M4 k Z2 hk hs5 hB5 hH5 hi5 hm
                        refine j_il3 hX dX12_shortest_168 ?_
                        have z58 : Z2 58 = V 58 := funext fun b => hs5 58 b (by decide)
                        have z1 : Z2 55 1 = V 55 1 := hs5 55 1 (by decide)
                        have z4 : Z2 55 4 = V 55 4 := hs5 55 4 (by decide)
                        have moZ : MO Z2 := by unfold MO; rw [z1, z4, hs5 55 2 (by decide), hs5 55 3 (by decide)]; exact hmo
                        have bM := bf_N hB5
                        have bQ := bf_Q hB5 hi.1 hi5
                        refine j_al0 hX dX12_shortest_169 rfl ?_
                        refine j_getI hX hG fl_X12_136 (Or.inl rfl) (by decide) dX12_shortest_170 ?_
                        refine j_al0 hX dX12_shortest_173 rfl ?_
                        refine j_getI hX hG fl_X12_136 (Or.inl rfl) (by decide) dX12_shortest_174 ?_
                        refine j_eqS (st' := [vI (V 55 1), vI (V 55 1), vI k]) (by rw [z1]) ?_
                        refine j_imul hX dX12_shortest_177 (by omega) ?_
                        refine j_icmp_ge (tgt := 287) hX dX12_shortest_178 (by decide) (fun h_178 => ?_) (fun h_178 => ?_)
                        · skip
                          refine j_inc2 hX dX12_shortest_287 rfl (by omega) ?_
                          refine j_goto (tgt := 161) hX dX12_shortest_290 (by decide) ?_
                          refine j_fg3 ?_
                          exact ih_161 _ _ _ (by have := bf_N hB5; omega) hs5 (bf_n hB5 hi5 (by omega)) hH5 (by have := bf_N hB5; omega)
                        · skip
                          have q1 : 0 ≤ k / V 55 1 ∧ k / V 55 1 < V 55 1 := ⟨Int.ediv_nonneg hk.1 (by omega), Int.ediv_lt_of_lt_mul (by omega) (by omega)⟩
                          have q2 := md_b k (n := V 55 1) (by omega)
                          have hkl : k < V 55 1 * V 55 1 := by omega
                          refine j_al0 hX dX12_shortest_181 rfl ?_
                          refine j_al0 hX dX12_shortest_182 rfl ?_
                          refine j_getR (q := 70) hX hG fl_X12_57 rfl rfl (by decide) dX12_shortest_183 ?_
                          refine j_il2 hX dX12_shortest_186 ?_
                          refine j_iald (n := 1296) hX hG (by decide) (by omega) dX12_shortest_187 ?_
                          refine j_il3 hX dX12_shortest_188 ?_
                          refine j_al0 hX dX12_shortest_189 rfl ?_
                          refine j_getI hX hG fl_X12_136 (Or.inl rfl) (by decide) dX12_shortest_190 ?_
                          refine j_eqS (st' := [vI (V 55 1), vI k, vI (Z2 70 i), vA 55]) (by rw [z1]) ?_
                          refine j_idiv hX dX12_shortest_193 (by omega) hk.1 ?_
                          refine j_il3 hX dX12_shortest_194 ?_
                          refine j_al0 hX dX12_shortest_195 rfl ?_
                          refine j_getI hX hG fl_X12_136 (Or.inl rfl) (by decide) dX12_shortest_196 ?_
                          refine j_eqS (st' := [vI (V 55 1), vI k, vI (k / V 55 1), vI (Z2 70 i), vA 55]) (by rw [z1]) ?_
                          refine j_irem hX dX12_shortest_199 (by omega) hk.1 ?_
                          refine j_pVI3 (ci := 12) hX hG lk_X12_334 (ok_X12_goes moZ (by rw [z4]; exact bQ.1) (by rw [z1]; exact q1) (by rw [z1]; exact q2)) (by decide) rfl (Nat.le_of_ble_eq_true rfl) (Nat.le_of_ble_eq_true rfl) (Nat.le_of_ble_eq_true rfl) rfl dX12_shortest_200 ?_
                          refine j_eqS (st' := [vI (goF (V 58) (V 55 1) (V 55 4) (Z2 70 i) (k / V 55 1) (k % V 55 1))]) (by rw [z58, z1, z4]) ?_
                          obtain ⟨t, ht⟩ : ∃ t, t = goF (V 58) (V 55 1) (V 55 4) (Z2 70 i) (k / V 55 1) (k % V 55 1) := ⟨_, rfl⟩
                          rw [← ht]
                          refine j_is4 hX dX12_shortest_203 rfl ?_
                          refine j_il4 hX dX12_shortest_205 ?_
                          refine j_iconst hX dX12_shortest_207 ⟨by decide, by decide⟩ ?_
                          refine j_icmp_ne (tgt := 214) hX dX12_shortest_208 (by decide) (fun h_208 => ?_) (fun h_208 => ?_)
                          · skip
                            have gr := gof_r hmo bQ.1 q1 q2 (fun c => h_208 (ht.trans c))
                            rw [← ht] at gr
                            refine j_al0 hX dX12_shortest_214 rfl ?_
                            refine j_il4 hX dX12_shortest_215 ?_
                            refine j_pVI1 (ci := 12) hX hG lk_X12_331 (ok_X12_isAlike moZ (by rw [z4]; exact gr)) (by decide) rfl (Nat.le_of_ble_eq_true rfl) (Nat.le_of_ble_eq_true rfl) (Nat.le_of_ble_eq_true rfl) rfl dX12_shortest_217 ?_
                            refine j_ifz_eq (tgt := 237) hX dX12_shortest_220 (by decide) (fun h_220 => ?_) (fun h_220 => ?_)
                            · skip
                              have hna : t / V 55 4 ≠ t % V 55 4 := by rw [← z4]; exact h_220
                              refine j_al0 hX dX12_shortest_237 rfl ?_
                              refine j_getR (q := 69) hX hG fl_X12_54 rfl rfl (by decide) dX12_shortest_238 ?_
                              refine j_il4 hX dX12_shortest_241 ?_
                              refine j_iald (n := 1296) hX hG (by decide) (by omega) dX12_shortest_243 ?_
                              refine j_if_le (tgt := 250) hX dX12_shortest_244 (by decide) (fun h_244 => ?_) (fun h_244 => ?_)
                              · skip
                                have t0 := bf_z hB5 gr (by omega)
                                have hlt := bf_lt hB5 gr t0
                                refine j_al0 hX dX12_shortest_250 rfl ?_
                                refine j_getR (q := 69) hX hG fl_X12_54 rfl rfl (by decide) dX12_shortest_251 ?_
                                refine j_il4 hX dX12_shortest_254 ?_
                                refine j_al0 hX dX12_shortest_256 rfl ?_
                                refine j_getR (q := 69) hX hG fl_X12_54 rfl rfl (by decide) dX12_shortest_257 ?_
                                refine j_al0 hX dX12_shortest_260 rfl ?_
                                refine j_getR (q := 70) hX hG fl_X12_57 rfl rfl (by decide) dX12_shortest_261 ?_
                                refine j_il2 hX dX12_shortest_264 ?_
                                refine j_iald (n := 1296) hX hG (by decide) (by omega) dX12_shortest_265 ?_
                                refine j_iald (n := 1296) hX hG (by decide) (by omega) dX12_shortest_266 ?_
                                refine j_iconst hX dX12_shortest_267 ⟨by decide, by decide⟩ ?_
                                refine j_iadd hX dX12_shortest_268 (by omega) ?_
                                refine j_iast (n := 1296) hX hG (by decide) (by omega) dX12_shortest_269 ?_
                                refine j_al0 hX dX12_shortest_270 rfl ?_
                                refine j_getR (q := 70) hX hG fl_X12_57 rfl rfl (by decide) dX12_shortest_271 ?_
                                refine j_il1 hX dX12_shortest_274 ?_
                                refine j_il4 hX dX12_shortest_275 ?_
                                refine j_iast (n := 1296) hX hG (by decide) (by have := bf_M hB5; omega) dX12_shortest_277 ?_
                                have hF9 : ∀ q, (up (up Z2 69 t (Z2 69 (Z2 70 i) + 1)) 70 M4 t) 69 q = if q = t then Z2 69 (Z2 70 i) + 1 else Z2 69 q := up_f9 _ _ _ _
                                have hQ9 : ∀ q, (up (up Z2 69 t (Z2 69 (Z2 70 i) + 1)) 70 M4 t) 70 q = if q = M4 then t else Z2 70 q := up_q9 _ _ _ _
                                have hPW : PWp V (Z2 69 (Z2 70 i) + 1 - 1 : Int).toNat t := by
                                  have := pwS_go hmo bQ.1 q1 q2 bQ.2.2 (fun c => h_208 (ht.trans c))
                                  rw [← ht] at this
                                  rw [show (Z2 69 (Z2 70 i) + 1 - 1 : Int).toNat = (Z2 69 (Z2 70 i) - 1).toNat + 1 by omega]
                                  exact this
                                have hBa := bf_add hB5 gr t0 (show 1 ≤ Z2 69 (Z2 70 i) + 1 ∧ Z2 69 (Z2 70 i) + 1 ≤ M4 + 1 by omega) hPW (fun b b0 b1 => bf_E hB5 hi5 b0 b1) (fun _ => Int.le_refl _) hF9 hQ9
                                have hQi : (up (up Z2 69 t (Z2 69 (Z2 70 i) + 1)) 70 M4 t) 70 i = Z2 70 i := by rw [hQ9, if_neg (by omega)]
                                have hBk := bf_k hmo hBa (by omega) hk.1 hkl (fun _ => by rw [hQi, ← ht]; exact ⟨hna, by rw [hF9, if_pos rfl]; omega⟩)
                                have hHk := h0_w hH5 hF9 t0
                                refine j_inc1 hX dX12_shortest_278 rfl (by omega) ?_
                                refine j_inc3 hX dX12_shortest_281 rfl (by omega) ?_
                                refine j_goto (tgt := 168) hX dX12_shortest_284 (by decide) ?_
                                refine j_fg4 ?_
                                exact ih_168 _ _ _ (by omega) (by first | exact hs5 | exact fr_u (fr_u hs5 (by decide)) (by decide)) (by first | exact bf_k hmo hB5 hi5 hk.1 hkl (fun c => absurd (ht.symm.trans h_208) c) | exact hBk) (by first | exact hH5 | exact hHk) (by omega) (by omega)
                              · skip
                                have hBk := bf_k hmo hB5 hi5 hk.1 hkl (fun _ => by rw [← ht]; exact ⟨hna, by omega⟩)
                                refine j_goto (tgt := 281) hX dX12_shortest_247 (by decide) ?_
                                refine j_inc3 hX dX12_shortest_281 rfl (by omega) ?_
                                refine j_goto (tgt := 168) hX dX12_shortest_284 (by decide) ?_
                                refine j_fg4 ?_
                                exact ih_168 _ _ _ (by omega) (by first | exact hs5 | exact fr_u (fr_u hs5 (by decide)) (by decide)) (by first | exact bf_k hmo hB5 hi5 hk.1 hkl (fun c => absurd (ht.symm.trans h_208) c) | exact hBk) (by first | exact hH5 | exact hHk) (by omega) (by omega)
                            · skip
                              refine j_al0 hX dX12_shortest_223 rfl ?_
                              refine j_getR (q := 69) hX hG fl_X12_54 rfl rfl (by decide) dX12_shortest_224 ?_
                              refine j_al0 hX dX12_shortest_227 rfl ?_
                              refine j_getR (q := 70) hX hG fl_X12_57 rfl rfl (by decide) dX12_shortest_228 ?_
                              refine j_il2 hX dX12_shortest_231 ?_
                              refine j_iald (n := 1296) hX hG (by decide) (by omega) dX12_shortest_232 ?_
                              refine j_iald (n := 1296) hX hG (by decide) (by omega) dX12_shortest_233 ?_
                              refine j_iconst hX dX12_shortest_234 ⟨by decide, by decide⟩ ?_
                              refine j_iadd hX dX12_shortest_235 (by omega) ?_
                              exact j_retI hR dX12_shortest_236 ⟨Or.inr ⟨by omega, sh_some hmo hB5 hH5 hi.1 hi5 q1 q2 (fun c => h_208 (ht.trans c)) (by rw [← ht, ← z4]; exact h_220)⟩, hs5⟩
                          · skip
                            refine j_goto (tgt := 281) hX dX12_shortest_211 (by decide) ?_
                            refine j_inc3 hX dX12_shortest_281 rfl (by omega) ?_
                            refine j_goto (tgt := 168) hX dX12_shortest_284 (by decide) ?_
                            refine j_fg4 ?_
                            exact ih_168 _ _ _ (by omega) (by first | exact hs5 | exact fr_u (fr_u hs5 (by decide)) (by decide)) (by first | exact bf_k hmo hB5 hi5 hk.1 hkl (fun c => absurd (ht.symm.trans h_208) c) | exact hBk) (by first | exact hH5 | exact hHk) (by omega) (by omega)
                    exact lp_168 _ _ 0 _ ⟨by decide, by omega⟩ hs4 hB4 hH4 (by omega) (Nat.lt_succ_self _)
              exact lp_161 _ _ 0 _ ⟨by decide, bf_M hB2⟩ hs2 hB2 (by have e : p = V 55 4 * V 55 4 := (by omega); rw [← e]; exact hH2) (Nat.lt_succ_self _)
            · skip
              have hpl : p < V 55 4 * V 55 4 := by omega
              have w4 : Y2 55 4 = V 55 4 := hs2 55 4 (by decide)
              have w1 : Y2 55 1 = V 55 1 := hs2 55 1 (by decide)
              have moY : MO Y2 := by unfold MO; rw [w1, w4, hs2 55 2 (by decide), hs2 55 3 (by decide)]; exact hmo
              refine j_al0 hX dX12_shortest_45 rfl ?_
              refine j_il2 hX dX12_shortest_46 ?_
              refine j_pVI1 (ci := 12) hX hG lk_X12_331 (ok_X12_isAlike moY (by rw [w4]; omega)) (by decide) rfl (Nat.le_of_ble_eq_true rfl) (Nat.le_of_ble_eq_true rfl) (Nat.le_of_ble_eq_true rfl) rfl dX12_shortest_47 ?_
              refine j_ifz_ne (tgt := 56) hX dX12_shortest_50 (by decide) (fun h_50 => ?_) (fun h_50 => ?_)
              · skip
                have hal : p / V 55 4 = p % V 55 4 := by rw [← w4]; exact h_50
                refine j_iconst hX dX12_shortest_56 ⟨by decide, by decide⟩ ?_
                refine j_is3 hX dX12_shortest_57 rfl ?_
                have lp_58 : ∀ (f9 : Nat) (M2 k : Int) (Y3 : VV), (0 ≤ k ∧ k ≤ V 55 1 * V 55 1) → (fr [69, 70] V Y3) → (BF V (Y3 69) (Y3 70) M2 0 0) → (∀ a, 0 ≤ a → a < M2 → Y3 69 (Y3 70 a) = 1) → (H0p V (Y3 69) p k) → ((V 55 1 * V 55 1 - k).toNat) < f9 → J X G 58 [vA 55, vI M2, vI p, vI k, vU] [] Y3 := by
                  intro f9
                  induction f9 with
                  | zero => intro M2 k Y3 _ _ _ _ _ hm; exact absurd hm (Nat.not_lt_zero _)
                  | succ f9 ih_58 =>
                    intro M2 k Y3 hk hs3 hB3 hF3 hH3 hm
                    refine j_il3 hX dX12_shortest_58 ?_
                    have z58 : Y3 58 = V 58 := funext fun b => hs3 58 b (by decide)
                    have z1 : Y3 55 1 = V 55 1 := hs3 55 1 (by decide)
                    have z4 : Y3 55 4 = V 55 4 := hs3 55 4 (by decide)
                    have moZ : MO Y3 := by unfold MO; rw [z1, z4, hs3 55 2 (by decide), hs3 55 3 (by decide)]; exact hmo
                    refine j_al0 hX dX12_shortest_59 rfl ?_
                    refine j_getI hX hG fl_X12_136 (Or.inl rfl) (by decide) dX12_shortest_60 ?_
                    refine j_al0 hX dX12_shortest_63 rfl ?_
                    refine j_getI hX hG fl_X12_136 (Or.inl rfl) (by decide) dX12_shortest_64 ?_
                    refine j_eqS (st' := [vI (V 55 1), vI (V 55 1), vI k]) (by rw [z1]) ?_
                    refine j_imul hX dX12_shortest_67 (by omega) ?_
                    refine j_icmp_ge (tgt := 153) hX dX12_shortest_68 (by decide) (fun h_68 => ?_) (fun h_68 => ?_)
                    · skip
                      refine j_inc2 hX dX12_shortest_153 rfl (by omega) ?_
                      refine j_goto (tgt := 32) hX dX12_shortest_156 (by decide) ?_
                      refine j_fg3 ?_
                      exact ih_32 _ _ _ (by omega) (by first | exact hs3 | exact hs2) (by first | exact hB3 | exact hB2) (by first | exact hF3 | exact hF2) (by first | exact h0_R hH3 (by omega) | exact h0_N hH2 (fun q => h_50 (by rw [hs2 55 4 (by decide)]; exact q))) (by omega)
                    · skip
                      have q1 : 0 ≤ k / V 55 1 ∧ k / V 55 1 < V 55 1 := ⟨Int.ediv_nonneg hk.1 (by omega), Int.ediv_lt_of_lt_mul (by omega) (by omega)⟩
                      have q2 := md_b k (n := V 55 1) (by omega)
                      have hkl : k < V 55 1 * V 55 1 := by omega
                      have jn_107 : ∀ (t : Int), (t = if k / V 55 1 = k % V 55 1 then -1 else goF (V 58) (V 55 1) (V 55 4) p (k / V 55 1) (k % V 55 1)) → J X G 107 [vA 55, vI M2, vI p, vI k, vU] [vI t] Y3 := by
                        intro t ht
                        refine j_is4 hX dX12_shortest_107 rfl ?_
                        refine j_il4 hX dX12_shortest_109 ?_
                        refine j_iconst hX dX12_shortest_111 ⟨by decide, by decide⟩ ?_
                        refine j_icmp_eq (tgt := 147) hX dX12_shortest_112 (by decide) (fun h_112 => ?_) (fun h_112 => ?_)
                        · skip
                          refine j_inc3 hX dX12_shortest_147 rfl (by omega) ?_
                          refine j_goto (tgt := 58) hX dX12_shortest_150 (by decide) ?_
                          refine j_fg4 ?_
                          exact ih_58 _ _ _ (by omega) (by first | exact hs3 | exact fr_u (fr_u hs3 (by decide)) (by decide)) (by first | exact hB3 | exact hBn) (by first | exact hF3 | exact hFn) (by first | exact h0_k hH3 (fun c c2 => absurd ((ht.trans (if_neg c)).symm.trans h_112) c2) | exact hHn) (by omega)
                        · skip
                          have hkn : ¬ k / V 55 1 = k % V 55 1 := fun c => h_112 (ht.trans (if_pos c))
                          have ht2 := ht.trans (if_neg hkn)
                          have gr := gof_r hmo ⟨hp2.1, hpl⟩ q1 q2 (fun c => h_112 (ht2.trans c))
                          rw [← ht2] at gr
                          refine j_al0 hX dX12_shortest_115 rfl ?_
                          refine j_getR (q := 69) hX hG fl_X12_54 rfl rfl (by decide) dX12_shortest_116 ?_
                          refine j_il4 hX dX12_shortest_119 ?_
                          refine j_iald (n := 1296) hX hG (by decide) (by omega) dX12_shortest_121 ?_
                          refine j_if_le (tgt := 128) hX dX12_shortest_122 (by decide) (fun h_122 => ?_) (fun h_122 => ?_)
                          · skip
                            have hlt := bf_lt hB3 gr (bf_z hB3 gr (by omega))
                            refine j_al0 hX dX12_shortest_128 rfl ?_
                            refine j_getR (q := 69) hX hG fl_X12_54 rfl rfl (by decide) dX12_shortest_129 ?_
                            refine j_il4 hX dX12_shortest_132 ?_
                            refine j_iconst hX dX12_shortest_134 ⟨by decide, by decide⟩ ?_
                            refine j_iast (n := 1296) hX hG (by decide) (by omega) dX12_shortest_135 ?_
                            refine j_al0 hX dX12_shortest_136 rfl ?_
                            refine j_getR (q := 70) hX hG fl_X12_57 rfl rfl (by decide) dX12_shortest_137 ?_
                            refine j_il1 hX dX12_shortest_140 ?_
                            refine j_il4 hX dX12_shortest_141 ?_
                            refine j_iast (n := 1296) hX hG (by decide) (by have := bf_M hB3; omega) dX12_shortest_143 ?_
                            have hF9 : ∀ q, (up (up Y3 69 t 1) 70 M2 t) 69 q = if q = t then 1 else Y3 69 q := up_f9 _ _ _ _
                            have hQ9 : ∀ q, (up (up Y3 69 t 1) 70 M2 t) 70 q = if q = M2 then t else Y3 70 q := up_q9 _ _ _ _
                            have hPW : PWp V (1 - 1 : Int).toNat t := by rw [ht2]; exact pw0_go hmo ⟨hp2.1, hpl⟩ hal q1 q2 hkn (fun c => h_112 (ht2.trans c))
                            have hBn := bf_add hB3 gr (bf_z hB3 gr (by omega)) ⟨by decide, by have := bf_M hB3; omega⟩ hPW (fun b b0 b1 => by rw [hF3 b b0 b1]; decide) (fun c => by rw [hF3 0 (by decide) c]; decide) hF9 hQ9
                            have hFn := bf_f1 hB3 hF3 hF9 hQ9
                            have hHn := h0_k (V := V) (h0_u hH3 hF9) (fun _ _ => by rw [← ht2, hF9, if_pos rfl])
                            refine j_inc1 hX dX12_shortest_144 rfl (by have := bf_M hB3; omega) ?_
                            refine j_inc3 hX dX12_shortest_147 rfl (by omega) ?_
                            refine j_goto (tgt := 58) hX dX12_shortest_150 (by decide) ?_
                            refine j_fg4 ?_
                            exact ih_58 _ _ _ (by omega) (by first | exact hs3 | exact fr_u (fr_u hs3 (by decide)) (by decide)) (by first | exact hB3 | exact hBn) (by first | exact hF3 | exact hFn) (by first | exact h0_k hH3 (fun c c2 => absurd ((ht.trans (if_neg c)).symm.trans h_112) c2) | exact hHn) (by omega)
                          · skip
                            have hHn := h0_k (V := V) hH3 (fun _ _ => by rw [← ht2]; exact bf_1 hB3 hF3 gr (by omega))
                            refine j_goto (tgt := 147) hX dX12_shortest_125 (by decide) ?_
                            refine j_inc3 hX dX12_shortest_147 rfl (by omega) ?_
                            refine j_goto (tgt := 58) hX dX12_shortest_150 (by decide) ?_
                            refine j_fg4 ?_
                            exact ih_58 _ _ _ (by omega) (by first | exact hs3 | exact fr_u (fr_u hs3 (by decide)) (by decide)) (by first | exact hB3 | exact hBn) (by first | exact hF3 | exact hFn) (by first | exact h0_k hH3 (fun c c2 => absurd ((ht.trans (if_neg c)).symm.trans h_112) c2) | exact hHn) (by omega)
                      refine j_il3 hX dX12_shortest_71 ?_
                      refine j_al0 hX dX12_shortest_72 rfl ?_
                      refine j_getI hX hG fl_X12_136 (Or.inl rfl) (by decide) dX12_shortest_73 ?_
                      refine j_eqS (st' := [vI (V 55 1), vI k]) (by rw [z1]) ?_
                      refine j_idiv hX dX12_shortest_76 (by omega) hk.1 ?_
                      refine j_il3 hX dX12_shortest_77 ?_
                      refine j_al0 hX dX12_shortest_78 rfl ?_
                      refine j_getI hX hG fl_X12_136 (Or.inl rfl) (by decide) dX12_shortest_79 ?_
                      refine j_eqS (st' := [vI (V 55 1), vI k, vI (k / V 55 1)]) (by rw [z1]) ?_
                      refine j_irem hX dX12_shortest_82 (by omega) hk.1 ?_
                      refine j_icmp_ne (tgt := 90) hX dX12_shortest_83 (by decide) (fun h_83 => ?_) (fun h_83 => ?_)
                      · skip
                        refine j_al0 hX dX12_shortest_90 rfl ?_
                        refine j_il2 hX dX12_shortest_91 ?_
                        refine j_il3 hX dX12_shortest_92 ?_
                        refine j_al0 hX dX12_shortest_93 rfl ?_
                        refine j_getI hX hG fl_X12_136 (Or.inl rfl) (by decide) dX12_shortest_94 ?_
                        refine j_eqS (st' := [vI (V 55 1), vI k, vI p, vA 55]) (by rw [z1]) ?_
                        refine j_idiv hX dX12_shortest_97 (by omega) hk.1 ?_
                        refine j_il3 hX dX12_shortest_98 ?_
                        refine j_al0 hX dX12_shortest_99 rfl ?_
                        refine j_getI hX hG fl_X12_136 (Or.inl rfl) (by decide) dX12_shortest_100 ?_
                        refine j_eqS (st' := [vI (V 55 1), vI k, vI (k / V 55 1), vI p, vA 55]) (by rw [z1]) ?_
                        refine j_irem hX dX12_shortest_103 (by omega) hk.1 ?_
                        refine j_pVI3 (ci := 12) hX hG lk_X12_334 (ok_X12_goes moZ (by rw [z4]; omega) (by rw [z1]; exact q1) (by rw [z1]; exact q2)) (by decide) rfl (Nat.le_of_ble_eq_true rfl) (Nat.le_of_ble_eq_true rfl) (Nat.le_of_ble_eq_true rfl) rfl dX12_shortest_104 ?_
                        exact jn_107 _ (by first | exact (if_pos h_83).symm | (rw [z58, z1, z4]; exact (if_neg h_83).symm))
                      · skip
                        refine j_iconst hX dX12_shortest_86 ⟨by decide, by decide⟩ ?_
                        refine j_goto (tgt := 107) hX dX12_shortest_87 (by decide) ?_
                        exact jn_107 _ (by first | exact (if_pos h_83).symm | (rw [z58, z1, z4]; exact (if_neg h_83).symm))
                exact lp_58 _ _ 0 _ ⟨by decide, by omega⟩ hs2 hB2 hF2 hH2 (Nat.lt_succ_self _)
              · skip
                refine j_goto (tgt := 153) hX dX12_shortest_53 (by decide) ?_
                refine j_inc2 hX dX12_shortest_153 rfl (by omega) ?_
                refine j_goto (tgt := 32) hX dX12_shortest_156 (by decide) ?_
                exact ih_32 _ _ _ (by omega) (by first | exact hs3 | exact hs2) (by first | exact hB3 | exact hB2) (by first | exact hF3 | exact hF2) (by first | exact h0_R hH3 (by omega) | exact h0_N hH2 (fun q => h_50 (by rw [hs2 55 4 (by decide)]; exact q))) (by omega)
        exact lp_32 _ 0 0 _ ⟨by decide, by omega⟩ hsy (bf_0 (fun t t0 t1 => hF0 t t0 (by omega))) (fun j j0 j1 => by omega) (h0_0 hmo) (Nat.lt_succ_self _)
      · skip
        refine j_al0 hX dX12_shortest_15 rfl ?_
        refine j_getR (q := 69) hX hG fl_X12_54 rfl rfl (by decide) dX12_shortest_16 ?_
        refine j_il1 hX dX12_shortest_19 ?_
        refine j_iconst hX dX12_shortest_20 ⟨by decide, by decide⟩ ?_
        refine j_iast (n := 1296) hX hG (by decide) (by omega) dX12_shortest_21 ?_
        refine j_inc1 hX dX12_shortest_22 rfl (by omega) ?_
        refine j_goto (tgt := 2) hX dX12_shortest_25 (by decide) ?_
        exact ih_2 _ _ (by omega) (fr_u hsy (by decide)) (lt_stepI (fun j j0 j1 => by rw [up_n _ (by omega)]; exact hF0 j j0 j1) (up_s ..)) (by omega)
  exact lp_2 _ _ _ (by omega) fr_0 (fun j j0 j1 => by omega) (Nat.lt_succ_self _)
