/-! THE LINK: what holds of the class's cells and the model's cells before each call -/
def PKC (V : VV) : Prop := V 38 3 = V 15 7 → DI (V 16) (V 15 3) (V 15 6) (V 15 5) (V 38 4) ∧ ((V 38 5 = 1 ∧ V 38 4 = 0 ∧ APT (V 16) (V 15 3) (V 15 6) (V 15 5)) ∨ (V 38 5 = 0 ∧ ¬ (V 38 4 = 0 ∧ APT (V 16) (V 15 3) (V 15 6) (V 15 5))))
def IKC (V : VV) : Prop := V 42 1 = V 15 7 → IVP V (V 16) (V 15 3) (V 15 5) (V 15 4)
def BKC (V : VV) : Prop := V 44 4 = V 15 7 → BASP V (V 16) (V 15 3) (V 15 6) (V 15 5)
def SLC (V : VV) : Prop := (V 25 1 = 0 ∨ ((1 ≤ V 25 1 ∧ V 25 1 ≤ 16) ∧ ∀ k, 0 ≤ k → k < V 25 1 → 0 ≤ V 26 k ∧ V 26 k < V 15 3)) ∧ (V 27 1 = 0 ∨ ((1 ≤ V 27 1 ∧ V 27 1 ≤ 16) ∧ ∀ k, 0 ≤ k → k < V 27 1 → 0 ≤ V 28 k ∧ V 28 k < V 15 3))
def LKC (t : Int) (q : Nat) (V : VV) : Prop := GP V 13 q ∧ RO V 15 ∧ TR V 15 ∧ V 15 3 = gO q ∧ (1 ≤ V 23 1 ∧ V 23 1 ≤ 16) ∧ (∀ k, 0 ≤ k → k < V 23 1 → 0 ≤ V 24 k ∧ V 24 k < V 15 3) ∧ (0 ≤ V 33 5 ∧ V 33 5 ≤ 9) ∧ (0 ≤ V 33 4 ∧ V 33 4 ≤ 10) ∧ TB V ∧
  (0 ≤ V 15 7 ∧ V 15 7 ≤ 3 + t) ∧ (0 ≤ V 6 7 ∧ V 6 7 ≤ 22 * t) ∧ (0 ≤ V 19 7 ∧ V 19 7 ≤ t) ∧ (V 38 3 ≤ V 15 7 ∧ V 42 1 ≤ V 15 7 ∧ V 44 4 ≤ V 15 7) ∧ PKC V ∧ IKC V ∧ BKC V ∧ SLC V
def IKM (V : VV) : Prop := V 55 38 ≠ 0 → MIV V (V 58) (V 55 1) (V 55 3) (V 55 2)
def BKM (V : VV) : Prop := V 55 45 ≠ 0 → MBP V (V 58) (V 55 1) (V 55 4) (V 55 3)
def LKM (q : Nat) (V : VV) : Prop := MG V q ∧ MO V ∧ TRM V ∧ (1 ≤ V 55 5 ∧ V 55 5 ≤ 16) ∧ (∀ k, 0 ≤ k → k < V 55 5 → 0 ≤ V 59 k ∧ V 59 k < V 55 1) ∧ (0 ≤ V 55 21 ∧ V 55 21 ≤ 10) ∧ (0 ≤ V 55 23 ∧ V 55 23 ≤ 500 ∧ ∀ p, 0 ≤ p → p < 500 → 0 ≤ V 68 p ∧ V 68 p ≤ 255) ∧ (0 ≤ V 55 28 ∧ V 55 28 ≤ 99) ∧ (2 ≤ V 55 10 ∧ V 55 10 ≤ 6) ∧ IKM V ∧ BKM V
def hix (V : VV) (j : Int) : Int := (V 33 5 - j) % 10
def hrw (V : VV) (j : Int) : Int := 234 * (V 55 21 - 1 - j)
def HIS (V : VV) : Prop := V 33 4 = V 55 21 ∧ ∀ j, 0 ≤ j → j < V 55 21 → (1 ≤ V 35 (hix V j) ∧ V 35 (hix V j) ≤ 16) ∧ V 67 (hrw V j + 233) = V 35 (hix V j) ∧
  (∀ k, 0 ≤ k → k < V 35 (hix V j) → V 67 (hrw V j + 216 + k) = V 34 (hix V j * 16 + k) ∧ 0 ≤ V 34 (hix V j * 16 + k) ∧ V 34 (hix V j * 16 + k) < V 15 3) ∧ (V 36 (hix V j) = -1 ∨ (0 ≤ V 36 (hix V j) ∧ V 36 (hix V j) < V 15 5)) ∧
  ∀ e, 0 ≤ e → e < V 15 5 → (0 ≤ V 67 (hrw V j + e) ∧ V 67 (hrw V j + e) < V 15 3) ∧ V 67 (hrw V j + e) = (if e = V 36 (hix V j) then V 37 (hix V j) else if j = 0 then V 16 e else V 67 (hrw V (j - 1) + e))
def LNK (V : VV) : Prop := V 15 3 = V 55 1 ∧ V 15 4 = V 55 2 ∧ V 15 5 = V 55 3 ∧ V 15 6 = V 55 4 ∧ (∀ e, 0 ≤ e → e < V 15 5 → V 58 e = V 16 e) ∧ V 23 1 = V 55 5 ∧ (∀ k, 0 ≤ k → k < V 23 1 → V 59 k = V 24 k) ∧ V 2 1 = V 55 23 ∧ (∀ p, V 68 p = V 3 p) ∧ V 1 5 = V 55 29 ∧ V 1 6 = V 55 30 ∧
  V 25 1 = V 66 0 ∧ V 27 1 = V 66 1 ∧ (∀ k, 0 ≤ k → k < V 25 1 → V 65 k = V 26 k) ∧ (∀ k, 0 ≤ k → k < V 27 1 → V 65 (16 + k) = V 28 k) ∧ HIS V
def LKQ (t : Int) (q : Nat) (V : VV) : Prop := LKC t q V ∧ LKM q V ∧ LNK V
def LKS (t : Int) (V : VV) : Prop := ∃ q, LKQ t q V
theorem LKS.mono {t : Int} {V : VV} (h : LKS t V) : LKS (t + 1) V := by
  obtain ⟨q, ⟨c1, c2, c3, c4, c5, c6, c7, c8, c9, c10, c11, c12, c13⟩, hM, hN⟩ := h
  exact ⟨q, ⟨c1, c2, c3, c4, c5, c6, c7, c8, c9, ⟨c10.1, by omega⟩, ⟨c11.1, by omega⟩, ⟨c12.1, by omega⟩, c13⟩, hM, hN⟩
/-- the cells that the link reads -/
def relC : List Int := [1, 2, 3, 6, 13, 14, 15, 16, 19, 23, 24, 25, 26, 27, 28, 33, 34, 35, 36, 37, 38, 42, 43, 44, 47, 48, 56, 57, 58, 59, 65, 66, 67, 68, 74, 77]
theorem LKQ.irr {t : Int} {q : Nat} {V W : VV} (h : LKQ t q V) (e : ∀ a ∈ relC, ∀ b, W a b = V a b) (e5 : ∀ b, b ≠ 0 → W 55 b = V 55 b) : LKQ t q W := by
  have f : ∀ a ∈ relC, W a = V a := fun a ha => funext (e a ha)
  have f1 := f 1 (by decide); have f2 := f 2 (by decide); have f3 := f 3 (by decide); have f6 := f 6 (by decide); have f13 := f 13 (by decide); have f14 := f 14 (by decide); have f15 := f 15 (by decide); have f16 := f 16 (by decide); have f19 := f 19 (by decide); have f23 := f 23 (by decide); have f24 := f 24 (by decide); have f25 := f 25 (by decide); have f26 := f 26 (by decide); have f27 := f 27 (by decide); have f28 := f 28 (by decide)
  have f33 := f 33 (by decide); have f34 := f 34 (by decide); have f35 := f 35 (by decide); have f36 := f 36 (by decide); have f37 := f 37 (by decide); have f38 := f 38 (by decide); have f42 := f 42 (by decide); have f43 := f 43 (by decide); have f44 := f 44 (by decide); have f47 := f 47 (by decide); have f48 := f 48 (by decide); have f56 := f 56 (by decide); have f57 := f 57 (by decide); have f58 := f 58 (by decide); have f59 := f 59 (by decide); have f65 := f 65 (by decide); have f66 := f 66 (by decide); have f67 := f 67 (by decide); have f68 := f 68 (by decide); have f74 := f 74 (by decide); have f77 := f 77 (by decide)
  have g1 := e5 1 (by decide); have g2 := e5 2 (by decide); have g3 := e5 3 (by decide); have g4 := e5 4 (by decide); have g5 := e5 5 (by decide); have g10 := e5 10 (by decide); have g21 := e5 21 (by decide); have g23 := e5 23 (by decide); have g28 := e5 28 (by decide); have g29 := e5 29 (by decide); have g30 := e5 30 (by decide); have g38 := e5 38 (by decide); have g39 := e5 39 (by decide); have g40 := e5 40 (by decide); have g45 := e5 45 (by decide); have g46 := e5 46 (by decide)
  clear e e5 f
  obtain ⟨hC, hM, hN⟩ := h
  refine ⟨?_, ?_, ?_⟩
  · unfold LKC PKC IKC BKC SLC GP RO TR TB IVP BASP OG at hC ⊢
    simp only [Int.reduceAdd, f2, f3, f6, f13, f14, f15, f16, f19, f23, f24, f25, f26, f27, f28, f33, f38, f42, f43, f44, f47, f48] at hC ⊢
    exact hC
  · unfold LKM IKM BKM MG MO TRM MIV MBP at hM ⊢
    simp only [f56, f57, f58, f59, f68, f74, f77, g1, g2, g3, g4, g5, g10, g21, g23, g28, g38, g39, g40, g45, g46] at hM ⊢
    exact hM
  · unfold LNK HIS hix hrw at hN ⊢
    simp only [f1, f2, f3, f15, f16, f23, f24, f25, f26, f27, f28, f33, f34, f35, f36, f37, f58, f59, f65, f66, f67, f68, g1, g2, g3, g4, g5, g21, g23, g29, g30] at hN ⊢
    exact hN
theorem rel_no {a : Int} (ha : a ∈ relC) : a ≠ 87 ∧ a ≠ 55 := ⟨fun z => by subst z; exact absurd ha (by decide), fun z => by subst z; exact absurd ha (by decide)⟩
theorem LKQ.u87 {t x : Int} {q : Nat} {V : VV} (h : LKQ t q V) : LKQ t q (up V 87 0 x) := h.irr (fun a ha b => up_n _ (fun z => (rel_no ha).1 z.1)) (fun b hb => up_n _ (by omega))
theorem LKQ.u55 {t k : Int} {q : Nat} {V : VV} (h : LKQ t q V) : LKQ t q (up V 55 0 k) := h.irr (fun a ha b => up_n _ (fun z => (rel_no ha).2 z.1)) (fun b hb => up_n _ (fun z => hb z.2))
/-- a query of one exception: the state is as it was -/
theorem qmid {t : Int} {q : Nat} {V V1 : VV} {c E0 : Prop} {f k j : Int} (hL : LKQ t q V) (hk : (∃ x V0, (x = f ∧ c ∧ V0 = V) ∧ V1 = up V0 87 0 x ∧ k = 0) ∨ ((E0 ∧ ¬ c ∧ V1 = V) ∧ k = j)) : LKQ t q V1 := by
  rcases hk with ⟨x, V0, ⟨_, _, rfl⟩, rfl, _⟩ | ⟨⟨_, _, rfl⟩, _⟩
  · exact hL.u87
  · exact hL
theorem qry1 {t : Int} {q : Nat} {V : VV} (hL : LKQ t q V) {c : Prop} {f : Int} (c' : VV → Prop) (f' : VV → Int) (hcc : ∀ W : VV, (∀ a b, a ≠ 87 → W a b = V a b) → (c' W ↔ c) ∧ (c → f' W = f)) {E0 : Prop} {k b : Int} {V1 V2 : VV}
    (hk : (∃ x V0, (x = f ∧ c ∧ V0 = V) ∧ V1 = up V0 87 0 x ∧ k = 0) ∨ ((E0 ∧ ¬ c ∧ V1 = V) ∧ k = 1)) (hq : (c' V1 ∧ b = f' V1 ∧ V2 = up V1 55 0 0) ∨ (¬ c' V1 ∧ b = 0 ∧ V2 = up (up V1 55 0 0) 55 0 1)) : V2 55 0 = k ∧ (k = 0 → V2 87 0 = b) ∧ LKS (t + 1) V2 := by
  rcases hk with ⟨x, V0, ⟨rfl, hc, rfl⟩, rfl, rfl⟩ | ⟨⟨_, hc, rfl⟩, rfl⟩
  · have h9 := hcc (up V0 87 0 x) (fun a b h => up_n _ (fun z => h z.1))
    rcases hq with ⟨_, rfl, rfl⟩ | ⟨hn, _, _⟩
    · exact ⟨up_s .., fun _ => by rw [up_n _ (by omega), up_s, h9.2 hc], LKS.mono ⟨q, hL.u87.u55⟩⟩
    · exact absurd (h9.1.mpr hc) hn
  · have h9 := hcc V1 (fun a b h => rfl)
    rcases hq with ⟨hn, _, _⟩ | ⟨_, _, rfl⟩
    · exact absurd (h9.1.mp hn) hc
    · exact ⟨up_s .., fun h => absurd h (by decide), LKS.mono ⟨q, hL.u55.u55⟩⟩
/-- at the start -/
theorem LKS.start {V1 V : VV} (h1 : INC V1) (h2 : INM V1 V) : LKS 0 V := by
  obtain ⟨a1, a2, a3, a4, a5, a6, a7, a8, a9, a10, a11, a12, a13⟩ := h1
  obtain ⟨b1, b2, b3, b4, b5, b6, b7, b8, b9, b10, b11, b12, b13, b14, b15⟩ := h2
  have lo : ∀ a b : Int, a < 55 → V a b = V1 a b := fun a b h => b15 a b (Or.inl h)
  have z : ∀ a j : Int, a < 55 → (a ≠ 13 ∧ a ≠ 14 ∧ a ≠ 15 ∧ a ≠ 16 ∧ a ≠ 23 ∧ a ≠ 24) → ¬ (a = 1 ∧ j = 6) → ¬ (a = 38 ∧ j = 3) → ¬ (a = 42 ∧ j = 1) → ¬ (a = 44 ∧ j = 4) → V a j = 0 := fun a j h h1 h2 h3 h4 h5 => (lo a j h).trans (a13 a j h1 h2 h3 h4 h5)
  have r56 := a2.det a2 rfl rfl
  have e15 : ∀ b, V 15 b = V1 15 b := fun b => lo 15 b (by decide)
  have ro : RO V 15 := a2.sm e15
  have v3 : V 15 3 = 2 := (e15 3).trans a3
  have v4 : V 15 4 = 2 := (e15 4).trans a4
  have v6 : V 15 6 = 2 := by rcases ro.2.1 with h | h <;> omega
  have v5 : V 15 5 = 4 := by rw [ro.2.2, v6, v3]; rfl
  have m1 : V 55 1 = 2 := b1.2.1
  have m4 : V 55 4 = 2 := by rcases b2.2.1 with h | h <;> omega
  have m3 : V 55 3 = 4 := by rw [b2.2.2, m4, m1]; rfl
  have t16 : ∀ e, 0 ≤ e → e < 4 → V 16 e = if e = 2 ∨ e = 3 then 1 else 0 := fun e e0 e1 => (lo 16 e (by decide)).trans (a6 e e0 (by omega))
  have t01 : ∀ e : Int, 0 ≤ (if e = 2 ∨ e = 3 then (1 : Int) else 0) ∧ (if e = 2 ∨ e = 3 then (1 : Int) else 0) < 2 := fun e => by split <;> decide
  have n1 : V 23 1 = 1 := (lo 23 1 (by decide)).trans a7
  have c0 : V 24 0 = 0 := (lo 24 0 (by decide)).trans a8
  have z68 : ∀ p, V 68 p = 0 := fun p => (b15 68 p (Or.inr (by decide))).trans (a13 68 p (by decide) (by omega) (by omega) (by omega) (by omega))
  have z3 : ∀ p, V 3 p = 0 := fun p => z 3 p (by decide) (by decide) (by omega) (by omega) (by omega) (by omega)
  have k1 : ∀ k : Int, 0 ≤ k → k < 1 → k = 0 := fun k _ _ => by omega
  refine ⟨0, ⟨a1.sm (fun b => lo _ b (by decide)) (fun b => lo _ b (by decide)), ro, fun e e0 e1 => ?_, v3, by rw [n1]; decide, fun k k0 k1' => ?_, ?_, ?_, ?_, ?_, ?_, ?_, ?_, ?_, ?_, ?_, ?_⟩, ⟨b1, b2, fun e e0 e1 => ?_, by rw [b4]; decide, fun k k0 k1' => ?_, by rw [b9]; decide, ⟨?_, ?_, fun p _ _ => by rw [z68]; decide⟩, ?_, by rw [b13]; decide, fun h => absurd b10 h, fun h => absurd b11 h⟩, v3.trans m1.symm, v4.trans b3.symm, v5.trans m3.symm, v6.trans m4.symm, fun e e0 e1 => ?_, n1.trans b4.symm, fun k k0 k1' => ?_, ?_, fun p => (z68 p).trans (z3 p).symm, ?_, ?_, ?_, ?_, ?_, ?_, ?_, ?_⟩
  · rw [v5] at e1
    show 0 ≤ V 16 e ∧ V 16 e < V 15 3
    rw [t16 e e0 e1, v3]
    exact t01 e
  · rw [n1] at k1'
    rw [k1 k k0 k1', c0, v3]
    decide
  · rw [z 33 5 (by decide) (by decide) (by omega) (by omega) (by omega) (by omega)]; decide
  · rw [z 33 4 (by decide) (by decide) (by omega) (by omega) (by omega) (by omega)]; decide
  · unfold TB
    rw [z 2 1 (by decide) (by decide) (by omega) (by omega) (by omega) (by omega)]
    exact ⟨by decide, by decide, fun p _ _ => by rw [z3]; decide⟩
  · rw [e15 7, a5]; decide
  · rw [z 6 7 (by decide) (by decide) (by omega) (by omega) (by omega) (by omega)]; decide
  · rw [z 19 7 (by decide) (by decide) (by omega) (by omega) (by omega) (by omega)]; decide
  · rw [lo 38 3 (by decide), lo 42 1 (by decide), lo 44 4 (by decide), a10, a11, a12, e15 7, a5]; decide
  · intro h; rw [lo 38 3 (by decide), a10, e15 7, a5] at h; exact absurd h (by decide)
  · intro h; rw [lo 42 1 (by decide), a11, e15 7, a5] at h; exact absurd h (by decide)
  · intro h; rw [lo 44 4 (by decide), a12, e15 7, a5] at h; exact absurd h (by decide)
  · exact ⟨Or.inl (z 25 1 (by decide) (by decide) (by omega) (by omega) (by omega) (by omega)), Or.inl (z 27 1 (by decide) (by decide) (by omega) (by omega) (by omega) (by omega))⟩
  · rw [m3] at e1
    rw [b5 e e0 e1, m1]
    exact t01 e
  · rw [b4] at k1'
    rw [k1 k k0 k1', b6, m1]
    decide
  · rw [b14 23 (by decide)]; decide
  · rw [b14 23 (by decide)]; decide
  · rw [b14 28 (by decide)]; decide
  · rw [v5] at e1
    rw [b5 e e0 e1, t16 e e0 e1]
  · rw [n1] at k1'
    rw [k1 k k0 k1', b6, c0]
  · rw [z 2 1 (by decide) (by decide) (by omega) (by omega) (by omega) (by omega), b14 23 (by decide)]
  · rw [z 1 5 (by decide) (by decide) (by omega) (by omega) (by omega) (by omega), b14 29 (by decide)]
  · rw [lo 1 6 (by decide), a9, b12]
  · rw [z 25 1 (by decide) (by decide) (by omega) (by omega) (by omega) (by omega), b7]
  · rw [z 27 1 (by decide) (by decide) (by omega) (by omega) (by omega) (by omega), b8]
  · intro k k0 k1'
    rw [z 25 1 (by decide) (by decide) (by omega) (by omega) (by omega) (by omega)] at k1'
    omega
  · intro k k0 k1'
    rw [z 27 1 (by decide) (by decide) (by omega) (by omega) (by omega) (by omega)] at k1'
    omega
  · rw [z 33 4 (by decide) (by decide) (by omega) (by omega) (by omega) (by omega), b9]
  · intro j j0 j1
    rw [b9] at j1
    omega
