set_option maxHeartbeats 4000000 in
theorem LKQ.rule {t : Int} {q : Nat} {V W : VV} (h : LKQ t q V) (e : ∀ a ∈ relC, a ∉ ([15, 16, 33, 34, 35, 36, 37, 58, 67] : List Int) → ∀ b, W a b = V a b) (e5 : ∀ b : Int, b ≠ 0 → b ∉ ([21, 38, 45] : List Int) → W 55 b = V 55 b) (w15 : ∀ b, b ≠ 7 → W 15 b = V 15 b) (w7 : V 15 7 < W 15 7 ∧ W 15 7 ≤ 4 + t) (hT : ∀ e, 0 ≤ e → e < V 15 5 → 0 ≤ W 16 e ∧ W 16 e < V 15 3) (h5 : 0 ≤ W 33 5 ∧ W 33 5 ≤ 9) (h4 : 0 ≤ W 33 4 ∧ W 33 4 ≤ 10)
    (m58 : ∀ e, 0 ≤ e → e < V 15 5 → W 58 e = W 16 e) (m21 : 0 ≤ W 55 21 ∧ W 55 21 ≤ 10) (m38 : W 55 38 = 0) (m45 : W 55 45 = 0) (hH : HIS W) : LKQ (t + 1) q W := by
  have y3 := w15 3 (by decide)
  have y4 := w15 4 (by decide)
  have y5 := w15 5 (by decide)
  have y6 := w15 6 (by decide)
  have f1 : W 1 = V 1 := funext (e 1 (by decide) (by decide))
  have f2 : W 2 = V 2 := funext (e 2 (by decide) (by decide))
  have f3 : W 3 = V 3 := funext (e 3 (by decide) (by decide))
  have f6 : W 6 = V 6 := funext (e 6 (by decide) (by decide))
  have f13 : W 13 = V 13 := funext (e 13 (by decide) (by decide))
  have f14 : W 14 = V 14 := funext (e 14 (by decide) (by decide))
  have f19 : W 19 = V 19 := funext (e 19 (by decide) (by decide))
  have f23 : W 23 = V 23 := funext (e 23 (by decide) (by decide))
  have f24 : W 24 = V 24 := funext (e 24 (by decide) (by decide))
  have f25 : W 25 = V 25 := funext (e 25 (by decide) (by decide))
  have f26 : W 26 = V 26 := funext (e 26 (by decide) (by decide))
  have f27 : W 27 = V 27 := funext (e 27 (by decide) (by decide))
  have f28 : W 28 = V 28 := funext (e 28 (by decide) (by decide))
  have f38 : W 38 = V 38 := funext (e 38 (by decide) (by decide))
  have f42 : W 42 = V 42 := funext (e 42 (by decide) (by decide))
  have f43 : W 43 = V 43 := funext (e 43 (by decide) (by decide))
  have f44 : W 44 = V 44 := funext (e 44 (by decide) (by decide))
  have f47 : W 47 = V 47 := funext (e 47 (by decide) (by decide))
  have f48 : W 48 = V 48 := funext (e 48 (by decide) (by decide))
  have f56 : W 56 = V 56 := funext (e 56 (by decide) (by decide))
  have f57 : W 57 = V 57 := funext (e 57 (by decide) (by decide))
  have f59 : W 59 = V 59 := funext (e 59 (by decide) (by decide))
  have f65 : W 65 = V 65 := funext (e 65 (by decide) (by decide))
  have f66 : W 66 = V 66 := funext (e 66 (by decide) (by decide))
  have f68 : W 68 = V 68 := funext (e 68 (by decide) (by decide))
  have f74 : W 74 = V 74 := funext (e 74 (by decide) (by decide))
  have f77 : W 77 = V 77 := funext (e 77 (by decide) (by decide))
  have g1 := e5 1 (by decide) (by decide)
  have g2 := e5 2 (by decide) (by decide)
  have g3 := e5 3 (by decide) (by decide)
  have g4 := e5 4 (by decide) (by decide)
  have g5 := e5 5 (by decide) (by decide)
  have g10 := e5 10 (by decide) (by decide)
  have g23 := e5 23 (by decide) (by decide)
  have g28 := e5 28 (by decide) (by decide)
  have g29 := e5 29 (by decide) (by decide)
  have g30 := e5 30 (by decide) (by decide)
  have g39 := e5 39 (by decide) (by decide)
  have g40 := e5 40 (by decide) (by decide)
  have g46 := e5 46 (by decide) (by decide)
  clear e e5
  obtain ⟨⟨c1, c2, c3, c4, c5, c6, c7, c8, c9, c10, c11, c12, c13, c14, c15, c16, c17⟩, hM, hN⟩ := h
  refine ⟨⟨?_, ?_, ?_, by rw [y3]; exact c4, by rw [f23]; exact c5, by rw [f23, f24, y3]; exact c6, h5, h4, ?_, ⟨by omega, by omega⟩, by rw [f6]; exact ⟨c11.1, by omega⟩, by rw [f19]; exact ⟨c12.1, by omega⟩, by rw [f38, f42, f44]; omega, fun z => ?_, fun z => ?_, fun z => ?_, ?_⟩, ?_, ?_⟩
  · unfold GP at c1 ⊢
    simp only [Int.reduceAdd, f13, f14] at c1 ⊢
    exact c1
  · unfold RO at c2 ⊢
    rw [y3, y4, y5, y6]
    exact c2
  · intro e e0 e1
    rw [y5] at e1
    rw [y3]
    exact hT e e0 e1
  · unfold TB at c9 ⊢
    rw [f2, f3]
    exact c9
  · rw [f38] at z; omega
  · rw [f42] at z; omega
  · rw [f44] at z; omega
  · unfold SLC at c17 ⊢
    rw [f25, f26, f27, f28, y3]
    exact c17
  · obtain ⟨p1, p2, p3, p4, p5, p6, p7, p8, p9, p10, p11⟩ := hM
    obtain ⟨n1, n2, n3, n4, n5, n6⟩ := hN
    refine ⟨?_, ?_, ?_, by rw [g5]; exact p4, by rw [g5, f59, g1]; exact p5, m21, by rw [g23, f68]; exact p7, by rw [g28]; exact p8, by rw [g10]; exact p9, fun z => absurd m38 z, fun z => absurd m45 z⟩
    · unfold MG at p1 ⊢
      rw [g1, f56, f57]
      exact p1
    · unfold MO at p2 ⊢
      rw [g1, g2, g3, g4]
      exact p2
    · intro e e0 e1
      rw [g3, ← n3] at e1
      rw [m58 e e0 e1, g1, ← n1]
      exact hT e e0 e1
  · obtain ⟨n1, n2, n3, n4, n5, n6, n7, n8, n9, n10, n11, n12, n13, n14, n15, n16⟩ := hN
    refine ⟨by rw [y3, g1]; exact n1, by rw [y4, g2]; exact n2, by rw [y5, g3]; exact n3, by rw [y6, g4]; exact n4, by rw [y5]; exact m58, by rw [f23, g5]; exact n6, by rw [f23, f24, f59]; exact n7, by rw [f2, g23]; exact n8, by rw [f3, f68]; exact n9, by rw [f1, g29]; exact n10, by rw [f1, g30]; exact n11, by rw [f25, f66]; exact n12, by rw [f27, f66]; exact n13, by rw [f25, f26, f65]; exact n14, by rw [f27, f28, f65]; exact n15, hH⟩
