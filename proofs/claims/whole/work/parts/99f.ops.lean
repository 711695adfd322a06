set_option maxHeartbeats 4000000 in
theorem LKQ.text {t : Int} {q : Nat} {V W : VV} (h : LKQ t q V) (e : ∀ a ∈ relC, a ∉ ([2, 3, 68] : List Int) → ∀ b, W a b = V a b) (e5 : ∀ b : Int, b ≠ 0 → b ∉ ([23] : List Int) → W 55 b = V 55 b) (hTB : TB W) (hT : 0 ≤ W 55 23 ∧ W 55 23 ≤ 500 ∧ ∀ p, 0 ≤ p → p < 500 → 0 ≤ W 68 p ∧ W 68 p ≤ 255) (hl : W 2 1 = W 55 23) (hp : ∀ p, W 68 p = W 3 p) : LKQ t q W := by
  have f1 : W 1 = V 1 := funext (e 1 (by decide) (by decide))
  have f6 : W 6 = V 6 := funext (e 6 (by decide) (by decide))
  have f13 : W 13 = V 13 := funext (e 13 (by decide) (by decide))
  have f14 : W 14 = V 14 := funext (e 14 (by decide) (by decide))
  have f15 : W 15 = V 15 := funext (e 15 (by decide) (by decide))
  have f16 : W 16 = V 16 := funext (e 16 (by decide) (by decide))
  have f19 : W 19 = V 19 := funext (e 19 (by decide) (by decide))
  have f23 : W 23 = V 23 := funext (e 23 (by decide) (by decide))
  have f24 : W 24 = V 24 := funext (e 24 (by decide) (by decide))
  have f25 : W 25 = V 25 := funext (e 25 (by decide) (by decide))
  have f26 : W 26 = V 26 := funext (e 26 (by decide) (by decide))
  have f27 : W 27 = V 27 := funext (e 27 (by decide) (by decide))
  have f28 : W 28 = V 28 := funext (e 28 (by decide) (by decide))
  have f33 : W 33 = V 33 := funext (e 33 (by decide) (by decide))
  have f34 : W 34 = V 34 := funext (e 34 (by decide) (by decide))
  have f35 : W 35 = V 35 := funext (e 35 (by decide) (by decide))
  have f36 : W 36 = V 36 := funext (e 36 (by decide) (by decide))
  have f37 : W 37 = V 37 := funext (e 37 (by decide) (by decide))
  have f38 : W 38 = V 38 := funext (e 38 (by decide) (by decide))
  have f42 : W 42 = V 42 := funext (e 42 (by decide) (by decide))
  have f43 : W 43 = V 43 := funext (e 43 (by decide) (by decide))
  have f44 : W 44 = V 44 := funext (e 44 (by decide) (by decide))
  have f47 : W 47 = V 47 := funext (e 47 (by decide) (by decide))
  have f48 : W 48 = V 48 := funext (e 48 (by decide) (by decide))
  have f56 : W 56 = V 56 := funext (e 56 (by decide) (by decide))
  have f57 : W 57 = V 57 := funext (e 57 (by decide) (by decide))
  have f58 : W 58 = V 58 := funext (e 58 (by decide) (by decide))
  have f59 : W 59 = V 59 := funext (e 59 (by decide) (by decide))
  have f65 : W 65 = V 65 := funext (e 65 (by decide) (by decide))
  have f66 : W 66 = V 66 := funext (e 66 (by decide) (by decide))
  have f67 : W 67 = V 67 := funext (e 67 (by decide) (by decide))
  have f74 : W 74 = V 74 := funext (e 74 (by decide) (by decide))
  have f77 : W 77 = V 77 := funext (e 77 (by decide) (by decide))
  have g1 := e5 1 (by decide) (by decide)
  have g2 := e5 2 (by decide) (by decide)
  have g3 := e5 3 (by decide) (by decide)
  have g4 := e5 4 (by decide) (by decide)
  have g5 := e5 5 (by decide) (by decide)
  have g10 := e5 10 (by decide) (by decide)
  have g21 := e5 21 (by decide) (by decide)
  have g28 := e5 28 (by decide) (by decide)
  have g29 := e5 29 (by decide) (by decide)
  have g30 := e5 30 (by decide) (by decide)
  have g38 := e5 38 (by decide) (by decide)
  have g39 := e5 39 (by decide) (by decide)
  have g40 := e5 40 (by decide) (by decide)
  have g45 := e5 45 (by decide) (by decide)
  have g46 := e5 46 (by decide) (by decide)
  clear e e5
  obtain ⟨hC, hM, hN⟩ := h
  refine ⟨?_, ?_, ?_⟩
  · unfold LKC PKC IKC BKC SLC GP RO TR IVP BASP OG at hC ⊢
    simp only [Int.reduceAdd, f6, f13, f14, f15, f16, f19, f23, f24, f25, f26, f27, f28, f33, f38, f42, f43, f44, f47, f48] at hC ⊢
    obtain ⟨c1, c2, c3, c4, c5, c6, c7, c8, _, c10⟩ := hC
    exact ⟨c1, c2, c3, c4, c5, c6, c7, c8, hTB, c10⟩
  · unfold LKM IKM BKM MG MO TRM MIV MBP at hM ⊢
    simp only [f56, f57, f58, f59, f74, f77, g1, g2, g3, g4, g5, g10, g21, g28, g38, g39, g40, g45, g46] at hM ⊢
    obtain ⟨m1, m2, m3, m4, m5, m6, _, m8⟩ := hM
    exact ⟨m1, m2, m3, m4, m5, m6, hT, m8⟩
  · unfold LNK HIS hix hrw at hN ⊢
    simp only [f1, f15, f16, f23, f24, f25, f26, f27, f28, f33, f34, f35, f36, f37, f58, f59, f65, f66, f67, g1, g2, g3, g4, g5, g21, g29, g30] at hN ⊢
    obtain ⟨n1, n2, n3, n4, n5, n6, n7, _, _, n10⟩ := hN
    exact ⟨n1, n2, n3, n4, n5, n6, n7, hl, hp, n10⟩
set_option maxHeartbeats 4000000 in
theorem LKQ.slot {t : Int} {q : Nat} {V W : VV} (h : LKQ t q V) (e : ∀ a ∈ relC, a ∉ ([25, 26, 27, 28, 65, 66] : List Int) → ∀ b, W a b = V a b) (e5 : ∀ b : Int, b ≠ 0 → b ∉ ([] : List Int) → W 55 b = V 55 b) (hs : (W 25 1 = 0 ∨ ((1 ≤ W 25 1 ∧ W 25 1 ≤ 16) ∧ ∀ k, 0 ≤ k → k < W 25 1 → 0 ≤ W 26 k ∧ W 26 k < V 15 3)) ∧ (W 27 1 = 0 ∨ ((1 ≤ W 27 1 ∧ W 27 1 ≤ 16) ∧ ∀ k, 0 ≤ k → k < W 27 1 → 0 ≤ W 28 k ∧ W 28 k < V 15 3))) (h1 : W 25 1 = W 66 0) (h2 : W 27 1 = W 66 1) (h3 : ∀ k, 0 ≤ k → k < W 25 1 → W 65 k = W 26 k) (h4 : ∀ k, 0 ≤ k → k < W 27 1 → W 65 (16 + k) = W 28 k) : LKQ t q W := by
  have f1 : W 1 = V 1 := funext (e 1 (by decide) (by decide))
  have f2 : W 2 = V 2 := funext (e 2 (by decide) (by decide))
  have f3 : W 3 = V 3 := funext (e 3 (by decide) (by decide))
  have f6 : W 6 = V 6 := funext (e 6 (by decide) (by decide))
  have f13 : W 13 = V 13 := funext (e 13 (by decide) (by decide))
  have f14 : W 14 = V 14 := funext (e 14 (by decide) (by decide))
  have f15 : W 15 = V 15 := funext (e 15 (by decide) (by decide))
  have f16 : W 16 = V 16 := funext (e 16 (by decide) (by decide))
  have f19 : W 19 = V 19 := funext (e 19 (by decide) (by decide))
  have f23 : W 23 = V 23 := funext (e 23 (by decide) (by decide))
  have f24 : W 24 = V 24 := funext (e 24 (by decide) (by decide))
  have f33 : W 33 = V 33 := funext (e 33 (by decide) (by decide))
  have f34 : W 34 = V 34 := funext (e 34 (by decide) (by decide))
  have f35 : W 35 = V 35 := funext (e 35 (by decide) (by decide))
  have f36 : W 36 = V 36 := funext (e 36 (by decide) (by decide))
  have f37 : W 37 = V 37 := funext (e 37 (by decide) (by decide))
  have f38 : W 38 = V 38 := funext (e 38 (by decide) (by decide))
  have f42 : W 42 = V 42 := funext (e 42 (by decide) (by decide))
  have f43 : W 43 = V 43 := funext (e 43 (by decide) (by decide))
  have f44 : W 44 = V 44 := funext (e 44 (by decide) (by decide))
  have f47 : W 47 = V 47 := funext (e 47 (by decide) (by decide))
  have f48 : W 48 = V 48 := funext (e 48 (by decide) (by decide))
  have f56 : W 56 = V 56 := funext (e 56 (by decide) (by decide))
  have f57 : W 57 = V 57 := funext (e 57 (by decide) (by decide))
  have f58 : W 58 = V 58 := funext (e 58 (by decide) (by decide))
  have f59 : W 59 = V 59 := funext (e 59 (by decide) (by decide))
  have f67 : W 67 = V 67 := funext (e 67 (by decide) (by decide))
  have f68 : W 68 = V 68 := funext (e 68 (by decide) (by decide))
  have f74 : W 74 = V 74 := funext (e 74 (by decide) (by decide))
  have f77 : W 77 = V 77 := funext (e 77 (by decide) (by decide))
  have g1 := e5 1 (by decide) (by decide)
  have g2 := e5 2 (by decide) (by decide)
  have g3 := e5 3 (by decide) (by decide)
  have g4 := e5 4 (by decide) (by decide)
  have g5 := e5 5 (by decide) (by decide)
  have g10 := e5 10 (by decide) (by decide)
  have g21 := e5 21 (by decide) (by decide)
  have g23 := e5 23 (by decide) (by decide)
  have g28 := e5 28 (by decide) (by decide)
  have g29 := e5 29 (by decide) (by decide)
  have g30 := e5 30 (by decide) (by decide)
  have g38 := e5 38 (by decide) (by decide)
  have g39 := e5 39 (by decide) (by decide)
  have g40 := e5 40 (by decide) (by decide)
  have g45 := e5 45 (by decide) (by decide)
  have g46 := e5 46 (by decide) (by decide)
  clear e e5
  obtain ⟨hC, hM, hN⟩ := h
  refine ⟨?_, ?_, ?_⟩
  · unfold LKC PKC IKC BKC SLC GP RO TR TB IVP BASP OG at hC ⊢
    simp only [Int.reduceAdd, f2, f3, f6, f13, f14, f15, f16, f19, f23, f24, f33, f38, f42, f43, f44, f47, f48] at hC ⊢
    obtain ⟨c1, c2, c3, c4, c5, c6, c7, c8, c9, c10, c11, c12, c13, c14, c15, c16, _⟩ := hC
    exact ⟨c1, c2, c3, c4, c5, c6, c7, c8, c9, c10, c11, c12, c13, c14, c15, c16, hs⟩
  · unfold LKM IKM BKM MG MO TRM MIV MBP at hM ⊢
    simp only [f56, f57, f58, f59, f68, f74, f77, g1, g2, g3, g4, g5, g10, g21, g23, g28, g38, g39, g40, g45, g46] at hM ⊢
    exact hM
  · unfold LNK HIS hix hrw at hN ⊢
    simp only [f1, f2, f3, f15, f16, f23, f24, f33, f34, f35, f36, f37, f58, f59, f67, f68, g1, g2, g3, g4, g5, g21, g23, g29, g30] at hN ⊢
    obtain ⟨n1, n2, n3, n4, n5, n6, n7, n8, n9, n10, n11, _, _, _, _, n16⟩ := hN
    exact ⟨n1, n2, n3, n4, n5, n6, n7, n8, n9, n10, n11, h1, h2, h3, h4, n16⟩
set_option maxHeartbeats 2000000 in
theorem cse_1 {X : Cx} {t : Int} {V : VV} {i : Int} {c s : Nat} (hX : Good X RL cL_law 9 13 466) (hR9 : LX X) (hi : 0 ≤ i ∧ i + 5 < yLn (cY X)) (hrm : c + 1 ≤ (cR X).cells ∧ s + 6 ≤ (cR X).slots) (ht9 : 0 ≤ t ∧ t ≤ 600) (hL0 : LKS t V) (hN : ∀ V', LKS (t + 1) V' → J X (GT (c + 1) (s + 6)) 2097 (ls9 i) [] V') : J X (GT c s) 328 (ls9 i) [] V := by
  obtain ⟨q, hL⟩ := hL0
  have hC := hL.1
  have hM := hL.2.1
  have hK := hL.2.2
  have g13 : V 13 1 = V 55 1 := hC.1.2.1.trans hM.1.2.1.symm
  have hM1 : ∀ V1, V1 = V → LKM q V1 := fun V1 e => e.symm ▸ hM
  have hR1 : ∀ V1 : VV, V1 = V → ∀ k, 0 ≤ k → k < V1 55 5 → 0 ≤ V1 59 k ∧ V1 59 k < gO q := fun V1 e k k0 k1 => by
    have h9 := (hM1 V1 e).2.2.2.2.1 k k0 k1
    rw [(hM1 V1 e).1.2.1] at h9
    exact h9
  have hT2 := hK.2.2.2.2.2.2.2.1
  refine st_1 (lo9 := 130) (fr2 := 1) (lo2 := 22) hX hR9 hi hrm (by decide) (by decide) ok_X11_truncate (fun E V' h => h.1) (fun k V1 hk => ok_X12_truncate) (fun k V1 b V2 hk hq => ?_)
  rcases hk with ⟨x, V0, ⟨rfl, hc, rfl⟩, rfl, rfl⟩ | ⟨⟨_, hc, rfl⟩, rfl⟩
  · have e23 : up (up V 2 1 (sx X (i + 1))) 87 0 (sx X (i + 1)) 55 23 = V 2 1 := by rw [up_n _ (by omega), up_n _ (by omega), hT2]
    rw [e23] at hq
    rcases hq with ⟨_, rfl, rfl⟩ | ⟨hn, _⟩
    · refine ⟨by rw [up_n _ (by omega), up_s], fun _ => by rw [up_n _ (by omega), up_n _ (by omega), up_s], hN _ (LKS.mono ⟨q, ?_⟩)⟩
      have w21 : up (up (up (up V 2 1 (sx X (i + 1))) 87 0 (sx X (i + 1))) 55 0 0) 55 23 (sx X (i + 1)) 2 1 = sx X (i + 1) := by rw [up_n _ (by omega), up_n _ (by omega), up_n _ (by omega), up_s]
      have w3 : ∀ p, up (up (up (up V 2 1 (sx X (i + 1))) 87 0 (sx X (i + 1))) 55 0 0) 55 23 (sx X (i + 1)) 3 p = V 3 p := fun p => by rw [up_n _ (by omega), up_n _ (by omega), up_n _ (by omega), up_n _ (by omega)]
      have w68 : ∀ p, up (up (up (up V 2 1 (sx X (i + 1))) 87 0 (sx X (i + 1))) 55 0 0) 55 23 (sx X (i + 1)) 68 p = V 68 p := fun p => by rw [up_n _ (by omega), up_n _ (by omega), up_n _ (by omega), up_n _ (by omega)]
      have hTB := hC.2.2.2.2.2.2.2.2.1
      refine hL.text (fun a ha hb b => ?_) (fun b h0 hb => ?_) ?_ ?_ ?_ ?_
      · have := rel_no ha
        have h2 : a ≠ 2 := fun z => hb (by rw [z]; decide)
        rw [up_n _ (by omega), up_n _ (by omega), up_n _ (by omega), up_n _ (by omega)]
      · have h23 : b ≠ 23 := fun z => hb (by rw [z]; decide)
        rw [up_n _ (by omega), up_n _ (by omega), up_n _ (by omega), up_n _ (by omega)]
      · unfold TB
        rw [w21]
        exact ⟨hc.1, by have := hTB.2.1; omega, fun p p0 p1 => by rw [w3]; exact hTB.2.2 p p0 p1⟩
      · rw [up_s]
        exact ⟨hc.1, by have := hTB.2.1; omega, fun p p0 p1 => by rw [w68]; exact hM.2.2.2.2.2.2.1.2.2 p p0 p1⟩
      · rw [w21, up_s]
      · intro p
        rw [w3, w68]
        exact hK.2.2.2.2.2.2.2.2.1 p
    · exact absurd hc hn
  · rw [← hT2] at hq
    rcases hq with ⟨hn, _⟩ | ⟨_, _, rfl⟩
    · exact absurd hn hc
    · exact ⟨up_s .., fun h => absurd h (by decide), hN _ (LKS.mono ⟨q, hL.u55.u55⟩)⟩
set_option maxHeartbeats 2000000 in
theorem cse_39 {X : Cx} {t : Int} {V : VV} {i : Int} {c s : Nat} (hX : Good X RL cL_law 9 13 466) (hR9 : LX X) (hi : 0 ≤ i ∧ i + 5 < yLn (cY X)) (hrm : c + 1 ≤ (cR X).cells ∧ s + 6 ≤ (cR X).slots) (ht9 : 0 ≤ t ∧ t ≤ 600) (hL0 : LKS t V) (hN : ∀ V', LKS (t + 1) V' → J X (GT (c + 1) (s + 6)) 2097 (ls9 i) [] V') : J X (GT c s) 1941 (ls9 i) [] V := by
  obtain ⟨q, hL⟩ := hL0
  have hC := hL.1
  have hM := hL.2.1
  have hK := hL.2.2
  have g13 : V 13 1 = V 55 1 := hC.1.2.1.trans hM.1.2.1.symm
  have hM1 : ∀ V1, V1 = V → LKM q V1 := fun V1 e => e.symm ▸ hM
  have hR1 : ∀ V1 : VV, V1 = V → ∀ k, 0 ≤ k → k < V1 55 5 → 0 ≤ V1 59 k ∧ V1 59 k < gO q := fun V1 e k k0 k1 => by
    have h9 := (hM1 V1 e).2.2.2.2.1 k k0 k1
    rw [(hM1 V1 e).1.2.1] at h9
    exact h9
  have hn5 := hK.2.2.2.2.2.1
  refine st_39 (lo9 := 130) (fr2 := 1) (lo2 := 22) hX hR9 hi hrm (by decide) (by decide) (ok_X11_keep hC.2.2.2.2.1) (fun E V' h => h.1) (fun k V1 hk => ok_X12_keep ?_) (fun k V1 b V2 hk hq => ?_)
  · rcases hk with ⟨x, V0, ⟨_, z, hz, _, _, hf⟩, rfl, rfl⟩ | ⟨⟨_, hc, rfl⟩, rfl⟩
    · rw [up_n _ (by omega), hf 55 5 (by rw [hz]; split <;> decide)]
      exact hM.2.2.2.1
    · exact hM.2.2.2.1
  rcases hk with ⟨x, V0, ⟨⟨rfl, hc⟩, z, hz, z1, z2, hf⟩, rfl, rfl⟩ | ⟨⟨_, hc, rfl⟩, rfl⟩
  · have hz9 : z = 25 ∨ z = 27 := by rw [hz]; split <;> simp
    have u : ∀ a b : Int, a ≠ 25 → a ≠ 26 → a ≠ 27 → a ≠ 28 → a ≠ 87 → up V0 87 0 (V 23 1) a b = V a b := fun a b h1 h2 h3 h4 h5 => by
      rw [up_n _ (by omega), hf a b (by simp; omega)]
    rcases hq with ⟨_, rfl, q0, q1, q2, q3, q4, q5⟩ | ⟨hn, _⟩
    · refine ⟨q0, fun _ => by rw [q5 87 0 (by decide) (by decide) (by decide), up_s, u 55 5 (by decide) (by decide) (by decide) (by decide) (by decide)]; exact hn5, hN _ (LKS.mono ⟨q, ?_⟩)⟩
      rw [u 55 5 (by decide) (by decide) (by decide) (by decide) (by decide), ← hn5] at q1 q3
      have v : ∀ a b : Int, a ≠ 25 → a ≠ 26 → a ≠ 27 → a ≠ 28 → a ≠ 87 → a ≠ 55 → a ≠ 65 → a ≠ 66 → V2 a b = V a b := fun a b h1 h2 h3 h4 h5 h6 h7 h8 => by rw [q5 a b h6 h7 h8, u a b h1 h2 h3 h4 h5]
      have lo : ∀ a b : Int, a = 25 ∨ a = 26 ∨ a = 27 ∨ a = 28 → V2 a b = V0 a b := fun a b h => by rw [q5 a b (by omega) (by omega) (by omega), up_n _ (by omega)]
      have hrg := hC.2.2.2.2.2.1
      have hsl := hC.2.2.2.2.2.2.2.2.2.2.2.2.2.2.2.2
      have hkk := hK.2.2.2.2.2.2.1
      have s66 : ∀ j, V2 66 j = if j = sx X (i + 1) then V 23 1 else V 66 j := fun j => by rw [q3 j, u 66 j (by decide) (by decide) (by decide) (by decide) (by decide)]
      have s65 : ∀ k, 0 ≤ k → k < V 23 1 → V2 65 (16 * sx X (i + 1) + k) = V 24 k := fun k k0 k1 => by rw [q1 k k0 k1, u 59 k (by decide) (by decide) (by decide) (by decide) (by decide), hkk k k0 k1]
      have t65 : ∀ j, j < 16 * sx X (i + 1) ∨ 16 * sx X (i + 1) + 16 ≤ j → V2 65 j = V 65 j := fun j hj => by rw [q2 j hj, u 65 j (by decide) (by decide) (by decide) (by decide) (by decide)]
      have ha9 : (sx X (i + 1) = 0 ∧ z = 25) ∨ (sx X (i + 1) = 1 ∧ z = 27) := by
        by_cases h0 : sx X (i + 1) = 0
        · exact Or.inl ⟨h0, by rw [hz, if_pos h0]⟩
        · exact Or.inr ⟨by omega, by rw [hz, if_neg h0]⟩
      have hC1 := hK.2.2.2.2.2.2.2.2.2.2.2
      have hn16 := hC.2.2.2.2.1
      have hsl' : SLC V := hsl
      unfold SLC at hsl'
      generalize hA : sx X (i + 1) = A at *
      rcases ha9 with ⟨rfl, rfl⟩ | ⟨rfl, rfl⟩
      · have p25 : V2 25 1 = V 23 1 := (lo 25 1 (by decide)).trans z1
        have p26 : ∀ k, 0 ≤ k → k < V 23 1 → V2 26 k = V 24 k := fun k k0 k1 => (lo 26 k (by decide)).trans (z2 k k0 k1)
        have p27 : ∀ b, V2 27 b = V 27 b := fun b => (lo 27 b (by decide)).trans (hf 27 b (by decide))
        have p28 : ∀ b, V2 28 b = V 28 b := fun b => (lo 28 b (by decide)).trans (hf 28 b (by decide))
        refine hL.slot (fun a ha hb b => ?_) (fun b h0 hb => by rw [q4 b h0, u 55 b (by decide) (by decide) (by decide) (by decide) (by decide)]) ⟨Or.inr ⟨by rw [p25]; exact hn16, fun k k0 k1 => ?_⟩, ?_⟩ ?_ ?_ ?_ ?_
        · have := rel_no ha
          simp at hb
          exact v a b (by omega) (by omega) (by omega) (by omega) (by omega) (by omega) (by omega) (by omega)
        · rw [p25] at k1
          rw [p26 k k0 k1]
          exact hrg k k0 k1
        · rw [p27]
          exact hsl'.2.imp id (fun h => ⟨h.1, fun k k0 k1 => by rw [p28]; exact h.2 k k0 k1⟩)
        · rw [p25, s66, if_pos rfl]
        · rw [p27, s66, if_neg (by decide)]
          exact hC1.2.1
        · intro k k0 k1
          rw [p25] at k1
          rw [p26 k k0 k1, ← s65 k k0 k1]
          congr 1
          omega
        · intro k k0 k1
          rw [p27] at k1
          rw [p28, t65 _ (Or.inr (by omega))]
          exact hC1.2.2.2.1 k k0 k1
      · have p27 : V2 27 1 = V 23 1 := (lo 27 1 (by decide)).trans z1
        have p28 : ∀ k, 0 ≤ k → k < V 23 1 → V2 28 k = V 24 k := fun k k0 k1 => (lo 28 k (by decide)).trans (z2 k k0 k1)
        have p25 : ∀ b, V2 25 b = V 25 b := fun b => (lo 25 b (by decide)).trans (hf 25 b (by decide))
        have p26 : ∀ b, V2 26 b = V 26 b := fun b => (lo 26 b (by decide)).trans (hf 26 b (by decide))
        refine hL.slot (fun a ha hb b => ?_) (fun b h0 hb => by rw [q4 b h0, u 55 b (by decide) (by decide) (by decide) (by decide) (by decide)]) ⟨?_, Or.inr ⟨by rw [p27]; exact hn16, fun k k0 k1 => ?_⟩⟩ ?_ ?_ ?_ ?_
        · have := rel_no ha
          simp at hb
          exact v a b (by omega) (by omega) (by omega) (by omega) (by omega) (by omega) (by omega) (by omega)
        · rw [p25]
          exact hsl'.1.imp id (fun h => ⟨h.1, fun k k0 k1 => by rw [p26]; exact h.2 k k0 k1⟩)
        · rw [p27] at k1
          rw [p28 k k0 k1]
          exact hrg k k0 k1
        · rw [p25, s66, if_neg (by decide)]
          exact hC1.1
        · rw [p27, s66, if_pos rfl]
        · intro k k0 k1
          rw [p25] at k1
          have := hsl'.1
          rw [p26, t65 _ (Or.inl (by omega))]
          exact hC1.2.2.1 k k0 k1
        · intro k k0 k1
          rw [p27] at k1
          rw [p28 k k0 k1, ← s65 k k0 k1]
          congr 1
    · exact absurd hc hn
  · rcases hq with ⟨hn, _⟩ | ⟨_, _, rfl⟩
    · exact absurd hn hc
    · exact ⟨up_s .., fun h => absurd h (by decide), hN _ (LKS.mono ⟨q, hL.u55.u55⟩)⟩
