/-! undo: the past after one change is taken back; its case -/
theorem HIS_pop {V W : VV} (h : HIS V) (hp : 0 < V 55 21) (w5 : W 33 5 = (V 33 5 - 1) % 10) (w4 : W 33 4 = V 33 4 - 1) (w21 : W 55 21 = V 55 21 - 1) (f34 : W 34 = V 34) (f35 : W 35 = V 35) (f36 : W 36 = V 36) (f37 : W 37 = V 37) (f67 : W 67 = V 67) (e3 : W 15 3 = V 15 3) (e5 : W 15 5 = V 15 5) (h16 : ∀ e, 0 ≤ e → e < V 15 5 → W 16 e = V 67 (hrw V 0 + e)) : HIS W := by
  obtain ⟨h1, h2⟩ := h
  have hx : ∀ j, hix W j = hix V (j + 1) := fun j => by unfold hix; rw [w5]; omega
  have hr : ∀ j, hrw W j = hrw V (j + 1) := fun j => by unfold hrw; rw [w21]; omega
  refine ⟨by rw [w4, w21, h1], fun j j0 j1 => ?_⟩
  rw [w21] at j1
  obtain ⟨g1, g2, g3, g4, g5⟩ := h2 (j + 1) (by omega) (by omega)
  rw [hx, hr, f34, f35, f36, f37, f67, e3, e5]
  refine ⟨g1, g2, g3, g4, fun e e0 e1 => ⟨(g5 e e0 e1).1, ?_⟩⟩
  rw [(g5 e e0 e1).2]
  by_cases ee : e = V 36 (hix V (j + 1))
  · rw [if_pos ee, if_pos ee]
  · rw [if_neg ee, if_neg ee, if_neg (by omega), show j + 1 - 1 = j by omega]
    by_cases ej : j = 0
    · rw [if_pos ej, h16 e e0 e1, ej]
    · rw [if_neg ej, hr, show j - 1 + 1 = j by omega]
set_option maxHeartbeats 4000000 in
theorem LKQ.undo {t : Int} {q : Nat} {V W : VV} (h : LKQ t q V) (e : ∀ a ∈ relC, a ∉ ([15, 16, 23, 24, 33, 58, 59] : List Int) → ∀ b, W a b = V a b) (e5 : ∀ b : Int, b ≠ 0 → b ∉ ([5, 21, 38, 45] : List Int) → W 55 b = V 55 b) (w15 : ∀ b, b ≠ 7 → W 15 b = V 15 b) (w7 : (W 15 7 = V 15 7 ∧ ∀ e, W 16 e = V 16 e) ∨ W 15 7 = V 15 7 + 1) (hT : ∀ e, 0 ≤ e → e < V 15 5 → 0 ≤ W 16 e ∧ W 16 e < V 15 3) (hn : 1 ≤ W 23 1 ∧ W 23 1 ≤ 16) (hr : ∀ k, 0 ≤ k → k < W 23 1 → 0 ≤ W 24 k ∧ W 24 k < V 15 3) (h5 : 0 ≤ W 33 5 ∧ W 33 5 ≤ 9) (h4 : 0 ≤ W 33 4 ∧ W 33 4 ≤ 10)
    (m58 : ∀ e, 0 ≤ e → e < V 15 5 → W 58 e = W 16 e) (m5 : W 23 1 = W 55 5) (m59 : ∀ k, 0 ≤ k → k < W 23 1 → W 59 k = W 24 k) (m21 : 0 ≤ W 55 21 ∧ W 55 21 ≤ 10) (m38 : W 55 38 ≠ 0 → V 55 38 ≠ 0 ∧ ∀ e, W 58 e = V 58 e) (m45 : W 55 45 ≠ 0 → V 55 45 ≠ 0 ∧ ∀ e, W 58 e = V 58 e) (hH : HIS W) : LKQ (t + 1) q W := by
  have y3 := w15 3 (by decide)
  have y4 := w15 4 (by decide)
  have y5 := w15 5 (by decide)
  have y6 := w15 6 (by decide)
  have f1 : W 1 = V 1 := funext (e 1 (by decide) (by decide))
  have f2 : W 2 = V 2 := funext (e 2 (by decide) (by decide))
  have f3 : W 3 = V 3 := funext (e 3 (by decide) (by decide))
  have f6 : W 6 = V 6 := funext (e 6 (by decide) (by decide))
  have f13 : W 13 = V 13 := funext (e 13 (by decide) (by decide))
  have f14 : W 14 = V 14 := funext (e 14 (by decide) (by decide))
  have f19 : W 19 = V 19 := funext (e 19 (by decide) (by decide))
  have f25 : W 25 = V 25 := funext (e 25 (by decide) (by decide))
  have f26 : W 26 = V 26 := funext (e 26 (by decide) (by decide))
  have f27 : W 27 = V 27 := funext (e 27 (by decide) (by decide))
  have f28 : W 28 = V 28 := funext (e 28 (by decide) (by decide))
  have f34 : W 34 = V 34 := funext (e 34 (by decide) (by decide))
  have f35 : W 35 = V 35 := funext (e 35 (by decide) (by decide))
  have f36 : W 36 = V 36 := funext (e 36 (by decide) (by decide))
  have f37 : W 37 = V 37 := funext (e 37 (by decide) (by decide))
  have f38 : W 38 = V 38 := funext (e 38 (by decide) (by decide))
  have f42 : W 42 = V 42 := funext (e 42 (by decide) (by decide))
  have f43 : W 43 = V 43 := funext (e 43 (by decide) (by decide))
  have f44 : W 44 = V 44 := funext (e 44 (by decide) (by decide))
  have f47 : W 47 = V 47 := funext (e 47 (by decide) (by decide))
  have f48 : W 48 = V 48 := funext (e 48 (by decide) (by decide))
  have f56 : W 56 = V 56 := funext (e 56 (by decide) (by decide))
  have f57 : W 57 = V 57 := funext (e 57 (by decide) (by decide))
  have f65 : W 65 = V 65 := funext (e 65 (by decide) (by decide))
  have f66 : W 66 = V 66 := funext (e 66 (by decide) (by decide))
  have f67 : W 67 = V 67 := funext (e 67 (by decide) (by decide))
  have f68 : W 68 = V 68 := funext (e 68 (by decide) (by decide))
  have f74 : W 74 = V 74 := funext (e 74 (by decide) (by decide))
  have f77 : W 77 = V 77 := funext (e 77 (by decide) (by decide))
  have g1 := e5 1 (by decide) (by decide)
  have g2 := e5 2 (by decide) (by decide)
  have g3 := e5 3 (by decide) (by decide)
  have g4 := e5 4 (by decide) (by decide)
  have g10 := e5 10 (by decide) (by decide)
  have g23 := e5 23 (by decide) (by decide)
  have g28 := e5 28 (by decide) (by decide)
  have g29 := e5 29 (by decide) (by decide)
  have g30 := e5 30 (by decide) (by decide)
  have g39 := e5 39 (by decide) (by decide)
  have g40 := e5 40 (by decide) (by decide)
  have g46 := e5 46 (by decide) (by decide)
  clear e e5
  obtain ⟨⟨c1, c2, c3, c4, c5, c6, c7, c8, c9, c10, c11, c12, c13, c14, c15, c16, c17⟩, hM, hN⟩ := h
  refine ⟨⟨?_, ?_, ?_, by rw [y3]; exact c4, hn, by rw [y3]; exact hr, h5, h4, ?_, ⟨by omega, by omega⟩, by rw [f6]; exact ⟨c11.1, by omega⟩, by rw [f19]; exact ⟨c12.1, by omega⟩, by rw [f38, f42, f44]; omega, fun z => ?_, fun z => ?_, fun z => ?_, ?_⟩, ?_, ?_⟩
  · unfold GP at c1 ⊢
    simp only [Int.reduceAdd, f13, f14] at c1 ⊢
    exact c1
  · unfold RO at c2 ⊢
    rw [y3, y4, y5, y6]
    exact c2
  · intro e e0 e1
    rw [y5] at e1
    rw [y3]
    exact hT e e0 e1
  · unfold TB at c9 ⊢
    rw [f2, f3]
    exact c9
  · rw [f38] at z
    rcases w7 with ⟨z7, z16⟩ | z7
    · rw [show W 16 = V 16 from funext z16, y3, y5, y6, f38]
      exact c14 (z.trans z7)
    · omega
  · rw [f42] at z
    rcases w7 with ⟨z7, z16⟩ | z7
    · have h9 := c15 (z.trans z7)
      unfold IVP OG at h9 ⊢
      rw [show W 16 = V 16 from funext z16, y3, y4, y5, f42, f43]
      exact h9
    · omega
  · rw [f44] at z
    rcases w7 with ⟨z7, z16⟩ | z7
    · have h9 := c16 (z.trans z7)
      unfold BASP at h9 ⊢
      rw [show W 16 = V 16 from funext z16, y3, y5, y6, f44, f47, f48]
      exact h9
    · omega
  · unfold SLC at c17 ⊢
    rw [f25, f26, f27, f28, y3]
    exact c17
  · obtain ⟨p1, p2, p3, p4, p5, p6, p7, p8, p9, p10, p11⟩ := hM
    obtain ⟨n1, n2, n3, n4, n5, n6⟩ := hN
    refine ⟨?_, ?_, ?_, by rw [← m5]; exact hn, fun k k0 k1 => ?_, m21, by rw [g23, f68]; exact p7, by rw [g28]; exact p8, by rw [g10]; exact p9, fun z => ?_, fun z => ?_⟩
    · unfold MG at p1 ⊢
      rw [g1, f56, f57]
      exact p1
    · unfold MO at p2 ⊢
      rw [g1, g2, g3, g4]
      exact p2
    · intro e e0 e1
      rw [g3, ← n3] at e1
      rw [m58 e e0 e1, g1, ← n1]
      exact hT e e0 e1
    · rw [← m5] at k1
      rw [m59 k k0 k1, g1, ← n1]
      exact hr k k0 k1
    · obtain ⟨z1, z2⟩ := m38 z
      have h9 := p10 z1
      unfold MIV at h9 ⊢
      rw [show W 58 = V 58 from funext z2, f74, g1, g2, g3, g39, g40]
      exact h9
    · obtain ⟨z1, z2⟩ := m45 z
      have h9 := p11 z1
      unfold MBP at h9 ⊢
      rw [show W 58 = V 58 from funext z2, f77, g1, g3, g4, g46]
      exact h9
  · obtain ⟨n1, n2, n3, n4, n5, n6, n7, n8, n9, n10, n11, n12, n13, n14, n15, n16⟩ := hN
    refine ⟨by rw [y3, g1]; exact n1, by rw [y4, g2]; exact n2, by rw [y5, g3]; exact n3, by rw [y6, g4]; exact n4, by rw [y5]; exact m58, m5, m59, by rw [f2, g23]; exact n8, by rw [f3, f68]; exact n9, by rw [f1, g29]; exact n10, by rw [f1, g30]; exact n11, by rw [f25, f66]; exact n12, by rw [f27, f66]; exact n13, by rw [f25, f26, f65]; exact n14, by rw [f27, f28, f65]; exact n15, hH⟩
set_option maxHeartbeats 2000000 in
theorem cse_41 {X : Cx} {t : Int} {V : VV} {i : Int} {c s : Nat} (hX : Good X RL cL_law 9 13 466) (hR9 : LX X) (hi : 0 ≤ i ∧ i + 5 < yLn (cY X)) (hrm : c + 1 ≤ (cR X).cells ∧ s + 6 ≤ (cR X).slots) (ht9 : 0 ≤ t ∧ t ≤ 600) (hL0 : LKS t V) (hN : ∀ V', LKS (t + 1) V' → J X (GT (c + 1) (s + 6)) 2097 (ls9 i) [] V') : J X (GT c s) 2053 (ls9 i) [] V := by
  obtain ⟨q, hL⟩ := hL0
  have hC := hL.1
  have hM := hL.2.1
  have hK := hL.2.2
  have g13 : V 13 1 = V 55 1 := hC.1.2.1.trans hM.1.2.1.symm
  have hM1 : ∀ V1, V1 = V → LKM q V1 := fun V1 e => e.symm ▸ hM
  have hR1 : ∀ V1 : VV, V1 = V → ∀ k, 0 ≤ k → k < V1 55 5 → 0 ≤ V1 59 k ∧ V1 59 k < gO q := fun V1 e k k0 k1 => by
    have h9 := (hM1 V1 e).2.2.2.2.1 k k0 k1
    rw [(hM1 V1 e).1.2.1] at h9
    exact h9
  have hn5 := hK.2.2.2.2.2.1
  have h59 := hK.2.2.2.2.2.2.1
  have h3 := hC.2.2.2.1
  have hrg := hC.2.2.2.2.2.1
  have h13 : V 13 1 = V 15 3 := hC.1.2.1.trans h3.symm
  have hHH : HIS V := hK.2.2.2.2.2.2.2.2.2.2.2.2.2.2.2
  have hHs := hHH
  obtain ⟨hP4, hH2⟩ := hHH
  have hcl := hC.2.2.2.2.2.2.1
  have hcc := hC.2.2.2.2.2.2.2.1
  have hpm := hM.2.2.2.2.2.1
  have hbb := hC.2.1.b
  have hx0 : hix V 0 = V 33 5 := by unfold hix; omega
  have hr0 : hrw V 0 = 234 * (V 55 21 - 1) := by unfold hrw; omega
  have H0 := hH2 0 (Int.le_refl 0)
  rw [hx0, hr0] at H0
  refine st_41 (lo9 := 130) (fr2 := 1) (lo2 := 22) hX hR9 hi hrm (by decide) (by decide) (ok_X11_undo hcl hcc (fun h => ?_) (by have := hC.2.2.2.2.2.2.2.2.2.1; omega)) (fun E V' h => h.1) (fun k V1 hk => ok_X12_undo ?_ ?_ ?_) (fun k V1 b V2 hk hq => ?_)
  · have h9 := H0 (by omega)
    exact ⟨⟨by omega, h9.1.2⟩, h9.2.2.2.1.imp id (fun z => ⟨z.1, by omega⟩)⟩
  · have m : ∀ a b : Int, 55 ≤ a → a ≠ 87 → V1 a b = V a b := fun a b h1 h2 => by
      rcases hk with ⟨x, V0, ⟨_, _, _, _, _, _, _, _, hf⟩, rfl, _⟩ | ⟨⟨_, _, rfl⟩, _⟩
      · rw [up_n _ (by omega), hf a b (by simp; omega)]
      · rfl
    exact hM.2.1.of (fun b => m 55 b (by decide) (by decide))
  · have m : ∀ a b : Int, 55 ≤ a → a ≠ 87 → V1 a b = V a b := fun a b h1 h2 => by
      rcases hk with ⟨x, V0, ⟨_, _, _, _, _, _, _, _, hf⟩, rfl, _⟩ | ⟨⟨_, _, rfl⟩, _⟩
      · rw [up_n _ (by omega), hf a b (by simp; omega)]
      · rfl
    rw [m 55 21 (by decide) (by decide)]; exact hpm
  · have m : ∀ a b : Int, 55 ≤ a → a ≠ 87 → V1 a b = V a b := fun a b h1 h2 => by
      rcases hk with ⟨x, V0, ⟨_, _, _, _, _, _, _, _, hf⟩, rfl, _⟩ | ⟨⟨_, _, rfl⟩, _⟩
      · rw [up_n _ (by omega), hf a b (by simp; omega)]
      · rfl
    rw [m 55 21 (by decide) (by decide)]
    intro hp
    have h9 := H0 hp
    rw [m 67 _ (by decide) (by decide), h9.2.1]
    exact h9.1
  · have m : ∀ a b : Int, 55 ≤ a → a ≠ 87 → V1 a b = V a b := fun a b h1 h2 => by
      rcases hk with ⟨x, V0, ⟨_, _, _, _, _, _, _, _, hf⟩, rfl, _⟩ | ⟨⟨_, _, rfl⟩, _⟩
      · rw [up_n _ (by omega), hf a b (by simp; omega)]
      · rfl
    rw [m 55 21 (by decide) (by decide), m 55 3 (by decide) (by decide)] at hq
    rcases hk with ⟨x, V0, ⟨⟨rfl, hn0⟩, a5, a4, a23, a24, a16, a7, a15, hf⟩, rfl, rfl⟩ | ⟨⟨_, h0, rfl⟩, rfl⟩
    · rcases hq with ⟨hp, rfl, q0, q21, q5, q58, q59, q38, q45, qF, qf⟩ | ⟨hn, _⟩
      · obtain ⟨u1, u2, u3, u4, u5⟩ := H0 hp
        have lo : ∀ a b : Int, a < 55 → V2 a b = V0 a b := fun a b h => by rw [qf a b (by omega) (by omega) (by omega), up_n _ (by omega)]
        have w15 : ∀ b, b ≠ 7 → V2 15 b = V 15 b := fun b hb => (lo 15 b (by decide)).trans (a15 b hb)
        have w16 : ∀ e, V2 16 e = if e = V 36 (V 33 5) ∧ V 36 (V 33 5) ≠ -1 then V 37 (V 33 5) else V 16 e := fun e => (lo 16 e (by decide)).trans (a16 e)
        have h16 : ∀ e, 0 ≤ e → e < V 15 5 → V2 16 e = V 67 (234 * (V 55 21 - 1) + e) := fun e e0 e1 => by
          rw [w16, (u5 e e0 e1).2]
          by_cases ee : e = V 36 (V 33 5)
          · rw [if_pos ee, if_pos ⟨ee, by omega⟩]
          · rw [if_neg ee, if_pos rfl, if_neg (fun z => ee z.1)]
        have w58 : ∀ e, V2 58 e = if 0 ≤ e ∧ e < V 55 3 then V 67 (234 * (V 55 21 - 1) + e) else V 58 e := fun e => by
          rw [q58 e, m 67 _ (by decide) (by decide), m 58 _ (by decide) (by decide)]
        have w23 : V2 23 1 = V 35 (V 33 5) := (lo 23 1 (by decide)).trans a23
        have w24 : ∀ k, 0 ≤ k → k < V 35 (V 33 5) → V2 24 k = V 34 (V 33 5 * 16 + k) := fun k k0 k1 => (lo 24 k (by decide)).trans (a24 k k0 k1)
        have w33 : V2 33 5 = (V 33 5 - 1) % 10 := (lo 33 5 (by decide)).trans a5
        have w34 : V2 33 4 = V 33 4 - 1 := (lo 33 4 (by decide)).trans a4
        have hold : ∀ a b : Int, a ∉ ([33, 23, 24, 15, 16, 55, 58, 59, 87] : List Int) → V2 a b = V a b := fun a b h => by
          simp at h
          rw [qf a b (by omega) (by omega) (by omega), up_n _ (by omega), hf a b (by simp; omega)]
        have q5' : V2 55 5 = V 35 (V 33 5) := by rw [q5, m 67 _ (by decide) (by decide), u2]
        have q59' : ∀ k, 0 ≤ k → k < V 35 (V 33 5) → V2 59 k = V 34 (V 33 5 * 16 + k) := fun k k0 k1 => by
          rw [q59 k k0 (by rw [m 67 _ (by decide) (by decide), u2]; exact k1), m 67 _ (by decide) (by decide), (u3 k k0 k1).1]
        refine ⟨q0, fun _ => by rw [qf 87 0 (by decide) (by decide) (by decide), up_s, hP4], j_okV (fun okW => ?_)⟩
        have flag : ∀ c, cty 55 c = 3 → (V2 55 c = 1 → up V0 87 0 (V 33 4 - 1) 55 c = 1 ∧ ∀ i9, 0 ≤ i9 → i9 < V 55 3 → up V0 87 0 (V 33 4 - 1) 58 i9 = up V0 87 0 (V 33 4 - 1) 67 (234 * (V 55 21 - 1) + i9)) → V2 55 c ≠ 0 → V 55 c ≠ 0 ∧ ∀ e, V2 58 e = V 58 e := fun c hc hz hne => by
          have h1 : V2 55 c = 1 := ((okW 55 c).2.2 hc).resolve_left hne
          obtain ⟨z1, z2⟩ := hz h1
          rw [m 55 c (by decide) (by decide)] at z1
          refine ⟨by omega, fun e => ?_⟩
          rw [w58]
          by_cases he : 0 ≤ e ∧ e < V 55 3
          · have z3 := z2 e he.1 he.2
            rw [m 58 _ (by decide) (by decide), m 67 _ (by decide) (by decide)] at z3
            rw [if_pos he, z3]
          · rw [if_neg he]
        refine hN _ ⟨q, hL.undo (fun a ha hb b => ?_) (fun b h0 hb => ?_) w15 ?_ ?_ ?_ ?_ ?_ ?_ ?_ ?_ ?_ ?_ (flag 38 (by decide) q38) (flag 45 (by decide) q45) ?_⟩
        · have h9 := rel_no ha
          simp at hb
          exact hold a b (by simp; omega)
        · simp at hb
          rw [qF b h0 (by omega) (by omega) (by omega) (by omega), m 55 b (by decide) (by decide)]
        · rw [lo 15 7 (by decide), a7]
          by_cases e1 : V 36 (V 33 5) = -1
          · rw [if_pos e1]
            exact Or.inl ⟨rfl, fun e => by rw [w16, if_neg (fun z => z.2 e1)]⟩
          · rw [if_neg e1]
            exact Or.inr rfl
        · intro e e0 e1
          rw [h16 e e0 e1]
          exact (u5 e e0 e1).1
        · rw [w23]; exact u1
        · intro k k0 k1
          rw [w23] at k1
          rw [w24 k k0 k1]
          exact (u3 k k0 k1).2
        · rw [w33]; omega
        · rw [w34]; omega
        · intro e e0 e1
          have h5 := hK.2.2.1
          rw [w58, if_pos ⟨e0, by omega⟩, h16 e e0 e1]
        · rw [w23, q5']
        · intro k k0 k1
          rw [w23] at k1
          rw [w24 k k0 k1, q59' k k0 k1]
        · rw [q21]; omega
        · exact HIS_pop hHs hp w33 w34 q21 (funext fun b => hold 34 b (by decide)) (funext fun b => hold 35 b (by decide)) (funext fun b => hold 36 b (by decide)) (funext fun b => hold 37 b (by decide)) (funext fun b => hold 67 b (by decide)) (w15 3 (by decide)) (w15 5 (by decide)) (fun e e0 e1 => by rw [h16 e e0 e1, hr0])
      · omega
    · rcases hq with ⟨hp, _⟩ | ⟨_, _, rfl⟩
      · omega
      · exact ⟨up_s .., fun h => absurd h (by decide), hN _ (LKS.mono ⟨q, hL.u55.u55⟩)⟩
