set_option maxHeartbeats 2000000 in
theorem cse_40 {X : Cx} {t : Int} {V : VV} {i : Int} {c s : Nat} (hX : Good X RL cL_law 9 13 466) (hR9 : LX X) (hi : 0 ≤ i ∧ i + 5 < yLn (cY X)) (hrm : c + 1 ≤ (cR X).cells ∧ s + 6 ≤ (cR X).slots) (ht9 : 0 ≤ t ∧ t ≤ 600) (hL0 : LKS t V) (hN : ∀ V', LKS (t + 1) V' → J X (GT (c + 1) (s + 6)) 2097 (ls9 i) [] V') : J X (GT c s) 1997 (ls9 i) [] V := by
  obtain ⟨q, hL⟩ := hL0
  have hC := hL.1
  have hM := hL.2.1
  have hK := hL.2.2
  have g13 : V 13 1 = V 55 1 := hC.1.2.1.trans hM.1.2.1.symm
  have hM1 : ∀ V1, V1 = V → LKM q V1 := fun V1 e => e.symm ▸ hM
  have hR1 : ∀ V1 : VV, V1 = V → ∀ k, 0 ≤ k → k < V1 55 5 → 0 ≤ V1 59 k ∧ V1 59 k < gO q := fun V1 e k k0 k1 => by
    have h9 := (hM1 V1 e).2.2.2.2.1 k k0 k1
    rw [(hM1 V1 e).1.2.1] at h9
    exact h9
  have hn5 := hK.2.2.2.2.2.1
  have h59 := hK.2.2.2.2.2.2.1
  have h3 := hC.2.2.2.1
  have hrg := hC.2.2.2.2.2.1
  have h13 : V 13 1 = V 15 3 := hC.1.2.1.trans h3.symm
  have hn16 := hC.2.2.2.2.1
  have hsl : SLC V := hC.2.2.2.2.2.2.2.2.2.2.2.2.2.2.2.2
  unfold SLC at hsl
  obtain ⟨k66, k67, k65, k65'⟩ : V 25 1 = V 66 0 ∧ V 27 1 = V 66 1 ∧ (∀ k, 0 ≤ k → k < V 25 1 → V 65 k = V 26 k) ∧ (∀ k, 0 ≤ k → k < V 27 1 → V 65 (16 + k) = V 28 k) := ⟨hK.2.2.2.2.2.2.2.2.2.2.2.1, hK.2.2.2.2.2.2.2.2.2.2.2.2.1, hK.2.2.2.2.2.2.2.2.2.2.2.2.2.1, hK.2.2.2.2.2.2.2.2.2.2.2.2.2.2.1⟩
  have s66 : ∀ z : Int, z = (if (sx X (i + 1)) = 0 then 25 else 27) → 0 ≤ (sx X (i + 1)) ∧ (sx X (i + 1)) ≤ 1 → V 66 (sx X (i + 1)) = V z 1 ∧ (∀ k, 0 ≤ k → k < V z 1 → V 65 (16 * (sx X (i + 1)) + k) = V (z + 1) k) ∧ (V z 1 = 0 ∨ ((1 ≤ V z 1 ∧ V z 1 ≤ 16) ∧ ∀ k, 0 ≤ k → k < V z 1 → 0 ≤ V (z + 1) k ∧ V (z + 1) k < V 15 3)) := fun z hz ha => by
    by_cases h0 : (sx X (i + 1)) = 0
    · rw [if_pos h0] at hz
      subst hz
      rw [h0]
      exact ⟨k66.symm, fun k q0 q1 => by rw [show (16 : Int) * 0 + k = k by omega]; exact k65 k q0 q1, hsl.1⟩
    · rw [if_neg h0] at hz
      subst hz
      rw [show (sx X (i + 1)) = 1 by omega]
      exact ⟨k67.symm, fun k q0 q1 => by rw [show (16 : Int) * 1 + k = 16 + k by omega]; exact k65' k q0 q1, hsl.2⟩
  refine st_40 (lo9 := 130) (fr2 := 2) (lo2 := 44) hX hR9 hi hrm (by decide) (by decide) (ok_X11_multiply (q := q) hC.1 h3 hC.2.2.2.2.1 hC.2.2.2.2.2.1 hC.2.2.2.2.2.2.1 hC.2.2.2.2.2.2.2.1 (fun z hz => by rcases hz with rfl | rfl; exact hsl.1; exact hsl.2)) (fun E V' h => h.elim (fun z => Or.inl z.1) (fun z => z.elim (fun z => Or.inr (Or.inl z.1)) (fun z => Or.inr (Or.inr z.1)))) (fun k V1 hk => ok_X12_multiply (q := q) ?_ ?_ ?_ ?_ ?_ ?_) (fun k V1 b V2 hk hq => ?_)
  · have m : ∀ a b : Int, 55 ≤ a → a ≠ 87 → V1 a b = V a b := fun a b h1 h2 => by
      rcases hk with ⟨x, V0, ⟨_, z, _, _, _, hf⟩, rfl, _⟩ | ⟨⟨_, _, rfl⟩ | ⟨_, _, rfl⟩ | ⟨_, _, rfl⟩, _⟩ | ⟨⟨_, _, rfl⟩ | ⟨_, _, rfl⟩ | ⟨_, _, rfl⟩, _⟩ | ⟨⟨_, _, rfl⟩ | ⟨_, _, rfl⟩ | ⟨_, _, rfl⟩, _⟩
      · rw [up_n _ (by omega), hf a b (by simp; omega)]
      · rfl
      · rfl
      · rfl
      · rfl
      · rfl
      · rfl
      · rfl
      · rfl
      · rfl
    exact hM.1.of (fun a b h1 h2 => m a b h1 (by omega))
  · have m : ∀ a b : Int, 55 ≤ a → a ≠ 87 → V1 a b = V a b := fun a b h1 h2 => by
      rcases hk with ⟨x, V0, ⟨_, z, _, _, _, hf⟩, rfl, _⟩ | ⟨⟨_, _, rfl⟩ | ⟨_, _, rfl⟩ | ⟨_, _, rfl⟩, _⟩ | ⟨⟨_, _, rfl⟩ | ⟨_, _, rfl⟩ | ⟨_, _, rfl⟩, _⟩ | ⟨⟨_, _, rfl⟩ | ⟨_, _, rfl⟩ | ⟨_, _, rfl⟩, _⟩
      · rw [up_n _ (by omega), hf a b (by simp; omega)]
      · rfl
      · rfl
      · rfl
      · rfl
      · rfl
      · rfl
      · rfl
      · rfl
      · rfl
    exact hM.2.1.of (fun b => m 55 b (by decide) (by decide))
  · have m : ∀ a b : Int, 55 ≤ a → a ≠ 87 → V1 a b = V a b := fun a b h1 h2 => by
      rcases hk with ⟨x, V0, ⟨_, z, _, _, _, hf⟩, rfl, _⟩ | ⟨⟨_, _, rfl⟩ | ⟨_, _, rfl⟩ | ⟨_, _, rfl⟩, _⟩ | ⟨⟨_, _, rfl⟩ | ⟨_, _, rfl⟩ | ⟨_, _, rfl⟩, _⟩ | ⟨⟨_, _, rfl⟩ | ⟨_, _, rfl⟩ | ⟨_, _, rfl⟩, _⟩
      · rw [up_n _ (by omega), hf a b (by simp; omega)]
      · rfl
      · rfl
      · rfl
      · rfl
      · rfl
      · rfl
      · rfl
      · rfl
      · rfl
    rw [m 55 5 (by decide) (by decide)]; exact hM.2.2.2.1
  · have m : ∀ a b : Int, 55 ≤ a → a ≠ 87 → V1 a b = V a b := fun a b h1 h2 => by
      rcases hk with ⟨x, V0, ⟨_, z, _, _, _, hf⟩, rfl, _⟩ | ⟨⟨_, _, rfl⟩ | ⟨_, _, rfl⟩ | ⟨_, _, rfl⟩, _⟩ | ⟨⟨_, _, rfl⟩ | ⟨_, _, rfl⟩ | ⟨_, _, rfl⟩, _⟩ | ⟨⟨_, _, rfl⟩ | ⟨_, _, rfl⟩ | ⟨_, _, rfl⟩, _⟩
      · rw [up_n _ (by omega), hf a b (by simp; omega)]
      · rfl
      · rfl
      · rfl
      · rfl
      · rfl
      · rfl
      · rfl
      · rfl
      · rfl
    rw [m 55 21 (by decide) (by decide)]; exact hM.2.2.2.2.2.1
  · have m : ∀ a b : Int, 55 ≤ a → a ≠ 87 → V1 a b = V a b := fun a b h1 h2 => by
      rcases hk with ⟨x, V0, ⟨_, z, _, _, _, hf⟩, rfl, _⟩ | ⟨⟨_, _, rfl⟩ | ⟨_, _, rfl⟩ | ⟨_, _, rfl⟩, _⟩ | ⟨⟨_, _, rfl⟩ | ⟨_, _, rfl⟩ | ⟨_, _, rfl⟩, _⟩ | ⟨⟨_, _, rfl⟩ | ⟨_, _, rfl⟩ | ⟨_, _, rfl⟩, _⟩
      · rw [up_n _ (by omega), hf a b (by simp; omega)]
      · rfl
      · rfl
      · rfl
      · rfl
      · rfl
      · rfl
      · rfl
      · rfl
      · rfl
    intro k k0 k1
    rw [m 55 5 (by decide) (by decide)] at k1
    rw [m 59 k (by decide) (by decide)]
    exact hR1 V rfl k k0 k1
  · have m : ∀ a b : Int, 55 ≤ a → a ≠ 87 → V1 a b = V a b := fun a b h1 h2 => by
      rcases hk with ⟨x, V0, ⟨_, z, _, _, _, hf⟩, rfl, _⟩ | ⟨⟨_, _, rfl⟩ | ⟨_, _, rfl⟩ | ⟨_, _, rfl⟩, _⟩ | ⟨⟨_, _, rfl⟩ | ⟨_, _, rfl⟩ | ⟨_, _, rfl⟩, _⟩ | ⟨⟨_, _, rfl⟩ | ⟨_, _, rfl⟩ | ⟨_, _, rfl⟩, _⟩
      · rw [up_n _ (by omega), hf a b (by simp; omega)]
      · rfl
      · rfl
      · rfl
      · rfl
      · rfl
      · rfl
      · rfl
      · rfl
      · rfl
    intro z z0 z1 hz k k0 k1
    rw [m 66 z (by decide) (by decide)] at k1 hz
    rw [m 65 _ (by decide) (by decide), ← h3]
    rcases (by omega : z = 0 ∨ z = 1) with rfl | rfl
    · rw [← k66] at k1 hz
      rw [show (16 : Int) * 0 + k = k by omega, k65 k k0 k1]
      exact (hsl.1.resolve_left hz).2 k k0 k1
    · rw [← k67] at k1 hz
      rw [show (16 : Int) * 1 + k = 16 + k by omega, k65' k k0 k1]
      exact (hsl.2.resolve_left hz).2 k k0 k1
  · have m : ∀ a b : Int, 55 ≤ a → a ≠ 87 → V1 a b = V a b := fun a b h1 h2 => by
      rcases hk with ⟨x, V0, ⟨_, z, _, _, _, hf⟩, rfl, _⟩ | ⟨⟨_, _, rfl⟩ | ⟨_, _, rfl⟩ | ⟨_, _, rfl⟩, _⟩ | ⟨⟨_, _, rfl⟩ | ⟨_, _, rfl⟩ | ⟨_, _, rfl⟩, _⟩ | ⟨⟨_, _, rfl⟩ | ⟨_, _, rfl⟩ | ⟨_, _, rfl⟩, _⟩
      · rw [up_n _ (by omega), hf a b (by simp; omega)]
      · rfl
      · rfl
      · rfl
      · rfl
      · rfl
      · rfl
      · rfl
      · rfl
      · rfl
    rw [m 55 5 (by decide) (by decide), m 66 _ (by decide) (by decide), ← hn5] at hq
    rcases hk with ⟨x, V0, ⟨hc, z, hz, ⟨z1, rfl, h24⟩, hRC, hf⟩, rfl, rfl⟩ | ⟨⟨_, hc, rfl⟩ | ⟨hc, _⟩ | ⟨hc, _⟩, rfl⟩ | ⟨⟨hc, _⟩ | ⟨_, ⟨hc, z, hz, z1⟩, rfl⟩ | ⟨hc, _⟩, rfl⟩ | ⟨⟨hc, _⟩ | ⟨hc, _⟩ | ⟨_, ⟨hc, z, hz, z1, z2⟩, rfl⟩, rfl⟩
    · obtain ⟨p1, p2, p3⟩ := s66 z hz hc
      rcases hq with ⟨_, _, _, rfl, q0, q1, q2, q3, q4⟩ | ⟨hn, _⟩ | ⟨_, hn, _⟩ | ⟨_, _, hn, _⟩
      · have w23 : V0 23 1 = V 23 1 := hf 23 1 (by decide)
        have hw : ∀ k, 0 ≤ k → k < V 23 1 → V2 59 k = V0 24 k := fun k k0 k1 => by rw [q2 k k0 k1, h24 k k0 k1, m 59 k (by decide) (by decide), m 65 _ (by decide) (by decide), h59 k k0 k1, p2 k k0 (by rw [z1]; exact k1)]
        refine ⟨q0, fun _ => ?_, hN _ (LKS.mono ⟨q, ring_op hL (fun a b ha => hf a b (by simp at ha ⊢; omega)) hRC q1 (fun a b h1 h2 h3 h4 => q4 a b h1 h2 h3) (fun b h0 _ h2 => q3 b h0 h2) ?_ (by rw [w23]; exact hn16) (fun k k0 k1 => ?_)⟩)⟩
        · rw [q4 87 0 (by decide) (by decide) (by decide), up_s]
          exact (prodF_c _ (fun k k0 k1 => hw k k0 (by omega))).symm
        · rw [q3 5 (by decide) (by decide), m 55 5 (by decide) (by decide), ← hn5, w23]
        · rw [w23] at k1
          refine ⟨?_, hw k k0 k1⟩
          rw [h24 k k0 k1, h3]
          have hz0 := (p3.resolve_left (by omega)).2 k k0 (by rw [z1]; exact k1)
          rw [h3] at hz0
          have hr0 := hrg k k0 k1
          rw [h3] at hr0
          exact gM_lt hC.1.1 hr0 hz0
      · exact absurd hc hn
      · omega
      · omega
    · rcases hq with ⟨hn, _⟩ | ⟨_, _, rfl⟩ | ⟨hn, _⟩ | ⟨hn, _⟩
      · exact absurd hn hc
      · exact ⟨up_s .., fun h => absurd h (by decide), hN _ (LKS.mono ⟨q, hL.u55.u55⟩)⟩
      · exact absurd hn hc
      · exact absurd hn hc
    · exact absurd hc (by decide)
    · exact absurd hc (by decide)
    · exact absurd hc (by decide)
    · obtain ⟨p1, p2, p3⟩ := s66 z hz hc
      rcases hq with ⟨_, hn, _⟩ | ⟨hn, _⟩ | ⟨_, _, _, rfl⟩ | ⟨_, hn, _⟩
      · omega
      · exact absurd hc hn
      · exact ⟨up_s .., fun h => absurd h (by decide), hN _ (LKS.mono ⟨q, hL.u55.u55⟩)⟩
      · omega
    · exact absurd hc (by decide)
    · exact absurd hc (by decide)
    · exact absurd hc (by decide)
    · obtain ⟨p1, p2, p3⟩ := s66 z hz hc
      rcases hq with ⟨_, _, hn, _⟩ | ⟨hn, _⟩ | ⟨_, hn, _⟩ | ⟨_, _, _, _, rfl⟩
      · omega
      · exact absurd hc hn
      · rcases p3 with p | p <;> omega
      · exact ⟨up_s .., fun h => absurd h (by decide), hN _ (LKS.mono ⟨q, hL.u55.u55⟩)⟩
