theorem up_self {V : VV} {k j : Int} : up V k j (V k j) = V := by
  funext a b
  unfold up
  split
  · rename_i h
    rw [h.1, h.2]
  · rfl
theorem MO.of {V W : VV} (h : MO V) (m : ∀ b, W 55 b = V 55 b) : MO W := by
  unfold MO at h ⊢
  rw [m 1, m 2, m 3, m 4]
  exact h
theorem MG.of {V W : VV} {q : Nat} (h : MG V q) (m : ∀ a b : Int, 55 ≤ a → a ≤ 57 → W a b = V a b) : MG W q := ⟨h.1, (m 55 1 (by decide) (by decide)).trans h.2.1, fun x y a b c d => (m 56 _ (by decide) (by decide)).trans (h.2.2.1 x y a b c d), fun x a b => (m 57 x (by decide) (by decide)).trans (h.2.2.2 x a b)⟩
set_option maxHeartbeats 2000000 in
theorem cse_37 {X : Cx} {t : Int} {V : VV} {i : Int} {c s : Nat} (hX : Good X RL cL_law 9 13 466) (hR9 : LX X) (hi : 0 ≤ i ∧ i + 5 < yLn (cY X)) (hrm : c + 1 ≤ (cR X).cells ∧ s + 6 ≤ (cR X).slots) (ht9 : 0 ≤ t ∧ t ≤ 600) (hL0 : LKS t V) (hN : ∀ V', LKS (t + 1) V' → J X (GT (c + 1) (s + 6)) 2097 (ls9 i) [] V') : J X (GT c s) 1860 (ls9 i) [] V := by
  obtain ⟨q, hL⟩ := hL0
  have hC := hL.1
  have hM := hL.2.1
  have hK := hL.2.2
  have g13 : V 13 1 = V 55 1 := hC.1.2.1.trans hM.1.2.1.symm
  have hM1 : ∀ V1, V1 = V → LKM q V1 := fun V1 e => e.symm ▸ hM
  have hR1 : ∀ V1 : VV, V1 = V → ∀ k, 0 ≤ k → k < V1 55 5 → 0 ≤ V1 59 k ∧ V1 59 k < gO q := fun V1 e k k0 k1 => by
    have h9 := (hM1 V1 e).2.2.2.2.1 k k0 k1
    rw [(hM1 V1 e).1.2.1] at h9
    exact h9
  have hn5 := hK.2.2.2.2.2.1
  have h59 := hK.2.2.2.2.2.2.1
  have h3 := hC.2.2.2.1
  have hrg := hC.2.2.2.2.2.1
  have h13 : V 13 1 = V 15 3 := hC.1.2.1.trans h3.symm
  refine st_37 (lo9 := 130) (fr2 := 2) (lo2 := 43) hX hR9 hi hrm (by decide) (by decide) (ok_X11_grow hC.2.2.2.2.1 hC.2.2.2.2.2.2.1 hC.2.2.2.2.2.2.2.1) (fun E V' h => h.elim (fun z => Or.inl z.1) (fun z => Or.inr z.1)) (fun k V1 hk => ok_X12_grow ?_ ?_ ?_) (fun k V1 b V2 hk hq => ?_)
  · have m : ∀ a b : Int, 55 ≤ a → a ≠ 87 → V1 a b = V a b := fun a b h1 h2 => by
      rcases hk with ⟨x, V0, ⟨_, _, _, _, hf⟩, rfl, _⟩ | ⟨⟨_, _, rfl⟩ | ⟨_, _, rfl⟩, _⟩ | ⟨⟨_, _, rfl⟩ | ⟨_, _, rfl⟩, _⟩
      · rw [up_n _ (by omega), hf a b (by simp; omega)]
      · rfl
      · rfl
      · rfl
      · rfl
    exact hM.2.1.of (fun b => m 55 b (by decide) (by decide))
  · have m : ∀ a b : Int, 55 ≤ a → a ≠ 87 → V1 a b = V a b := fun a b h1 h2 => by
      rcases hk with ⟨x, V0, ⟨_, _, _, _, hf⟩, rfl, _⟩ | ⟨⟨_, _, rfl⟩ | ⟨_, _, rfl⟩, _⟩ | ⟨⟨_, _, rfl⟩ | ⟨_, _, rfl⟩, _⟩
      · rw [up_n _ (by omega), hf a b (by simp; omega)]
      · rfl
      · rfl
      · rfl
      · rfl
    rw [m 55 5 (by decide) (by decide)]; exact hM.2.2.2.1
  · have m : ∀ a b : Int, 55 ≤ a → a ≠ 87 → V1 a b = V a b := fun a b h1 h2 => by
      rcases hk with ⟨x, V0, ⟨_, _, _, _, hf⟩, rfl, _⟩ | ⟨⟨_, _, rfl⟩ | ⟨_, _, rfl⟩, _⟩ | ⟨⟨_, _, rfl⟩ | ⟨_, _, rfl⟩, _⟩
      · rw [up_n _ (by omega), hf a b (by simp; omega)]
      · rfl
      · rfl
      · rfl
      · rfl
    rw [m 55 21 (by decide) (by decide)]; exact hM.2.2.2.2.2.1
  · have m : ∀ a b : Int, 55 ≤ a → a ≠ 87 → V1 a b = V a b := fun a b h1 h2 => by
      rcases hk with ⟨x, V0, ⟨_, _, _, _, hf⟩, rfl, _⟩ | ⟨⟨_, _, rfl⟩ | ⟨_, _, rfl⟩, _⟩ | ⟨⟨_, _, rfl⟩ | ⟨_, _, rfl⟩, _⟩
      · rw [up_n _ (by omega), hf a b (by simp; omega)]
      · rfl
      · rfl
      · rfl
      · rfl
    rw [m 55 5 (by decide) (by decide), m 55 1 (by decide) (by decide), ← hn5, ← g13] at hq
    rcases hk with ⟨x, V0, ⟨⟨rfl, hc, hc2⟩, hRC, h23, h24, hf⟩, rfl, rfl⟩ | ⟨⟨_, hc, rfl⟩ | ⟨hc, _⟩, rfl⟩ | ⟨⟨hc, _⟩ | ⟨_, hc, rfl⟩, rfl⟩
    · rcases hq with ⟨_, _, rfl, q0, q1, q5, q2, q3, q4⟩ | ⟨hn, _⟩ | ⟨_, hn, _⟩
      · have hn16 := hC.2.2.2.2.1
        refine ⟨q0, fun _ => by rw [q4 87 0 (by decide) (by decide) (by decide), up_s], hN _ (LKS.mono ⟨q, ring_op hL (fun a b ha => hf a b (by simp at ha ⊢; omega)) hRC q1 (fun a b h1 h2 h3 _ => q4 a b h1 h2 h3) (fun b h0 h1 h2 => q3 b h0 h1 h2) ?_ ?_ (fun k k0 k1 => ?_)⟩)⟩
        · rw [q5, h23]
        · rw [h23]; omega
        · rw [h23] at k1
          rw [h24, q2]
          by_cases e : k = V 23 1
          · rw [if_pos e, if_pos e, ← h13]; exact ⟨hc, rfl⟩
          · rw [if_neg e, if_neg e, m 59 k (by decide) (by decide)]
            exact ⟨hrg k k0 (by omega), h59 k k0 (by omega)⟩
      · exact absurd hc hn
      · omega
    · rcases hq with ⟨hn, _⟩ | ⟨_, _, rfl⟩ | ⟨hn, _⟩
      · exact absurd hn hc
      · exact ⟨up_s .., fun h => absurd h (by decide), hN _ (LKS.mono ⟨q, hL.u55.u55⟩)⟩
      · exact absurd hn hc
    · exact absurd hc (by decide)
    · exact absurd hc (by decide)
    · rcases hq with ⟨_, hn, _⟩ | ⟨hn, _⟩ | ⟨_, _, _, rfl⟩
      · omega
      · exact absurd hc.1 hn
      · exact ⟨up_s .., fun h => absurd h (by decide), hN _ (LKS.mono ⟨q, hL.u55.u55⟩)⟩
set_option maxHeartbeats 2000000 in
theorem cse_38 {X : Cx} {t : Int} {V : VV} {i : Int} {c s : Nat} (hX : Good X RL cL_law 9 13 466) (hR9 : LX X) (hi : 0 ≤ i ∧ i + 5 < yLn (cY X)) (hrm : c + 1 ≤ (cR X).cells ∧ s + 6 ≤ (cR X).slots) (ht9 : 0 ≤ t ∧ t ≤ 600) (hL0 : LKS t V) (hN : ∀ V', LKS (t + 1) V' → J X (GT (c + 1) (s + 6)) 2097 (ls9 i) [] V') : J X (GT c s) 1916 (ls9 i) [] V := by
  obtain ⟨q, hL⟩ := hL0
  have hC := hL.1
  have hM := hL.2.1
  have hK := hL.2.2
  have g13 : V 13 1 = V 55 1 := hC.1.2.1.trans hM.1.2.1.symm
  have hM1 : ∀ V1, V1 = V → LKM q V1 := fun V1 e => e.symm ▸ hM
  have hR1 : ∀ V1 : VV, V1 = V → ∀ k, 0 ≤ k → k < V1 55 5 → 0 ≤ V1 59 k ∧ V1 59 k < gO q := fun V1 e k k0 k1 => by
    have h9 := (hM1 V1 e).2.2.2.2.1 k k0 k1
    rw [(hM1 V1 e).1.2.1] at h9
    exact h9
  have hn5 := hK.2.2.2.2.2.1
  have h59 := hK.2.2.2.2.2.2.1
  have h3 := hC.2.2.2.1
  have hrg := hC.2.2.2.2.2.1
  have h13 : V 13 1 = V 15 3 := hC.1.2.1.trans h3.symm
  have md : ∀ V1 : VV, fr [24, 29, 30, 33, 34, 35, 36, 37] V V1 → ∀ a b : Int, 55 ≤ a → V1 a b = V a b := fun V1 hf a b h1 => hf a b (by simp; omega)
  refine st_38 (fr1 := 3) (lo1 := 67) (fr2 := 1) (lo2 := 22) hX hR9 hi (by decide) (by decide) (ok_X11_rotate hC.2.2.2.2.1 hC.2.2.2.2.2.2.1 hC.2.2.2.2.2.2.2.1) (fun x V1 h1 => ok_X12_rotate (hM.2.1.of (fun b => md V1 h1.2.2.2 55 b (by decide))) (by rw [md V1 h1.2.2.2 55 5 (by decide)]; exact hM.2.2.2.1) (by rw [md V1 h1.2.2.2 55 21 (by decide)]; exact hM.2.2.2.2.2.1)) (fun x V1 y V2 h1 h2 => ?_)
  obtain ⟨rfl, hRC, h24, hf⟩ := h1
  obtain ⟨rfl, q0, q1, q2, q3, q4⟩ := h2
  have hn16 := hC.2.2.2.2.1
  have w23 : V1 23 1 = V 23 1 := hf 23 1 (by decide)
  have m5 : V1 55 5 = V 23 1 := (md V1 hf 55 5 (by decide)).trans hn5.symm
  have hw : ∀ k, 0 ≤ k → k < V 23 1 → (0 ≤ V1 24 k ∧ V1 24 k < V 15 3) ∧ V2 59 k = V1 24 k := fun k k0 k1 => by
    have r0 := Int.emod_nonneg (k + (sx X (i + 1)) % V 23 1) (show V 23 1 ≠ 0 by omega)
    have r1 := Int.emod_lt_of_pos (k + (sx X (i + 1)) % V 23 1) (show 0 < V 23 1 by omega)
    rw [h24 k k0 k1, q2 k k0 (by rw [m5]; exact k1), m5, md V1 hf 59 _ (by decide), h59 _ r0 r1]
    exact ⟨hrg _ r0 r1, rfl⟩
  refine ⟨(hw 0 (by decide) (by omega)).2.symm, j_wid (Nat.le_succ _) (Nat.le_add_right _ _) hrm (hN _ (LKS.mono ⟨q, ring_op (V0 := V1) (x := V1 87 0) hL (fun a b ha => hf a b (by simp at ha ⊢; omega)) hRC (by rw [up_self]; exact q1) (fun a b h1 h2 h3 h4 => by rw [up_self]; exact q4 a b h1 h2 h3 h4) (fun b h0 _ h2 => by rw [up_self]; exact q3 b h0 h2) ?_ (by rw [w23]; exact hn16) (fun k k0 k1 => hw k k0 (by rw [← w23]; exact k1))⟩))⟩
  rw [q3 5 (by decide) (by decide), m5, w23]
