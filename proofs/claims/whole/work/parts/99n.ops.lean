theorem SOL_T {V : VV} {T : Int → Int} {n : Int} {R R' : Int → Int} (ho : RO V 15) (hS : ∀ e, 0 ≤ e → e < V 15 5 → T e = V 16 e) (hn : 1 ≤ n) (hE : ∀ k, 0 ≤ k → k < n → R' k = R k) : SOL T (V 15 3) (V 15 4) n R' = SOL (V 16) (V 15 3) (V 15 4) n R := by
  funext x
  unfold SOL
  refine propext ⟨fun ⟨h1, h2⟩ => ⟨h1, fun k k0 k1 => ?_⟩, fun ⟨h1, h2⟩ => ⟨h1, fun k k0 k1 => ?_⟩⟩
  · rw [← stepF_T ho hS hn h1 k0 k1, ← hE k k0 k1]
    exact h2 k k0 k1
  · rw [stepF_T ho hS hn h1 k0 k1, hE k k0 k1]
    exact h2 k k0 k1
theorem FST_T {V : VV} {T : Int → Int} {n : Int} {R R' : Int → Int} (ho : RO V 15) (hS : ∀ e, 0 ≤ e → e < V 15 5 → T e = V 16 e) (hn : 1 ≤ n) (hE : ∀ k, 0 ≤ k → k < n → R' k = R k) : FST T (V 15 3) (V 15 4) n R' = FST (V 16) (V 15 3) (V 15 4) n R := by
  funext x
  unfold FST
  rw [SOL_T ho hS hn hE]
set_option maxHeartbeats 2000000 in
theorem cse_30 {X : Cx} {t : Int} {V : VV} {i : Int} {c s : Nat} (hX : Good X RL cL_law 9 13 466) (hR9 : LX X) (hi : 0 ≤ i ∧ i + 5 < yLn (cY X)) (hrm : c + 1 ≤ (cR X).cells ∧ s + 6 ≤ (cR X).slots) (ht9 : 0 ≤ t ∧ t ≤ 600) (hL0 : LKS t V) (hN : ∀ V', LKS (t + 1) V' → J X (GT (c + 1) (s + 6)) 2097 (ls9 i) [] V') : J X (GT c s) 1458 (ls9 i) [] V := by
  obtain ⟨q, hL⟩ := hL0
  have hC := hL.1
  have hM := hL.2.1
  have hK := hL.2.2
  have g13 : V 13 1 = V 55 1 := hC.1.2.1.trans hM.1.2.1.symm
  have hM1 : ∀ V1, V1 = V → LKM q V1 := fun V1 e => e.symm ▸ hM
  have hR1 : ∀ V1 : VV, V1 = V → ∀ k, 0 ≤ k → k < V1 55 5 → 0 ≤ V1 59 k ∧ V1 59 k < gO q := fun V1 e k k0 k1 => by
    have h9 := (hM1 V1 e).2.2.2.2.1 k k0 k1
    rw [(hM1 V1 e).1.2.1] at h9
    exact h9
  have hn5 := hK.2.2.2.2.2.1
  have h59 := hK.2.2.2.2.2.2.1
  have h3 := hC.2.2.2.1
  have hrg := hC.2.2.2.2.2.1
  have h13 : V 13 1 = V 15 3 := hC.1.2.1.trans h3.symm
  have hn16 := hC.2.2.2.2.1
  refine st_30 (lo9 := 138) (fr2 := 3) (lo2 := 68) hX hR9 hi hrm (by decide) (by decide) (ok_X11_preimage hC.2.1 hC.2.2.1 hC.2.2.2.2.1 hC.2.2.2.2.2.1) (fun E V' h => h.elim (fun z => Or.inl z.1) (fun z => Or.inr z.1)) (fun k V1 hk => ok_X12_preimage ?_ ?_) (fun k V1 b V2 hk hq => ?_)
  · have m : ∀ a b : Int, 55 ≤ a → a ≠ 87 → V1 a b = V a b := fun a b h1 h2 => by
      rcases hk with ⟨x, V0, ⟨_, hf⟩, rfl, _⟩ | ⟨⟨_, _, rfl⟩ | ⟨_, _, hf⟩, _⟩ | ⟨⟨_, _, rfl⟩ | ⟨_, _, hf⟩, _⟩
      · rw [up_n _ (by omega), hf a b (by simp; omega)]
      · rfl
      · rw [hf a b (by simp; omega)]
      · rfl
      · rw [hf a b (by simp; omega)]
    exact hM.2.1.of (fun b => m 55 b (by decide) (by decide))
  · have m : ∀ a b : Int, 55 ≤ a → a ≠ 87 → V1 a b = V a b := fun a b h1 h2 => by
      rcases hk with ⟨x, V0, ⟨_, hf⟩, rfl, _⟩ | ⟨⟨_, _, rfl⟩ | ⟨_, _, hf⟩, _⟩ | ⟨⟨_, _, rfl⟩ | ⟨_, _, hf⟩, _⟩
      · rw [up_n _ (by omega), hf a b (by simp; omega)]
      · rfl
      · rw [hf a b (by simp; omega)]
      · rfl
      · rw [hf a b (by simp; omega)]
    rw [m 55 5 (by decide) (by decide)]; exact hM.2.2.2.1
  · have m : ∀ a b : Int, 55 ≤ a → a ≠ 87 → V1 a b = V a b := fun a b h1 h2 => by
      rcases hk with ⟨x, V0, ⟨_, hf⟩, rfl, _⟩ | ⟨⟨_, _, rfl⟩ | ⟨_, _, hf⟩, _⟩ | ⟨⟨_, _, rfl⟩ | ⟨_, _, hf⟩, _⟩
      · rw [up_n _ (by omega), hf a b (by simp; omega)]
      · rfl
      · rw [hf a b (by simp; omega)]
      · rfl
      · rw [hf a b (by simp; omega)]
    have t58 : ∀ e, 0 ≤ e → e < V 15 5 → V1 58 e = V 16 e := fun e e0 e1 => (m 58 e (by decide) (by decide)).trans (hK.2.2.2.2.1 e e0 e1)
    have r59 : ∀ k, 0 ≤ k → k < V 23 1 → V1 59 k = V 24 k := fun k k0 k1 => (m 59 k (by decide) (by decide)).trans (h59 k k0 k1)
    rw [m 55 5 (by decide) (by decide), m 55 1 (by decide) (by decide), m 55 2 (by decide) (by decide), ← hn5, ← hK.1, ← hK.2.1, SOL_T hC.2.1 t58 hn16.1 r59, FST_T hC.2.1 t58 hn16.1 r59] at hq
    have hL1 : LKQ t q V1 := by
      rcases hk with ⟨x, V0, ⟨_, hf⟩, rfl, _⟩ | ⟨⟨_, _, rfl⟩ | ⟨_, _, hf⟩, _⟩ | ⟨⟨_, _, rfl⟩ | ⟨_, _, hf⟩, _⟩
      · exact (hL.frC (hf.le (by decide))).u87
      · exact hL
      · exact hL.frC (hf.le (by decide))
      · exact hL
      · exact hL.frC (hf.le (by decide))
    rcases hq with ⟨qc, ⟨x9, hx9⟩, qx, qf⟩ | ⟨qc, rfl, qf⟩ | ⟨qc, qn, rfl, qf⟩
    · have hW := (hL1.u55 (k := 0)).frM (qf.le (by decide))
      rcases hk with ⟨x, V0, ⟨⟨rfl, hc, hF⟩, hf⟩, rfl, rfl⟩ | ⟨⟨_, hc, rfl⟩ | ⟨hc, _⟩, rfl⟩ | ⟨⟨hc, _⟩ | ⟨_, ⟨_, hc⟩, hf⟩, rfl⟩
      · exact ⟨by rw [qf 55 0 (by decide)]; exact up_s .., fun _ => by rw [qf 87 0 (by decide), up_n _ (by omega), up_s, qx _ hF], hN _ (LKS.mono ⟨q, hW⟩)⟩
      · exact absurd qc hc
      · exact absurd hc (by decide)
      · exact absurd hc (by decide)
      · exact absurd hx9 (hc x9)
    · have hW := ((hL1.u55 (k := 0)).u55 (k := 1)).frM (qf.le (by decide))
      rcases hk with ⟨x, V0, ⟨⟨rfl, hc, hF⟩, hf⟩, rfl, rfl⟩ | ⟨⟨_, hc, rfl⟩ | ⟨hc, _⟩, rfl⟩ | ⟨⟨hc, _⟩ | ⟨_, ⟨hc, _⟩, hf⟩, rfl⟩
      · exact absurd hc qc
      · exact ⟨by rw [qf 55 0 (by decide)]; exact up_s .., fun h => absurd h (by decide), hN _ (LKS.mono ⟨q, hW⟩)⟩
      · exact absurd hc (by decide)
      · exact absurd hc (by decide)
      · exact absurd hc qc
    · have hW := ((hL1.u55 (k := 0)).u55 (k := 2)).frM (qf.le (by decide))
      rcases hk with ⟨x, V0, ⟨⟨rfl, hc, hF⟩, hf⟩, rfl, rfl⟩ | ⟨⟨_, hc, rfl⟩ | ⟨hc, _⟩, rfl⟩ | ⟨⟨hc, _⟩ | ⟨_, ⟨_, hc⟩, hf⟩, rfl⟩
      · exact absurd hF.1 (qn _)
      · exact absurd qc hc
      · exact absurd hc (by decide)
      · exact absurd hc (by decide)
      · exact ⟨by rw [qf 55 0 (by decide)]; exact up_s .., fun h => absurd h (by decide), hN _ (LKS.mono ⟨q, hW⟩)⟩
