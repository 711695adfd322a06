theorem stepF_T {V : VV} {T : Int → Int} {n : Int} {R : Int → Int} {k : Int} (ho : RO V 15) (hS : ∀ e, 0 ≤ e → e < V 15 5 → T e = V 16 e) (hn : 1 ≤ n) (hR : ∀ k, 0 ≤ k → k < n → 0 ≤ R k ∧ R k < V 15 3) (h0 : 0 ≤ k) (h1 : k < n) : stepF T (V 15 3) (V 15 4) n R k = stepF (V 16) (V 15 3) (V 15 4) n R k := by
  have b1 := hR ((k + 1) % n) (Int.emod_nonneg _ (by omega)) (Int.emod_lt_of_pos _ (by omega))
  have b2 := hR ((k - 1) % n) (Int.emod_nonneg _ (by omega)) (Int.emod_lt_of_pos _ (by omega))
  have b0 := hR k h0 h1
  unfold stepF
  by_cases e : V 15 4 = 2
  · rw [if_pos e, if_pos e]
    have h := (ho.word2 b0 b1 (c := 0) (Or.inl e)).1
    rw [if_pos e] at h
    exact hS _ h.1 h.2
  · rw [if_neg e, if_neg e]
    have h := (ho.word2 b2 b0 (Or.inr b1)).1
    rw [if_neg e] at h
    exact hS _ h.1 h.2
theorem orbF_T {V : VV} {T : Int → Int} {n : Int} {R R' : Int → Int} (ho : RO V 15) (ht : TR V 15) (hS : ∀ e, 0 ≤ e → e < V 15 5 → T e = V 16 e) (hn : 1 ≤ n) (hR : ∀ k, 0 ≤ k → k < n → 0 ≤ R k ∧ R k < V 15 3) (hE : ∀ k, 0 ≤ k → k < n → R' k = R k) : ∀ (m : Nat) (k : Int), 0 ≤ k → k < n → orbF T (V 15 3) (V 15 4) n R' m k = orbF (V 16) (V 15 3) (V 15 4) n R m k
  | 0, k, h0, h1 => hE k h0 h1
  | m + 1, k, h0, h1 => by
    show stepF T (V 15 3) (V 15 4) n (orbF T (V 15 3) (V 15 4) n R' m) k = stepF (V 16) (V 15 3) (V 15 4) n (orbF (V 16) (V 15 3) (V 15 4) n R m) k
    rw [stepF_c hn (orbF_T ho ht hS hn hR hE m) h0 h1]
    exact stepF_T ho hS hn (fun k k0 k1 => orbF_b (r := 15) ho ht hn hR m k k0 k1) h0 h1
theorem EQO_T {V : VV} {T : Int → Int} {n : Int} {R R' : Int → Int} (ho : RO V 15) (ht : TR V 15) (hS : ∀ e, 0 ≤ e → e < V 15 5 → T e = V 16 e) (hn : 1 ≤ n) (hR : ∀ k, 0 ≤ k → k < n → 0 ≤ R k ∧ R k < V 15 3) (hE : ∀ k, 0 ≤ k → k < n → R' k = R k) : EQO T (V 15 3) (V 15 4) n R' = EQO (V 16) (V 15 3) (V 15 4) n R := by
  funext a b
  unfold EQO
  refine propext ⟨fun h k k0 k1 => ?_, fun h k k0 k1 => ?_⟩
  · have := h k k0 k1
    rwa [orbF_T ho ht hS hn hR hE a k k0 k1, orbF_T ho ht hS hn hR hE b k k0 k1] at this
  · rw [orbF_T ho ht hS hn hR hE a k k0 k1, orbF_T ho ht hS hn hR hE b k k0 k1]
    exact h k k0 k1
theorem TRM.of {V W : VV} (h : TRM V) (m : ∀ a b : Int, a = 55 ∨ a = 58 → W a b = V a b) : TRM W := fun e e0 e1 => by
  rw [m 55 3 (Or.inl rfl)] at e1
  rw [m 58 e (Or.inr rfl), m 55 1 (Or.inl rfl)]
  exact h e e0 e1
set_option maxHeartbeats 2000000 in
theorem cse_34 {X : Cx} {t : Int} {V : VV} {i : Int} {c s : Nat} (hX : Good X RL cL_law 9 13 466) (hR9 : LX X) (hi : 0 ≤ i ∧ i + 5 < yLn (cY X)) (hrm : c + 1 ≤ (cR X).cells ∧ s + 6 ≤ (cR X).slots) (ht9 : 0 ≤ t ∧ t ≤ 600) (hL0 : LKS t V) (hN : ∀ V', LKS (t + 1) V' → J X (GT (c + 1) (s + 6)) 2097 (ls9 i) [] V') : J X (GT c s) 1680 (ls9 i) [] V := by
  obtain ⟨q, hL⟩ := hL0
  have hC := hL.1
  have hM := hL.2.1
  have hK := hL.2.2
  have g13 : V 13 1 = V 55 1 := hC.1.2.1.trans hM.1.2.1.symm
  have hM1 : ∀ V1, V1 = V → LKM q V1 := fun V1 e => e.symm ▸ hM
  have hR1 : ∀ V1 : VV, V1 = V → ∀ k, 0 ≤ k → k < V1 55 5 → 0 ≤ V1 59 k ∧ V1 59 k < gO q := fun V1 e k k0 k1 => by
    have h9 := (hM1 V1 e).2.2.2.2.1 k k0 k1
    rw [(hM1 V1 e).1.2.1] at h9
    exact h9
  have hn5 := hK.2.2.2.2.2.1
  have h59 := hK.2.2.2.2.2.2.1
  have h3 := hC.2.2.2.1
  have hrg := hC.2.2.2.2.2.1
  have h13 : V 13 1 = V 15 3 := hC.1.2.1.trans h3.symm
  have hn16 := hC.2.2.2.2.1
  refine st_34 (lo9 := 130) (fr2 := 1) (lo2 := 22) hX hR9 hi hrm (by decide) (by decide) (ok_X11_step hC.2.1 hC.2.2.1 hC.2.2.2.2.1 hC.2.2.2.2.2.1 hC.2.2.2.2.2.2.1 hC.2.2.2.2.2.2.2.1) (fun E V' h => h.1) (fun k V1 hk => ok_X12_step ?_ ?_ ?_ ?_ ?_) (fun k V1 b V2 hk hq => ?_)
  · have m : ∀ a b : Int, 55 ≤ a → a ≠ 87 → V1 a b = V a b := fun a b h1 h2 => by
      rcases hk with ⟨x, V0, ⟨_, _, hf⟩, rfl, _⟩ | ⟨⟨_, _, rfl⟩, _⟩
      · rw [up_n _ (by omega), hf a b (by simp; omega)]
      · rfl
    exact hM.2.1.of (fun b => m 55 b (by decide) (by decide))
  · have m : ∀ a b : Int, 55 ≤ a → a ≠ 87 → V1 a b = V a b := fun a b h1 h2 => by
      rcases hk with ⟨x, V0, ⟨_, _, hf⟩, rfl, _⟩ | ⟨⟨_, _, rfl⟩, _⟩
      · rw [up_n _ (by omega), hf a b (by simp; omega)]
      · rfl
    exact hM.2.2.1.of (fun a b h => m a b (by omega) (by omega))
  · have m : ∀ a b : Int, 55 ≤ a → a ≠ 87 → V1 a b = V a b := fun a b h1 h2 => by
      rcases hk with ⟨x, V0, ⟨_, _, hf⟩, rfl, _⟩ | ⟨⟨_, _, rfl⟩, _⟩
      · rw [up_n _ (by omega), hf a b (by simp; omega)]
      · rfl
    rw [m 55 5 (by decide) (by decide)]; exact hM.2.2.2.1
  · have m : ∀ a b : Int, 55 ≤ a → a ≠ 87 → V1 a b = V a b := fun a b h1 h2 => by
      rcases hk with ⟨x, V0, ⟨_, _, hf⟩, rfl, _⟩ | ⟨⟨_, _, rfl⟩, _⟩
      · rw [up_n _ (by omega), hf a b (by simp; omega)]
      · rfl
    rw [m 55 21 (by decide) (by decide)]; exact hM.2.2.2.2.2.1
  · have m : ∀ a b : Int, 55 ≤ a → a ≠ 87 → V1 a b = V a b := fun a b h1 h2 => by
      rcases hk with ⟨x, V0, ⟨_, _, hf⟩, rfl, _⟩ | ⟨⟨_, _, rfl⟩, _⟩
      · rw [up_n _ (by omega), hf a b (by simp; omega)]
      · rfl
    intro k k0 k1
    rw [m 55 5 (by decide) (by decide)] at k1
    rw [m 59 k (by decide) (by decide), m 55 1 (by decide) (by decide)]
    exact hM.2.2.2.2.1 k k0 k1
  · have m : ∀ a b : Int, 55 ≤ a → a ≠ 87 → V1 a b = V a b := fun a b h1 h2 => by
      rcases hk with ⟨x, V0, ⟨_, _, hf⟩, rfl, _⟩ | ⟨⟨_, _, rfl⟩, _⟩
      · rw [up_n _ (by omega), hf a b (by simp; omega)]
      · rfl
    have t58 : ∀ e, 0 ≤ e → e < V 15 5 → V1 58 e = V 16 e := fun e e0 e1 => (m 58 e (by decide) (by decide)).trans (hK.2.2.2.2.1 e e0 e1)
    have r59 : ∀ k, 0 ≤ k → k < V 23 1 → V1 59 k = V 24 k := fun k k0 k1 => (m 59 k (by decide) (by decide)).trans (h59 k k0 k1)
    rw [m 55 5 (by decide) (by decide), m 55 1 (by decide) (by decide), m 55 2 (by decide) (by decide), ← hn5, ← hK.1, ← hK.2.1] at hq
    rcases hk with ⟨x, V0, ⟨⟨hc, rfl, h24, h23⟩, hRC, hf⟩, rfl, rfl⟩ | ⟨⟨_, hc, rfl⟩, rfl⟩
    · rcases hq with ⟨_, rfl, q0, q1, q2, q3, q4⟩ | ⟨hn, _⟩
      · have hw : ∀ k, 0 ≤ k → k < V 23 1 → V2 59 k = V0 24 k := fun k k0 k1 => by rw [q2 k k0 k1, h24 k k0 k1]; exact orbF_T hC.2.1 hC.2.2.1 t58 hn16.1 hrg r59 _ k k0 k1
        have hb0 : ∀ k, 0 ≤ k → k < V 23 1 → 0 ≤ V0 24 k ∧ V0 24 k < V 15 3 := fun k k0 k1 => by rw [h24 k k0 k1]; exact orbF_b (r := 15) hC.2.1 hC.2.2.1 hn16.1 hrg _ k k0 k1
        refine ⟨q0, fun _ => ?_, hN _ (LKS.mono ⟨q, ring_op hL (fun a b ha => hf a b (by simp at ha ⊢; omega)) hRC q1 (fun a b h1 h2 h3 h4 => q4 a b h1 h2 h3 h4) (fun b h0 _ h2 => q3 b h0 h2) ?_ (by rw [h23]; exact hn16) (fun k k0 k1 => ?_)⟩)⟩
        · rw [q4 87 0 (by decide) (by decide) (by decide) (by decide), up_s]
          refine cntI_c _ (fun k k0 k1 => ?_)
          show (V 24 k != V0 24 k) = (V2 59 k != up V0 87 0 _ 59 k)
          rw [hw k k0 (by omega), r59 k k0 (by omega), bne_comm]
        · rw [q3 5 (by decide) (by decide), m 55 5 (by decide) (by decide), ← hn5, h23]
        · rw [h23] at k1
          exact ⟨hb0 k k0 k1, hw k k0 k1⟩
      · exact absurd hc hn
    · rcases hq with ⟨hn, _⟩ | ⟨_, _, rfl⟩
      · exact absurd hn hc
      · exact ⟨up_s .., fun h => absurd h (by decide), hN _ (LKS.mono ⟨q, hL.u55.u55⟩)⟩
