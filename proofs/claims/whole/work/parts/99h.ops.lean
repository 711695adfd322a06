set_option maxHeartbeats 4000000 in
theorem LKQ.ring {t : Int} {q : Nat} {V W : VV} (h : LKQ t q V) (e : ∀ a ∈ relC, a ∉ ([23, 24, 33, 34, 35, 36, 37, 59, 67] : List Int) → ∀ b, W a b = V a b) (e5 : ∀ b : Int, b ≠ 0 → b ∉ ([5, 21] : List Int) → W 55 b = V 55 b) (hn : 1 ≤ W 23 1 ∧ W 23 1 ≤ 16) (hr : ∀ k, 0 ≤ k → k < W 23 1 → 0 ≤ W 24 k ∧ W 24 k < V 15 3) (h5 : 0 ≤ W 33 5 ∧ W 33 5 ≤ 9) (h4 : 0 ≤ W 33 4 ∧ W 33 4 ≤ 10) (m5 : 1 ≤ W 55 5 ∧ W 55 5 ≤ 16) (mr : ∀ k, 0 ≤ k → k < W 55 5 → 0 ≤ W 59 k ∧ W 59 k < V 55 1) (m21 : 0 ≤ W 55 21 ∧ W 55 21 ≤ 10) (n6 : W 23 1 = W 55 5) (n7 : ∀ k, 0 ≤ k → k < W 23 1 → W 59 k = W 24 k) (hH : HIS W) : LKQ t q W := by
  have f1 : W 1 = V 1 := funext (e 1 (by decide) (by decide))
  have f2 : W 2 = V 2 := funext (e 2 (by decide) (by decide))
  have f3 : W 3 = V 3 := funext (e 3 (by decide) (by decide))
  have f6 : W 6 = V 6 := funext (e 6 (by decide) (by decide))
  have f13 : W 13 = V 13 := funext (e 13 (by decide) (by decide))
  have f14 : W 14 = V 14 := funext (e 14 (by decide) (by decide))
  have f15 : W 15 = V 15 := funext (e 15 (by decide) (by decide))
  have f16 : W 16 = V 16 := funext (e 16 (by decide) (by decide))
  have f19 : W 19 = V 19 := funext (e 19 (by decide) (by decide))
  have f25 : W 25 = V 25 := funext (e 25 (by decide) (by decide))
  have f26 : W 26 = V 26 := funext (e 26 (by decide) (by decide))
  have f27 : W 27 = V 27 := funext (e 27 (by decide) (by decide))
  have f28 : W 28 = V 28 := funext (e 28 (by decide) (by decide))
  have f38 : W 38 = V 38 := funext (e 38 (by decide) (by decide))
  have f42 : W 42 = V 42 := funext (e 42 (by decide) (by decide))
  have f43 : W 43 = V 43 := funext (e 43 (by decide) (by decide))
  have f44 : W 44 = V 44 := funext (e 44 (by decide) (by decide))
  have f47 : W 47 = V 47 := funext (e 47 (by decide) (by decide))
  have f48 : W 48 = V 48 := funext (e 48 (by decide) (by decide))
  have f56 : W 56 = V 56 := funext (e 56 (by decide) (by decide))
  have f57 : W 57 = V 57 := funext (e 57 (by decide) (by decide))
  have f58 : W 58 = V 58 := funext (e 58 (by decide) (by decide))
  have f65 : W 65 = V 65 := funext (e 65 (by decide) (by decide))
  have f66 : W 66 = V 66 := funext (e 66 (by decide) (by decide))
  have f68 : W 68 = V 68 := funext (e 68 (by decide) (by decide))
  have f74 : W 74 = V 74 := funext (e 74 (by decide) (by decide))
  have f77 : W 77 = V 77 := funext (e 77 (by decide) (by decide))
  have g1 := e5 1 (by decide) (by decide)
  have g2 := e5 2 (by decide) (by decide)
  have g3 := e5 3 (by decide) (by decide)
  have g4 := e5 4 (by decide) (by decide)
  have g10 := e5 10 (by decide) (by decide)
  have g23 := e5 23 (by decide) (by decide)
  have g28 := e5 28 (by decide) (by decide)
  have g29 := e5 29 (by decide) (by decide)
  have g30 := e5 30 (by decide) (by decide)
  have g38 := e5 38 (by decide) (by decide)
  have g39 := e5 39 (by decide) (by decide)
  have g40 := e5 40 (by decide) (by decide)
  have g45 := e5 45 (by decide) (by decide)
  have g46 := e5 46 (by decide) (by decide)
  clear e e5
  obtain ⟨hC, hM, hN⟩ := h
  refine ⟨?_, ?_, ?_⟩
  · unfold LKC PKC IKC BKC SLC GP RO TR TB IVP BASP OG at hC ⊢
    simp only [Int.reduceAdd, f2, f3, f6, f13, f14, f15, f16, f19, f25, f26, f27, f28, f38, f42, f43, f44, f47, f48] at hC ⊢
    obtain ⟨c1, c2, c3, c4, _, _, _, _, c9⟩ := hC
    exact ⟨c1, c2, c3, c4, hn, hr, h5, h4, c9⟩
  · unfold LKM IKM BKM MG MO TRM MIV MBP at hM ⊢
    simp only [f56, f57, f58, f68, f74, f77, g1, g2, g3, g4, g10, g23, g28, g38, g39, g40, g45, g46] at hM ⊢
    obtain ⟨p1, p2, p3, _, _, _, p7⟩ := hM
    exact ⟨p1, p2, p3, m5, mr, m21, p7⟩
  · unfold LNK at hN ⊢
    simp only [f1, f2, f3, f15, f16, f25, f26, f27, f28, f58, f65, f66, f68, g1, g2, g3, g4, g23, g29, g30] at hN ⊢
    obtain ⟨q1, q2, q3, q4, q5, _, _, q8, q9, q10, q11, q12, q13, q14, q15, _⟩ := hN
    exact ⟨q1, q2, q3, q4, q5, n6, n7, q8, q9, q10, q11, q12, q13, q14, q15, hH⟩
theorem REC.to {V V0 W : VV} {w s : Int} (h : REC V V0 w s) (e : ∀ a b, 33 ≤ a → a ≤ 37 → W a b = V0 a b) : REC V W w s := by
  obtain ⟨r1, r2, r3, r4, r5, r6, r7⟩ := h
  exact ⟨(e 33 5 (by decide) (by decide)).trans r1, (e 33 4 (by decide) (by decide)).trans r2, fun j => (e 35 j (by decide) (by decide)).trans (r3 j), fun j => (e 36 j (by decide) (by decide)).trans (r4 j), fun j => (e 37 j (by decide) (by decide)).trans (r5 j), fun k k0 k1 => (e 34 _ (by decide) (by decide)).trans (r6 k k0 k1), fun b hb => (e 34 b (by decide) (by decide)).trans (r7 b hb)⟩
theorem KPS.of {V V1 W : VV} (h : KPS V1 W) (e : ∀ a b, 55 ≤ a → a < 70 → V1 a b = V a b) : KPS V W := by
  have e1 : V1 55 = V 55 := funext (fun b => e 55 b (by decide) (by decide))
  have e2 : V1 67 = V 67 := funext (fun b => e 67 b (by decide) (by decide))
  have e3 : V1 58 = V 58 := funext (fun b => e 58 b (by decide) (by decide))
  have e4 : V1 59 = V 59 := funext (fun b => e 59 b (by decide) (by decide))
  unfold KPS kpP at h ⊢
  rw [e1, e2, e3, e4] at h
  exact h
/-- a call that changes the ring alone -/
theorem ring_op {t x : Int} {q : Nat} {V V0 W : VV} (hL : LKQ t q V) (hf : ∀ a b : Int, a ∉ ([23, 24, 29, 30, 31, 32, 33, 34, 35, 36, 37] : List Int) → V0 a b = V a b) (hRC : REC V V0 (-1) 0) (hKP : KPS (up V0 87 0 x) W) (hm : ∀ a b : Int, a ≠ 55 → a ≠ 67 → a ≠ 59 → a ≠ 84 → W a b = up V0 87 0 x a b)
    (hm5 : ∀ b : Int, b ≠ 0 → b ≠ 5 → b ≠ 21 → W 55 b = up V0 87 0 x 55 b) (hn : W 55 5 = V0 23 1) (hn16 : 1 ≤ V0 23 1 ∧ V0 23 1 ≤ 16) (hring : ∀ k, 0 ≤ k → k < V0 23 1 → (0 ≤ V0 24 k ∧ V0 24 k < V 15 3) ∧ W 59 k = V0 24 k) : LKQ t q W := by
  have hC := hL.1
  have hM := hL.2.1
  have hK := hL.2.2
  have lo : ∀ a b : Int, a < 55 → W a b = V0 a b := fun a b h => by rw [hm a b (by omega) (by omega) (by omega) (by omega), up_n _ (by omega)]
  have v1 : ∀ a b : Int, 55 ≤ a → a < 70 → up V0 87 0 x a b = V a b := fun a b h1 h2 => by rw [up_n _ (by omega), hf a b (by simp; omega)]
  have hRW : REC V W (-1) 0 := hRC.to (fun a b h1 h2 => lo a b (by omega))
  have hKW : KPS V W := hKP.of v1
  have e15 : ∀ b, W 15 b = V 15 b := fun b => (lo 15 b (by decide)).trans (hf 15 b (by decide))
  have e16 : ∀ b, W 16 b = V 16 b := fun b => (lo 16 b (by decide)).trans (hf 16 b (by decide))
  have hb := hC.2.1.b
  have hH : HIS W := HIS_push hK.2.2.2.2.2.2.2.2.2.2.2.2.2.2.2 hC.2.2.2.2.1 hC.2.2.2.2.2.1 hM.2.2.2.2.2.1 hC.2.2.2.2.2.2.1 hRW hKW (e15 3) (e15 5) hK.2.2.1 hb.2.2.2.2 hK.2.2.2.2.2.1 hK.2.2.2.2.2.2.1 hK.2.2.2.2.1 hC.2.2.1 (Or.inl rfl) (fun e _ _ _ => e16 e)
  have w23 : W 23 1 = V0 23 1 := lo 23 1 (by decide)
  have w24 : ∀ k, W 24 k = V0 24 k := fun k => lo 24 k (by decide)
  have kp : 0 ≤ kpP V ∧ kpP V ≤ 9 := by
    have := hM.2.2.2.2.2.1
    unfold kpP
    split <;> omega
  refine hL.ring (fun a ha hb9 b => ?_) (fun b h0 hb9 => ?_) (by rw [w23]; exact hn16) (fun k k0 k1 => by rw [w24]; rw [w23] at k1; exact (hring k k0 k1).1) ?_ ?_ (by rw [hn]; exact hn16) (fun k k0 k1 => ?_) ?_ (by rw [w23, hn]) (fun k k0 k1 => by rw [w23] at k1; rw [w24]; exact (hring k k0 k1).2) hH
  · have h9 := rel_no ha
    simp at hb9
    have h84 : a ≠ 84 := fun z => by subst z; exact absurd ha (by decide)
    have h29 : a ≠ 29 ∧ a ≠ 30 ∧ a ≠ 31 ∧ a ≠ 32 := ⟨fun z => by subst z; exact absurd ha (by decide), fun z => by subst z; exact absurd ha (by decide), fun z => by subst z; exact absurd ha (by decide), fun z => by subst z; exact absurd ha (by decide)⟩
    rw [hm a b (by omega) (by omega) (by omega) h84, up_n _ (by omega), hf a b (by simp; omega)]
  · simp at hb9
    rw [hm5 b h0 (by omega) (by omega), v1 55 b (by decide) (by decide)]
  · rw [hRW.1]; omega
  · rw [hRW.2.1]
    have := hC.2.2.2.2.2.2.2.1
    split <;> omega
  · rw [hn] at k1
    rw [(hring k k0 k1).2, ← hK.1]
    exact (hring k k0 k1).1
  · rw [hKW.1]; omega
set_option maxHeartbeats 2000000 in
theorem cse_36 {X : Cx} {t : Int} {V : VV} {i : Int} {c s : Nat} (hX : Good X RL cL_law 9 13 466) (hR9 : LX X) (hi : 0 ≤ i ∧ i + 5 < yLn (cY X)) (hrm : c + 1 ≤ (cR X).cells ∧ s + 6 ≤ (cR X).slots) (ht9 : 0 ≤ t ∧ t ≤ 600) (hL0 : LKS t V) (hN : ∀ V', LKS (t + 1) V' → J X (GT (c + 1) (s + 6)) 2097 (ls9 i) [] V') : J X (GT c s) 1792 (ls9 i) [] V := by
  obtain ⟨q, hL⟩ := hL0
  have hC := hL.1
  have hM := hL.2.1
  have hK := hL.2.2
  have g13 : V 13 1 = V 55 1 := hC.1.2.1.trans hM.1.2.1.symm
  have hM1 : ∀ V1, V1 = V → LKM q V1 := fun V1 e => e.symm ▸ hM
  have hR1 : ∀ V1 : VV, V1 = V → ∀ k, 0 ≤ k → k < V1 55 5 → 0 ≤ V1 59 k ∧ V1 59 k < gO q := fun V1 e k k0 k1 => by
    have h9 := (hM1 V1 e).2.2.2.2.1 k k0 k1
    rw [(hM1 V1 e).1.2.1] at h9
    exact h9
  have hn5 := hK.2.2.2.2.2.1
  have h59 := hK.2.2.2.2.2.2.1
  have h3 := hC.2.2.2.1
  have hrg := hC.2.2.2.2.2.1
  have h13 : V 13 1 = V 15 3 := hC.1.2.1.trans h3.symm
  have mid : ∀ (k : Int) (V1 : VV), ((∃ x V0, ((x = V 24 (sx X (i + 1)) ∧ (0 ≤ (sx X (i + 1)) ∧ (sx X (i + 1)) < V 23 1) ∧ 0 ≤ (sx X (i + 2)) ∧ (sx X (i + 2)) < V 13 1) ∧ REC V V0 (-1) 0 ∧ (∀ j, V0 24 j = if j = (sx X (i + 1)) then (sx X (i + 2)) else V 24 j) ∧ fr [24, 33, 34, 35, 36, 37] V V0) ∧ V1 = up V0 87 0 x ∧ k = 0) ∨ ((exB = exB ∧ ¬ ((0 ≤ (sx X (i + 1)) ∧ (sx X (i + 1)) < V 23 1) ∧ 0 ≤ (sx X (i + 2)) ∧ (sx X (i + 2)) < V 13 1) ∧ V1 = V) ∧ k = 1)) → ∀ a b : Int, 55 ≤ a → a ≠ 87 → V1 a b = V a b := by
    intro k V1 hk a b h1 h2
    rcases hk with ⟨x, V0, ⟨_, _, _, hf⟩, rfl, _⟩ | ⟨⟨_, _, rfl⟩, _⟩
    · rw [up_n _ (by omega), hf a b (by simp; omega)]
    · rfl
  refine st_36 (lo9 := 130) (fr2 := 2) (lo2 := 43) hX hR9 hi hrm (by decide) (by decide) (ok_X11_set (q := q) hC.2.2.2.2.1 hC.2.2.2.2.2.2.1 hC.2.2.2.2.2.2.2.1) (fun E V' h => h.1) (fun k V1 hk => ok_X12_set ?_ ?_ ?_) (fun k V1 b V2 hk hq => ?_)
  · have e : V1 55 = V 55 := funext (fun b => mid k V1 hk 55 b (by decide) (by decide))
    unfold MO
    rw [e]
    exact hM.2.1
  · rw [mid k V1 hk 55 5 (by decide) (by decide)]; exact hM.2.2.2.1
  · rw [mid k V1 hk 55 21 (by decide) (by decide)]; exact hM.2.2.2.2.2.1
  have m := mid k V1 hk
  rw [m 55 5 (by decide) (by decide), m 55 1 (by decide) (by decide), ← hn5, ← g13] at hq
  rcases hk with ⟨x, V0, ⟨⟨rfl, hc⟩, hRC, h24, hf⟩, rfl, rfl⟩ | ⟨⟨_, hc, rfl⟩, rfl⟩
  · rcases hq with ⟨_, rfl, q0, q1, q2, q3, q4⟩ | ⟨hn, _⟩
    · have w23 : V0 23 1 = V 23 1 := hf 23 1 (by decide)
      refine ⟨q0, fun _ => by rw [q4 87 0 (by decide) (by decide) (by decide), up_s, m 59 _ (by decide) (by decide), h59 _ hc.1.1 hc.1.2], hN _ (LKS.mono ⟨q, ring_op hL (fun a b ha => hf a b (by simp at ha ⊢; omega)) hRC q1 (fun a b h1 h2 h3 _ => q4 a b h1 h2 h3) (fun b h0 _ h2 => q3 b h0 h2) ?_ ?_ (fun k k0 k1 => ?_)⟩)⟩
      · rw [q3 5 (by decide) (by decide), m 55 5 (by decide) (by decide), ← hn5, w23]
      · rw [w23]; exact hC.2.2.2.2.1
      · rw [w23] at k1
        rw [h24, q2, m 59 k (by decide) (by decide), h59 k k0 k1]
        refine ⟨?_, rfl⟩
        by_cases e : k = (sx X (i + 1))
        · rw [if_pos e, ← h13]; exact hc.2
        · rw [if_neg e]; exact hrg k k0 k1
    · exact absurd hc hn
  · rcases hq with ⟨hn, _⟩ | ⟨_, _, rfl⟩
    · exact absurd hn hc
    · exact ⟨up_s .., fun h => absurd h (by decide), hN _ (LKS.mono ⟨q, hL.u55.u55⟩)⟩
