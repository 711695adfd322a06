set_option maxHeartbeats 4000000 in
theorem LKQ.r59 {t : Int} {q : Nat} {V W : VV} (h : LKQ t q V) (e : ∀ a ∈ relC, a ∉ ([59] : List Int) → ∀ b, W a b = V a b) (e5 : ∀ b : Int, b ≠ 0 → b ∉ ([] : List Int) → W 55 b = V 55 b) (mr : ∀ k, 0 ≤ k → k < V 55 5 → 0 ≤ W 59 k ∧ W 59 k < V 55 1) (n7 : ∀ k, 0 ≤ k → k < V 23 1 → W 59 k = V 24 k) : LKQ t q W := by
  have f1 : W 1 = V 1 := funext (e 1 (by decide) (by decide))
  have f2 : W 2 = V 2 := funext (e 2 (by decide) (by decide))
  have f3 : W 3 = V 3 := funext (e 3 (by decide) (by decide))
  have f6 : W 6 = V 6 := funext (e 6 (by decide) (by decide))
  have f13 : W 13 = V 13 := funext (e 13 (by decide) (by decide))
  have f14 : W 14 = V 14 := funext (e 14 (by decide) (by decide))
  have f15 : W 15 = V 15 := funext (e 15 (by decide) (by decide))
  have f16 : W 16 = V 16 := funext (e 16 (by decide) (by decide))
  have f19 : W 19 = V 19 := funext (e 19 (by decide) (by decide))
  have f23 : W 23 = V 23 := funext (e 23 (by decide) (by decide))
  have f24 : W 24 = V 24 := funext (e 24 (by decide) (by decide))
  have f25 : W 25 = V 25 := funext (e 25 (by decide) (by decide))
  have f26 : W 26 = V 26 := funext (e 26 (by decide) (by decide))
  have f27 : W 27 = V 27 := funext (e 27 (by decide) (by decide))
  have f28 : W 28 = V 28 := funext (e 28 (by decide) (by decide))
  have f33 : W 33 = V 33 := funext (e 33 (by decide) (by decide))
  have f34 : W 34 = V 34 := funext (e 34 (by decide) (by decide))
  have f35 : W 35 = V 35 := funext (e 35 (by decide) (by decide))
  have f36 : W 36 = V 36 := funext (e 36 (by decide) (by decide))
  have f37 : W 37 = V 37 := funext (e 37 (by decide) (by decide))
  have f38 : W 38 = V 38 := funext (e 38 (by decide) (by decide))
  have f42 : W 42 = V 42 := funext (e 42 (by decide) (by decide))
  have f43 : W 43 = V 43 := funext (e 43 (by decide) (by decide))
  have f44 : W 44 = V 44 := funext (e 44 (by decide) (by decide))
  have f47 : W 47 = V 47 := funext (e 47 (by decide) (by decide))
  have f48 : W 48 = V 48 := funext (e 48 (by decide) (by decide))
  have f56 : W 56 = V 56 := funext (e 56 (by decide) (by decide))
  have f57 : W 57 = V 57 := funext (e 57 (by decide) (by decide))
  have f58 : W 58 = V 58 := funext (e 58 (by decide) (by decide))
  have f65 : W 65 = V 65 := funext (e 65 (by decide) (by decide))
  have f66 : W 66 = V 66 := funext (e 66 (by decide) (by decide))
  have f67 : W 67 = V 67 := funext (e 67 (by decide) (by decide))
  have f68 : W 68 = V 68 := funext (e 68 (by decide) (by decide))
  have f74 : W 74 = V 74 := funext (e 74 (by decide) (by decide))
  have f77 : W 77 = V 77 := funext (e 77 (by decide) (by decide))
  have g1 := e5 1 (by decide) (by decide)
  have g2 := e5 2 (by decide) (by decide)
  have g3 := e5 3 (by decide) (by decide)
  have g4 := e5 4 (by decide) (by decide)
  have g5 := e5 5 (by decide) (by decide)
  have g10 := e5 10 (by decide) (by decide)
  have g21 := e5 21 (by decide) (by decide)
  have g23 := e5 23 (by decide) (by decide)
  have g28 := e5 28 (by decide) (by decide)
  have g29 := e5 29 (by decide) (by decide)
  have g30 := e5 30 (by decide) (by decide)
  have g38 := e5 38 (by decide) (by decide)
  have g39 := e5 39 (by decide) (by decide)
  have g40 := e5 40 (by decide) (by decide)
  have g45 := e5 45 (by decide) (by decide)
  have g46 := e5 46 (by decide) (by decide)
  clear e e5
  obtain ⟨hC, hM, hN⟩ := h
  refine ⟨?_, ?_, ?_⟩
  · unfold LKC PKC IKC BKC SLC GP RO TR TB IVP BASP OG at hC ⊢
    simp only [Int.reduceAdd, f2, f3, f6, f13, f14, f15, f16, f19, f23, f24, f25, f26, f27, f28, f33, f38, f42, f43, f44, f47, f48] at hC ⊢
    exact hC
  · unfold LKM IKM BKM MG MO TRM MIV MBP at hM ⊢
    simp only [f56, f57, f58, f68, f74, f77, g1, g2, g3, g4, g5, g10, g21, g23, g28, g38, g39, g40, g45, g46] at hM ⊢
    obtain ⟨p1, p2, p3, p4, _, p6⟩ := hM
    exact ⟨p1, p2, p3, p4, mr, p6⟩
  · unfold LNK HIS hix hrw at hN ⊢
    simp only [f1, f2, f3, f15, f16, f23, f24, f25, f26, f27, f28, f33, f34, f35, f36, f37, f58, f65, f66, f67, f68, g1, g2, g3, g4, g5, g21, g23, g29, g30] at hN ⊢
    obtain ⟨q1, q2, q3, q4, q5, q6, _, q8⟩ := hN
    exact ⟨q1, q2, q3, q4, q5, q6, n7, q8⟩
theorem rel_54 {a : Int} (ha : a ∈ relC) : a ≠ 17 ∧ a ≠ 18 ∧ a ≠ 29 ∧ a ≠ 30 ∧ a ≠ 31 ∧ a ≠ 32 ∧ a ≠ 50 ∧ a ≠ 51 ∧ a ≠ 52 ∧ a ≠ 53 ∧ a ≠ 54 := by
  unfold relC at ha
  simp only [List.mem_cons, List.not_mem_nil, or_false] at ha
  omega
theorem rel_86 {a : Int} (ha : a ∈ relC) : a ≠ 69 ∧ a ≠ 70 ∧ a ≠ 71 ∧ a ≠ 72 ∧ a ≠ 79 ∧ a ≠ 80 ∧ a ≠ 81 ∧ a ≠ 82 ∧ a ≠ 83 ∧ a ≠ 84 ∧ a ≠ 85 ∧ a ≠ 86 := by
  unfold relC at ha
  simp only [List.mem_cons, List.not_mem_nil, or_false] at ha
  omega
theorem LKQ.frC {t : Int} {q : Nat} {V W : VV} (h : LKQ t q V) (hf : fr [17, 18, 29, 30, 31, 32, 50, 51, 52, 53, 54] V W) : LKQ t q W := h.irr (fun a ha b => hf a b (by have := rel_54 ha; simp; omega)) (fun b _ => hf 55 b (by decide))
theorem LKQ.frM {t : Int} {q : Nat} {V W : VV} (h : LKQ t q V) (hf : fr [69, 70, 71, 72, 79, 80, 81, 82, 83, 84, 85, 86] V W) : LKQ t q W := h.irr (fun a ha b => hf a b (by have := rel_86 ha; simp; omega)) (fun b _ => hf 55 b (by decide))
theorem fr.le {l m : List Int} {V W : VV} (h : fr l V W) (e : ∀ a ∈ l, a ∈ m) : fr m V W := fun a b ha => h a b (fun z => ha (e a z))
set_option maxHeartbeats 2000000 in
theorem cse_31 {X : Cx} {t : Int} {V : VV} {i : Int} {c s : Nat} (hX : Good X RL cL_law 9 13 466) (hR9 : LX X) (hi : 0 ≤ i ∧ i + 5 < yLn (cY X)) (hrm : c + 1 ≤ (cR X).cells ∧ s + 6 ≤ (cR X).slots) (ht9 : 0 ≤ t ∧ t ≤ 600) (hL0 : LKS t V) (hN : ∀ V', LKS (t + 1) V' → J X (GT (c + 1) (s + 6)) 2097 (ls9 i) [] V') : J X (GT c s) 1514 (ls9 i) [] V := by
  obtain ⟨q, hL⟩ := hL0
  have hC := hL.1
  have hM := hL.2.1
  have hK := hL.2.2
  have g13 : V 13 1 = V 55 1 := hC.1.2.1.trans hM.1.2.1.symm
  have hM1 : ∀ V1, V1 = V → LKM q V1 := fun V1 e => e.symm ▸ hM
  have hR1 : ∀ V1 : VV, V1 = V → ∀ k, 0 ≤ k → k < V1 55 5 → 0 ≤ V1 59 k ∧ V1 59 k < gO q := fun V1 e k k0 k1 => by
    have h9 := (hM1 V1 e).2.2.2.2.1 k k0 k1
    rw [(hM1 V1 e).1.2.1] at h9
    exact h9
  have hn5 := hK.2.2.2.2.2.1
  have h59 := hK.2.2.2.2.2.2.1
  have h3 := hC.2.2.2.1
  have hrg := hC.2.2.2.2.2.1
  have h13 : V 13 1 = V 15 3 := hC.1.2.1.trans h3.symm
  have hn16 := hC.2.2.2.2.1
  refine st_31 (lo9 := 130) (fr2 := 1) (lo2 := 23) hX hR9 hi hrm (by decide) (by decide) (ok_X11_cycle hC.2.1 hC.2.2.1 hC.2.2.2.2.1 hC.2.2.2.2.2.1) (fun E V' h => h.elim (fun z => Or.inl z.1) (fun z => Or.inr z.1)) (fun k V1 hk => ok_X12_cycle ?_ ?_ ?_ ?_) (fun k V1 b V2 hk hq => ?_)
  · have m : ∀ a b : Int, 55 ≤ a → a ≠ 87 → V1 a b = V a b := fun a b h1 h2 => by
      rcases hk with ⟨x, V0, ⟨_, hf⟩, rfl, _⟩ | ⟨⟨_, _, rfl⟩ | ⟨_, _, hf⟩, _⟩ | ⟨⟨_, _, rfl⟩ | ⟨_, _, hf⟩, _⟩
      · rw [up_n _ (by omega), hf a b (by simp; omega)]
      · rfl
      · rw [hf a b (by simp; omega)]
      · rfl
      · rw [hf a b (by simp; omega)]
    exact hM.2.1.of (fun b => m 55 b (by decide) (by decide))
  · have m : ∀ a b : Int, 55 ≤ a → a ≠ 87 → V1 a b = V a b := fun a b h1 h2 => by
      rcases hk with ⟨x, V0, ⟨_, hf⟩, rfl, _⟩ | ⟨⟨_, _, rfl⟩ | ⟨_, _, hf⟩, _⟩ | ⟨⟨_, _, rfl⟩ | ⟨_, _, hf⟩, _⟩
      · rw [up_n _ (by omega), hf a b (by simp; omega)]
      · rfl
      · rw [hf a b (by simp; omega)]
      · rfl
      · rw [hf a b (by simp; omega)]
    have e55 : V1 55 = V 55 := funext (fun b => m 55 b (by decide) (by decide))
    have e58 : V1 58 = V 58 := funext (fun b => m 58 b (by decide) (by decide))
    have := hM.2.2.1
    unfold TRM at this ⊢
    rw [e55, e58]
    exact this
  · have m : ∀ a b : Int, 55 ≤ a → a ≠ 87 → V1 a b = V a b := fun a b h1 h2 => by
      rcases hk with ⟨x, V0, ⟨_, hf⟩, rfl, _⟩ | ⟨⟨_, _, rfl⟩ | ⟨_, _, hf⟩, _⟩ | ⟨⟨_, _, rfl⟩ | ⟨_, _, hf⟩, _⟩
      · rw [up_n _ (by omega), hf a b (by simp; omega)]
      · rfl
      · rw [hf a b (by simp; omega)]
      · rfl
      · rw [hf a b (by simp; omega)]
    rw [m 55 5 (by decide) (by decide)]; exact hM.2.2.2.1
  · have m : ∀ a b : Int, 55 ≤ a → a ≠ 87 → V1 a b = V a b := fun a b h1 h2 => by
      rcases hk with ⟨x, V0, ⟨_, hf⟩, rfl, _⟩ | ⟨⟨_, _, rfl⟩ | ⟨_, _, hf⟩, _⟩ | ⟨⟨_, _, rfl⟩ | ⟨_, _, hf⟩, _⟩
      · rw [up_n _ (by omega), hf a b (by simp; omega)]
      · rfl
      · rw [hf a b (by simp; omega)]
      · rfl
      · rw [hf a b (by simp; omega)]
    intro k k0 k1
    rw [m 55 5 (by decide) (by decide)] at k1
    rw [m 59 k (by decide) (by decide), m 55 1 (by decide) (by decide)]
    exact hM.2.2.2.2.1 k k0 k1
  · have m : ∀ a b : Int, 55 ≤ a → a ≠ 87 → V1 a b = V a b := fun a b h1 h2 => by
      rcases hk with ⟨x, V0, ⟨_, hf⟩, rfl, _⟩ | ⟨⟨_, _, rfl⟩ | ⟨_, _, hf⟩, _⟩ | ⟨⟨_, _, rfl⟩ | ⟨_, _, hf⟩, _⟩
      · rw [up_n _ (by omega), hf a b (by simp; omega)]
      · rfl
      · rw [hf a b (by simp; omega)]
      · rfl
      · rw [hf a b (by simp; omega)]
    have t58 : ∀ e, 0 ≤ e → e < V 15 5 → V1 58 e = V 16 e := fun e e0 e1 => (m 58 e (by decide) (by decide)).trans (hK.2.2.2.2.1 e e0 e1)
    have r59 : ∀ k, 0 ≤ k → k < V 23 1 → V1 59 k = V 24 k := fun k k0 k1 => (m 59 k (by decide) (by decide)).trans (h59 k k0 k1)
    rw [m 55 5 (by decide) (by decide), m 55 1 (by decide) (by decide), m 55 2 (by decide) (by decide), ← hn5, ← hK.1, ← hK.2.1, EQO_T hC.2.1 hC.2.2.1 t58 hn16.1 hrg r59] at hq
    have hL1 : LKQ t q V1 := by
      rcases hk with ⟨x, V0, ⟨_, hf⟩, rfl, _⟩ | ⟨⟨_, _, rfl⟩ | ⟨_, _, hf⟩, _⟩ | ⟨⟨_, _, rfl⟩ | ⟨_, _, hf⟩, _⟩
      · exact (hL.frC (hf.le (by decide))).u87
      · exact hL
      · exact hL.frC (hf.le (by decide))
      · exact hL
      · exact hL.frC (hf.le (by decide))
    have fin : ∀ (z : Int) (U : VV), LKQ t q U → (∀ k, 0 ≤ k → k < V 23 1 → V2 59 k = U 59 k) → U 23 1 = V 23 1 → fr [59, 84, 85, 86] U V2 → LKQ t q V2 := fun z U hU h5 hn3 hf => by
      have u5 := hU.2.2.2.2.2.2.2.1
      refine hU.r59 (fun a ha hb b => ?_) (fun b _ _ => hf 55 b (by decide)) (fun k k0 k1 => ?_) (fun k k0 k1 => ?_)
      · have := rel_86 ha
        simp at hb
        exact hf a b (by simp; omega)
      · rw [h5 k k0 (by rw [← hn3, u5]; exact k1)]
        exact hU.2.1.2.2.2.2.1 k k0 k1
      · rw [h5 k k0 (by rw [← hn3]; exact k1)]
        exact hU.2.2.2.2.2.2.2.2.1 k k0 k1
    have n1 : V1 23 1 = V 23 1 := by
      rcases hk with ⟨x, V0, ⟨_, hf⟩, rfl, _⟩ | ⟨⟨_, _, rfl⟩ | ⟨_, _, hf⟩, _⟩ | ⟨⟨_, _, rfl⟩ | ⟨_, _, hf⟩, _⟩
      · rw [up_n _ (by omega)]; exact hf 23 1 (by decide)
      · rfl
      · exact hf 23 1 (by decide)
      · rfl
      · exact hf 23 1 (by decide)
    rcases hq with ⟨qc, ⟨s9, p9, hcy, rfl⟩, q59, qf⟩ | ⟨qc, rfl, rfl⟩ | ⟨qc, qn, rfl, q59, qf⟩
    · have hW := fin 0 _ (hL1.u55 (k := 0)) (fun k k0 k1 => by rw [q59 k k0 k1, up_n _ (by omega)]) (by rw [up_n _ (by omega)]; exact n1) qf
      rcases hk with ⟨x, V0, ⟨⟨hx, hcy2⟩, hf⟩, rfl, rfl⟩ | ⟨⟨_, hc, rfl⟩ | ⟨hc, _⟩, rfl⟩ | ⟨⟨hc, _⟩ | ⟨_, ⟨_, hc⟩, hf⟩, rfl⟩
      · refine ⟨by rw [qf 55 0 (by decide)]; exact up_s .., fun _ => ?_, hN _ (LKS.mono ⟨q, hW⟩)⟩
        obtain ⟨u1, u2⟩ := CYS_u (EQO_det hn16.1) hcy2 hcy
        rw [qf 87 0 (by decide), up_n _ (by omega), up_s]
        rcases hx with ⟨h0, h1⟩ | ⟨h0, h1⟩
        · rw [if_pos h0, h1, u1]
        · rw [if_neg (by omega), h1, u2]
      · exact absurd qc hc
      · exact absurd hc (by decide)
      · exact absurd hc (by decide)
      · exact (CYS_N hcy hc).elim
    · rcases hk with ⟨x, V0, ⟨⟨hx, hcy2⟩, hf⟩, rfl, rfl⟩ | ⟨⟨_, hc, rfl⟩ | ⟨hc, _⟩, rfl⟩ | ⟨⟨hc, _⟩ | ⟨_, ⟨hc, _⟩, hf⟩, rfl⟩
      · exact absurd (by omega) qc
      · exact ⟨up_s .., fun h => absurd h (by decide), hN _ (LKS.mono ⟨q, hL.u55.u55⟩)⟩
      · exact absurd hc (by decide)
      · exact absurd hc (by decide)
      · exact absurd hc qc
    · have hW := fin 0 _ ((hL1.u55 (k := 0)).u55 (k := 2)) (fun k k0 k1 => by rw [q59 k k0 k1, up_n _ (by omega), up_n _ (by omega)]) (by rw [up_n _ (by omega), up_n _ (by omega)]; exact n1) qf
      rcases hk with ⟨x, V0, ⟨⟨hx, hcy2⟩, hf⟩, rfl, rfl⟩ | ⟨⟨_, hc, rfl⟩ | ⟨hc, _⟩, rfl⟩ | ⟨⟨hc, _⟩ | ⟨_, ⟨_, hc⟩, hf⟩, rfl⟩
      · exact (CYS_N hcy2 qn).elim
      · exact absurd qc hc
      · exact absurd hc (by decide)
      · exact absurd hc (by decide)
      · exact ⟨by rw [qf 55 0 (by decide)]; exact up_s .., fun h => absurd h (by decide), hN _ (LKS.mono ⟨q, hW⟩)⟩
