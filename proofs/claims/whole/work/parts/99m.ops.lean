theorem pst_T {T S : Int → Int} {g N n : Int} (h : ∀ e, 0 ≤ e → e < n → S e = T e) : pst S g N n = pst T g N n := by
  funext a b a' b'
  unfold pst
  refine propext ⟨fun ⟨e, e', h1, h2, h3, h4⟩ => ⟨e, e', h1, h2, by rw [← h e h1.1 h1.2, ← h e' h2.1 h2.2]; exact h3, h4⟩, fun ⟨e, e', h1, h2, h3, h4⟩ => ⟨e, e', h1, h2, by rw [h e h1.1 h1.2, h e' h2.1 h2.2]; exact h3, h4⟩⟩
theorem pWk_T {T S : Int → Int} {g N n : Int} (h : ∀ e, 0 ≤ e → e < n → S e = T e) : ∀ k, pWk S g N n k = pWk T g N n k
  | 0 => by
    funext a b
    unfold pWk
    rw [pst_T h]
  | k + 1 => by
    funext a b
    unfold pWk
    rw [pst_T h, pWk_T h k]
theorem DI_T {T S : Int → Int} {g N n : Int} (h : ∀ e, 0 ≤ e → e < n → S e = T e) (s : Int) : DI S g N n s = DI T g N n s := by
  unfold DI
  have : pWk S g N n = pWk T g N n := funext (pWk_T h)
  rw [this]
theorem APT_T {T S : Int → Int} {g N n : Int} (h : ∀ e, 0 ≤ e → e < n → S e = T e) : APT S g N n = APT T g N n := by
  unfold APT BC
  rw [pst_T h]
theorem DI_one {T : Int → Int} {g N n s s' : Int} (h : DI T g N n s) (h' : DI T g N n s') : s = s' := by
  unfold DI at h h'
  rcases h with ⟨rfl, h⟩ | ⟨k, rfl, ⟨a, h1⟩, h2⟩ <;> rcases h' with ⟨rfl, h'⟩ | ⟨k', rfl, ⟨a', h1'⟩, h2'⟩
  · rfl
  · exact absurd h1' (h _ _)
  · exact absurd h1 (h' _ _)
  · rcases Nat.lt_trichotomy k k' with q | q | q
    · exact absurd h1 (h2' k q a)
    · rw [q]
    · exact absurd h1' (h2 k' q a')
set_option maxHeartbeats 4000000 in
theorem LKQ.pairs {t : Int} {q : Nat} {V W : VV} (h : LKQ t q V) (e : ∀ a ∈ relC, a ∉ ([38] : List Int) → ∀ b, W a b = V a b) (e5 : ∀ b : Int, b ≠ 0 → b ∉ ([] : List Int) → W 55 b = V 55 b) (w3 : W 38 3 = V 15 7) (hP : DI (V 16) (V 15 3) (V 15 6) (V 15 5) (W 38 4) ∧ ((W 38 5 = 1 ∧ W 38 4 = 0 ∧ APT (V 16) (V 15 3) (V 15 6) (V 15 5)) ∨ (W 38 5 = 0 ∧ ¬ (W 38 4 = 0 ∧ APT (V 16) (V 15 3) (V 15 6) (V 15 5))))) : LKQ t q W := by
  have f1 : W 1 = V 1 := funext (e 1 (by decide) (by decide))
  have f2 : W 2 = V 2 := funext (e 2 (by decide) (by decide))
  have f3 : W 3 = V 3 := funext (e 3 (by decide) (by decide))
  have f6 : W 6 = V 6 := funext (e 6 (by decide) (by decide))
  have f13 : W 13 = V 13 := funext (e 13 (by decide) (by decide))
  have f14 : W 14 = V 14 := funext (e 14 (by decide) (by decide))
  have f15 : W 15 = V 15 := funext (e 15 (by decide) (by decide))
  have f16 : W 16 = V 16 := funext (e 16 (by decide) (by decide))
  have f19 : W 19 = V 19 := funext (e 19 (by decide) (by decide))
  have f23 : W 23 = V 23 := funext (e 23 (by decide) (by decide))
  have f24 : W 24 = V 24 := funext (e 24 (by decide) (by decide))
  have f25 : W 25 = V 25 := funext (e 25 (by decide) (by decide))
  have f26 : W 26 = V 26 := funext (e 26 (by decide) (by decide))
  have f27 : W 27 = V 27 := funext (e 27 (by decide) (by decide))
  have f28 : W 28 = V 28 := funext (e 28 (by decide) (by decide))
  have f33 : W 33 = V 33 := funext (e 33 (by decide) (by decide))
  have f34 : W 34 = V 34 := funext (e 34 (by decide) (by decide))
  have f35 : W 35 = V 35 := funext (e 35 (by decide) (by decide))
  have f36 : W 36 = V 36 := funext (e 36 (by decide) (by decide))
  have f37 : W 37 = V 37 := funext (e 37 (by decide) (by decide))
  have f42 : W 42 = V 42 := funext (e 42 (by decide) (by decide))
  have f43 : W 43 = V 43 := funext (e 43 (by decide) (by decide))
  have f44 : W 44 = V 44 := funext (e 44 (by decide) (by decide))
  have f47 : W 47 = V 47 := funext (e 47 (by decide) (by decide))
  have f48 : W 48 = V 48 := funext (e 48 (by decide) (by decide))
  have f56 : W 56 = V 56 := funext (e 56 (by decide) (by decide))
  have f57 : W 57 = V 57 := funext (e 57 (by decide) (by decide))
  have f58 : W 58 = V 58 := funext (e 58 (by decide) (by decide))
  have f59 : W 59 = V 59 := funext (e 59 (by decide) (by decide))
  have f65 : W 65 = V 65 := funext (e 65 (by decide) (by decide))
  have f66 : W 66 = V 66 := funext (e 66 (by decide) (by decide))
  have f67 : W 67 = V 67 := funext (e 67 (by decide) (by decide))
  have f68 : W 68 = V 68 := funext (e 68 (by decide) (by decide))
  have f74 : W 74 = V 74 := funext (e 74 (by decide) (by decide))
  have f77 : W 77 = V 77 := funext (e 77 (by decide) (by decide))
  have g1 := e5 1 (by decide) (by decide)
  have g2 := e5 2 (by decide) (by decide)
  have g3 := e5 3 (by decide) (by decide)
  have g4 := e5 4 (by decide) (by decide)
  have g5 := e5 5 (by decide) (by decide)
  have g10 := e5 10 (by decide) (by decide)
  have g21 := e5 21 (by decide) (by decide)
  have g23 := e5 23 (by decide) (by decide)
  have g28 := e5 28 (by decide) (by decide)
  have g29 := e5 29 (by decide) (by decide)
  have g30 := e5 30 (by decide) (by decide)
  have g38 := e5 38 (by decide) (by decide)
  have g39 := e5 39 (by decide) (by decide)
  have g40 := e5 40 (by decide) (by decide)
  have g45 := e5 45 (by decide) (by decide)
  have g46 := e5 46 (by decide) (by decide)
  clear e e5
  obtain ⟨hC, hM, hN⟩ := h
  refine ⟨?_, ?_, ?_⟩
  · unfold LKC PKC IKC BKC SLC GP RO TR TB IVP BASP OG at hC ⊢
    simp only [Int.reduceAdd, f2, f3, f6, f13, f14, f15, f16, f19, f23, f24, f25, f26, f27, f28, f33, f42, f43, f44, f47, f48] at hC ⊢
    obtain ⟨c1, c2, c3, c4, c5, c6, c7, c8, c9, c10, c11, c12, ⟨_, c13⟩, _, c15⟩ := hC
    exact ⟨c1, c2, c3, c4, c5, c6, c7, c8, c9, c10, c11, c12, ⟨by rw [w3]; exact Int.le_refl _, c13⟩, fun _ => hP, c15⟩
  · unfold LKM IKM BKM MG MO TRM MIV MBP at hM ⊢
    simp only [f56, f57, f58, f59, f68, f74, f77, g1, g2, g3, g4, g5, g10, g21, g23, g28, g38, g39, g40, g45, g46] at hM ⊢
    exact hM
  · unfold LNK HIS hix hrw at hN ⊢
    simp only [f1, f2, f3, f15, f16, f23, f24, f25, f26, f27, f28, f33, f34, f35, f36, f37, f58, f59, f65, f66, f67, f68, g1, g2, g3, g4, g5, g21, g23, g29, g30] at hN ⊢
    exact hN
theorem LKQ.pr {t : Int} {q : Nat} {V W : VV} (h : LKQ t q V) (w3 : W 38 3 = V 15 7) (hP : DI (V 16) (V 15 3) (V 15 6) (V 15 5) (W 38 4) ∧ ((W 38 5 = 1 ∧ W 38 4 = 0 ∧ APT (V 16) (V 15 3) (V 15 6) (V 15 5)) ∨ (W 38 5 = 0 ∧ ¬ (W 38 4 = 0 ∧ APT (V 16) (V 15 3) (V 15 6) (V 15 5))))) (hf : fr [17, 18, 38, 39, 40, 41] V W) : LKQ t q W := h.pairs (fun a ha hb b => by
  have := rel_54 ha
  have h39 : a ≠ 39 ∧ a ≠ 40 ∧ a ≠ 41 := by
    unfold relC at ha
    simp only [List.mem_cons, List.not_mem_nil, or_false] at ha
    omega
  simp at hb
  exact hf a b (by simp; omega)) (fun b _ _ => hf 55 b (by decide)) w3 hP
set_option maxHeartbeats 2000000 in
theorem cse_17 {X : Cx} {t : Int} {V : VV} {i : Int} {c s : Nat} (hX : Good X RL cL_law 9 13 466) (hR9 : LX X) (hi : 0 ≤ i ∧ i + 5 < yLn (cY X)) (hrm : c + 1 ≤ (cR X).cells ∧ s + 6 ≤ (cR X).slots) (ht9 : 0 ≤ t ∧ t ≤ 600) (hL0 : LKS t V) (hN : ∀ V', LKS (t + 1) V' → J X (GT (c + 1) (s + 6)) 2097 (ls9 i) [] V') : J X (GT c s) 980 (ls9 i) [] V := by
  obtain ⟨q, hL⟩ := hL0
  have hC := hL.1
  have hM := hL.2.1
  have hK := hL.2.2
  have g13 : V 13 1 = V 55 1 := hC.1.2.1.trans hM.1.2.1.symm
  have hM1 : ∀ V1, V1 = V → LKM q V1 := fun V1 e => e.symm ▸ hM
  have hR1 : ∀ V1 : VV, V1 = V → ∀ k, 0 ≤ k → k < V1 55 5 → 0 ≤ V1 59 k ∧ V1 59 k < gO q := fun V1 e k k0 k1 => by
    have h9 := (hM1 V1 e).2.2.2.2.1 k k0 k1
    rw [(hM1 V1 e).1.2.1] at h9
    exact h9
  have hn5 := hK.2.2.2.2.2.1
  have h59 := hK.2.2.2.2.2.2.1
  have h3 := hC.2.2.2.1
  have hrg := hC.2.2.2.2.2.1
  have h13 : V 13 1 = V 15 3 := hC.1.2.1.trans h3.symm
  have t58 := hK.2.2.2.2.1
  have md : ∀ V1 : VV, fr [17, 18, 38, 39, 40, 41] V V1 → ∀ a b : Int, 55 ≤ a → V1 a b = V a b := fun V1 hf a b h1 => hf a b (by simp; omega)
  refine st_17 (fr1 := 6) (lo1 := 138) (fr2 := 2) (lo2 := 49) hX hR9 hi (by decide) (by decide) (ok_X11_isSurjective hC.2.1 hC.2.2.1 hC.2.2.2.2.2.2.2.2.2.2.2.2.2.1) (fun x V1 h1 => ok_X12_isSurjective (hM.2.1.of (fun b => md V1 h1.2.2.2.2 55 b (by decide)))) (fun x V1 y V2 h1 h2 => ?_)
  obtain ⟨rfl, h38, hD, hP, hf⟩ := h1
  obtain ⟨⟨s9, hs, rfl⟩, hf2⟩ := h2
  rw [md V1 hf 55 1 (by decide), md V1 hf 55 4 (by decide), md V1 hf 55 3 (by decide), ← hK.1, ← hK.2.2.1, ← hK.2.2.2.1, DI_T (T := V 16) (fun e e0 e1 => (md V1 hf 58 e (by decide)).trans (t58 e e0 e1))] at hs
  refine ⟨by rw [DI_one hD hs], j_wid (Nat.le_succ _) (Nat.le_add_right _ _) hrm (hN _ (LKS.mono ⟨q, ((hL.pr h38 ⟨hD, hP⟩ hf).u55 (k := 0)).frM (hf2.le (by decide))⟩))⟩
set_option maxHeartbeats 2000000 in
theorem cse_18 {X : Cx} {t : Int} {V : VV} {i : Int} {c s : Nat} (hX : Good X RL cL_law 9 13 466) (hR9 : LX X) (hi : 0 ≤ i ∧ i + 5 < yLn (cY X)) (hrm : c + 1 ≤ (cR X).cells ∧ s + 6 ≤ (cR X).slots) (ht9 : 0 ≤ t ∧ t ≤ 600) (hL0 : LKS t V) (hN : ∀ V', LKS (t + 1) V' → J X (GT (c + 1) (s + 6)) 2097 (ls9 i) [] V') : J X (GT c s) 993 (ls9 i) [] V := by
  obtain ⟨q, hL⟩ := hL0
  have hC := hL.1
  have hM := hL.2.1
  have hK := hL.2.2
  have g13 : V 13 1 = V 55 1 := hC.1.2.1.trans hM.1.2.1.symm
  have hM1 : ∀ V1, V1 = V → LKM q V1 := fun V1 e => e.symm ▸ hM
  have hR1 : ∀ V1 : VV, V1 = V → ∀ k, 0 ≤ k → k < V1 55 5 → 0 ≤ V1 59 k ∧ V1 59 k < gO q := fun V1 e k k0 k1 => by
    have h9 := (hM1 V1 e).2.2.2.2.1 k k0 k1
    rw [(hM1 V1 e).1.2.1] at h9
    exact h9
  have hn5 := hK.2.2.2.2.2.1
  have h59 := hK.2.2.2.2.2.2.1
  have h3 := hC.2.2.2.1
  have hrg := hC.2.2.2.2.2.1
  have h13 : V 13 1 = V 15 3 := hC.1.2.1.trans h3.symm
  have t58 := hK.2.2.2.2.1
  have md : ∀ V1 : VV, fr [17, 18, 38, 39, 40, 41] V V1 → ∀ a b : Int, 55 ≤ a → V1 a b = V a b := fun V1 hf a b h1 => hf a b (by simp; omega)
  refine st_18 (fr1 := 6) (lo1 := 138) (fr2 := 3) (lo2 := 70) hX hR9 hi (by decide) (by decide) (ok_X11_isInjective hC.2.1 hC.2.2.1 hC.2.2.2.2.2.2.2.2.2.2.2.2.2.1) (fun x V1 h1 => ok_X12_isInjective (hM.2.1.of (fun b => md V1 h1.2.2.2.2 55 b (by decide)))) (fun x V1 y V2 h1 h2 => ?_)
  obtain ⟨rfl, h38, hD, hP, hf⟩ := h1
  obtain ⟨hs, hf2⟩ := h2
  rw [md V1 hf 55 1 (by decide), md V1 hf 55 4 (by decide), md V1 hf 55 3 (by decide), ← hK.1, ← hK.2.2.1, ← hK.2.2.2.1, APT_T (T := V 16) (fun e e0 e1 => (md V1 hf 58 e (by decide)).trans (t58 e e0 e1))] at hs
  have hb := hC.2.1.b
  refine ⟨?_, j_wid (Nat.le_succ _) (Nat.le_add_right _ _) hrm (hN _ (LKS.mono ⟨q, ((hL.pr h38 ⟨hD, hP⟩ hf).u55 (k := 0)).frM (hf2.le (by decide))⟩))⟩
  rcases hs with ⟨rfl, ha⟩ | ⟨rfl, ha⟩
  · have h0 := APT_DI (by omega) (by omega) hC.2.1.n ha hD
    rcases hP with ⟨h1, _⟩ | ⟨_, h2⟩
    · exact h1
    · exact absurd ⟨h0, ha⟩ h2
  · rcases hP with ⟨_, _, h2⟩ | ⟨h1, _⟩
    · exact absurd h2 ha
    · exact h1
set_option maxHeartbeats 2000000 in
theorem cse_19 {X : Cx} {t : Int} {V : VV} {i : Int} {c s : Nat} (hX : Good X RL cL_law 9 13 466) (hR9 : LX X) (hi : 0 ≤ i ∧ i + 5 < yLn (cY X)) (hrm : c + 1 ≤ (cR X).cells ∧ s + 6 ≤ (cR X).slots) (ht9 : 0 ≤ t ∧ t ≤ 600) (hL0 : LKS t V) (hN : ∀ V', LKS (t + 1) V' → J X (GT (c + 1) (s + 6)) 2097 (ls9 i) [] V') : J X (GT c s) 1006 (ls9 i) [] V := by
  obtain ⟨q, hL⟩ := hL0
  have hC := hL.1
  have hM := hL.2.1
  have hK := hL.2.2
  have g13 : V 13 1 = V 55 1 := hC.1.2.1.trans hM.1.2.1.symm
  have hM1 : ∀ V1, V1 = V → LKM q V1 := fun V1 e => e.symm ▸ hM
  have hR1 : ∀ V1 : VV, V1 = V → ∀ k, 0 ≤ k → k < V1 55 5 → 0 ≤ V1 59 k ∧ V1 59 k < gO q := fun V1 e k k0 k1 => by
    have h9 := (hM1 V1 e).2.2.2.2.1 k k0 k1
    rw [(hM1 V1 e).1.2.1] at h9
    exact h9
  have hn5 := hK.2.2.2.2.2.1
  have h59 := hK.2.2.2.2.2.2.1
  have h3 := hC.2.2.2.1
  have hrg := hC.2.2.2.2.2.1
  have h13 : V 13 1 = V 15 3 := hC.1.2.1.trans h3.symm
  have t58 := hK.2.2.2.2.1
  refine st_19 (lo9 := 138) (fr2 := 2) (lo2 := 49) hX hR9 hi hrm (by decide) (by decide) (ok_X11_diamond hC.2.1 hC.2.2.1 hC.2.2.2.2.2.2.2.2.2.2.2.2.2.1) (fun E V' h => h.1) (fun k V1 hk => ok_X12_diamond ?_) (fun k V1 b V2 hk hq => ?_)
  · have m : ∀ a b : Int, 55 ≤ a → a ≠ 87 → V1 a b = V a b := fun a b h1 h2 => by
      rcases hk with ⟨x, V0, ⟨_, _, _, _, hf⟩, rfl, _⟩ | ⟨⟨_, _, _, _, _, hf⟩, _⟩
      · rw [up_n _ (by omega), hf a b (by simp; omega)]
      · exact hf a b (by simp; omega)
    exact hM.2.1.of (fun b => m 55 b (by decide) (by decide))
  · have m : ∀ a b : Int, 55 ≤ a → a ≠ 87 → V1 a b = V a b := fun a b h1 h2 => by
      rcases hk with ⟨x, V0, ⟨_, _, _, _, hf⟩, rfl, _⟩ | ⟨⟨_, _, _, _, _, hf⟩, _⟩
      · rw [up_n _ (by omega), hf a b (by simp; omega)]
      · exact hf a b (by simp; omega)
    obtain ⟨s9, hs, hq⟩ := hq
    rw [m 55 1 (by decide) (by decide), m 55 4 (by decide) (by decide), m 55 3 (by decide) (by decide), ← hK.1, ← hK.2.2.1, ← hK.2.2.2.1, DI_T (T := V 16) (fun e e0 e1 => (m 58 e (by decide) (by decide)).trans (t58 e e0 e1))] at hs
    rcases hk with ⟨x, V0, ⟨⟨rfl, hn0⟩, h38, hD, hP, hf⟩, rfl, rfl⟩ | ⟨⟨_, h0, h38, hD, hP, hf⟩, rfl⟩
    · have e := DI_one hD hs
      rcases hq with ⟨_, rfl, hf2⟩ | ⟨hz, _⟩
      · exact ⟨by rw [hf2 55 0 (by decide)]; exact up_s .., fun _ => by rw [hf2 87 0 (by decide), up_n _ (by omega), up_s, e], hN _ (LKS.mono ⟨q, ((hL.pr h38 ⟨hD, hP⟩ hf).u87.u55 (k := 0)).frM (hf2.le (by decide))⟩)⟩
      · exact absurd (e.trans hz) hn0
    · have e := DI_one hD hs
      rcases hq with ⟨hz, _⟩ | ⟨_, _, hf2⟩
      · exact absurd (e.symm.trans h0) hz
      · exact ⟨by rw [hf2 55 0 (by decide)]; exact up_s .., fun h => absurd h (by decide), hN _ (LKS.mono ⟨q, ((hL.pr h38 ⟨hD, hP⟩ hf).u55.u55 (k := 1)).frM (hf2.le (by decide))⟩)⟩
