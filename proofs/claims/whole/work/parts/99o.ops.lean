theorem GEN_T {T S : Int → Int} {g N n : Int} (hg : 1 ≤ g) (hN : 1 ≤ N) (h : ∀ e, 0 ≤ e → e < n → S e = T e) : GEN S g N n = GEN T g N n := by
  have key : ∀ e, 0 ≤ e → e < n → eqV S g N e = eqV T g N e := fun e e0 e1 => by
    have d : ∀ a : Int, 0 ≤ a → 0 ≤ a / g ∧ a / g ≤ a := fun a ha => ⟨Int.ediv_nonneg ha (by omega), Int.ediv_le_self _ ha⟩
    have m0 := Int.emod_nonneg e (show N ≠ 0 by omega)
    have m1 : e % N ≤ e := by
      by_cases q : e < N
      · rw [Int.emod_eq_of_lt e0 q]; exact Int.le_refl _
      · have := Int.emod_lt_of_pos e (show 0 < N by omega)
        omega
    have d1 := d e e0
    have d2 := d (e / g) d1.1
    have d3 := d (e % N) m0
    unfold eqV
    rw [h e e0 e1, h (e / g) d1.1 (by omega), h (e / g / g) d2.1 (by omega), h (e % N) m0 (by omega), h (e % N / g) d3.1 (by omega)]
  funext u
  unfold GEN
  exact propext ⟨fun ⟨e, e0, e1, e2⟩ => ⟨e, e0, e1, by rw [← key e e0 e1]; exact e2⟩, fun ⟨e, e0, e1, e2⟩ => ⟨e, e0, e1, by rw [key e e0 e1]; exact e2⟩⟩
theorem bas_eq {V V1 W : VV} {S : Int → Int} (ho : RO V 15) (hS : ∀ e, 0 ≤ e → e < V 15 5 → S e = V 16 e) (h : BASP V1 (V 16) (V 15 3) (V 15 6) (V 15 5)) (h' : MBP W S (V 15 3) (V 15 6) (V 15 5)) : V1 44 6 = W 55 46 ∧ ∀ r, 0 ≤ r → r < V1 44 6 → ∀ x, 0 ≤ x → x < V 15 3 → V1 47 (r * 6 + x) = W 77 (12 * r + 2 * x) ∧ V1 48 (r * 6 + x) = W 77 (12 * r + 2 * x + 1) := by
  obtain ⟨_, C, c1, c2⟩ := h
  obtain ⟨C', c1', c2'⟩ := h'
  have hb := ho.b
  rw [GEN_T (by omega) (by omega) hS] at c1'
  exact BAS_u hb.1 c1 c1' c2 c2'
set_option maxHeartbeats 4000000 in
theorem LKQ.bas {t : Int} {q : Nat} {V W : VV} (h : LKQ t q V) (e : ∀ a ∈ relC, a ∉ ([44, 47, 48, 77] : List Int) → ∀ b, W a b = V a b) (e5 : ∀ b : Int, b ≠ 0 → b ∉ ([45, 46] : List Int) → W 55 b = V 55 b) (w4 : W 44 4 = V 15 7) (hB : BASP W (V 16) (V 15 3) (V 15 6) (V 15 5)) (hMB : MBP W (V 58) (V 55 1) (V 55 4) (V 55 3)) : LKQ t q W := by
  have f1 : W 1 = V 1 := funext (e 1 (by decide) (by decide))
  have f2 : W 2 = V 2 := funext (e 2 (by decide) (by decide))
  have f3 : W 3 = V 3 := funext (e 3 (by decide) (by decide))
  have f6 : W 6 = V 6 := funext (e 6 (by decide) (by decide))
  have f13 : W 13 = V 13 := funext (e 13 (by decide) (by decide))
  have f14 : W 14 = V 14 := funext (e 14 (by decide) (by decide))
  have f15 : W 15 = V 15 := funext (e 15 (by decide) (by decide))
  have f16 : W 16 = V 16 := funext (e 16 (by decide) (by decide))
  have f19 : W 19 = V 19 := funext (e 19 (by decide) (by decide))
  have f23 : W 23 = V 23 := funext (e 23 (by decide) (by decide))
  have f24 : W 24 = V 24 := funext (e 24 (by decide) (by decide))
  have f25 : W 25 = V 25 := funext (e 25 (by decide) (by decide))
  have f26 : W 26 = V 26 := funext (e 26 (by decide) (by decide))
  have f27 : W 27 = V 27 := funext (e 27 (by decide) (by decide))
  have f28 : W 28 = V 28 := funext (e 28 (by decide) (by decide))
  have f33 : W 33 = V 33 := funext (e 33 (by decide) (by decide))
  have f34 : W 34 = V 34 := funext (e 34 (by decide) (by decide))
  have f35 : W 35 = V 35 := funext (e 35 (by decide) (by decide))
  have f36 : W 36 = V 36 := funext (e 36 (by decide) (by decide))
  have f37 : W 37 = V 37 := funext (e 37 (by decide) (by decide))
  have f38 : W 38 = V 38 := funext (e 38 (by decide) (by decide))
  have f42 : W 42 = V 42 := funext (e 42 (by decide) (by decide))
  have f43 : W 43 = V 43 := funext (e 43 (by decide) (by decide))
  have f56 : W 56 = V 56 := funext (e 56 (by decide) (by decide))
  have f57 : W 57 = V 57 := funext (e 57 (by decide) (by decide))
  have f58 : W 58 = V 58 := funext (e 58 (by decide) (by decide))
  have f59 : W 59 = V 59 := funext (e 59 (by decide) (by decide))
  have f65 : W 65 = V 65 := funext (e 65 (by decide) (by decide))
  have f66 : W 66 = V 66 := funext (e 66 (by decide) (by decide))
  have f67 : W 67 = V 67 := funext (e 67 (by decide) (by decide))
  have f68 : W 68 = V 68 := funext (e 68 (by decide) (by decide))
  have f74 : W 74 = V 74 := funext (e 74 (by decide) (by decide))
  have g1 := e5 1 (by decide) (by decide)
  have g2 := e5 2 (by decide) (by decide)
  have g3 := e5 3 (by decide) (by decide)
  have g4 := e5 4 (by decide) (by decide)
  have g5 := e5 5 (by decide) (by decide)
  have g10 := e5 10 (by decide) (by decide)
  have g21 := e5 21 (by decide) (by decide)
  have g23 := e5 23 (by decide) (by decide)
  have g28 := e5 28 (by decide) (by decide)
  have g29 := e5 29 (by decide) (by decide)
  have g30 := e5 30 (by decide) (by decide)
  have g38 := e5 38 (by decide) (by decide)
  have g39 := e5 39 (by decide) (by decide)
  have g40 := e5 40 (by decide) (by decide)
  clear e e5
  obtain ⟨hC, hM, hN⟩ := h
  refine ⟨?_, ?_, ?_⟩
  · unfold LKC PKC IKC BKC SLC GP RO TR TB IVP OG at hC ⊢
    simp only [Int.reduceAdd, f2, f3, f6, f13, f14, f15, f16, f19, f23, f24, f25, f26, f27, f28, f33, f38, f42, f43] at hC ⊢
    obtain ⟨c1, c2, c3, c4, c5, c6, c7, c8, c9, c10, c11, c12, ⟨c13, c13b, _⟩, c14, c15, _, c17⟩ := hC
    exact ⟨c1, c2, c3, c4, c5, c6, c7, c8, c9, c10, c11, c12, ⟨c13, c13b, by rw [w4]; exact Int.le_refl _⟩, c14, c15, fun _ => hB, c17⟩
  · unfold LKM IKM BKM MG MO TRM MIV at hM ⊢
    simp only [f56, f57, f58, f59, f68, f74, g1, g2, g3, g4, g5, g10, g21, g23, g28, g38, g39, g40] at hM ⊢
    obtain ⟨p1, p2, p3, p4, p5, p6, p7, p8, p9, p10, _⟩ := hM
    exact ⟨p1, p2, p3, p4, p5, p6, p7, p8, p9, p10, fun _ => hMB⟩
  · unfold LNK HIS hix hrw at hN ⊢
    simp only [f1, f2, f3, f15, f16, f23, f24, f25, f26, f27, f28, f33, f34, f35, f36, f37, f58, f59, f65, f66, f67, f68, g1, g2, g3, g4, g5, g21, g23, g29, g30] at hN ⊢
    exact hN
theorem LKQ.bs {t : Int} {q : Nat} {V V1 W : VV} (h : LKQ t q V) (hf : ∀ a b : Int, a ∉ ([44, 45, 46, 47, 48, 87] : List Int) → V1 a b = V a b) (w4 : V1 44 4 = V 15 7) (hB : BASP V1 (V 16) (V 15 3) (V 15 6) (V 15 5)) (hS : KSM V1 W) : LKQ t q W := by
  obtain ⟨s1, s2, s3, s4⟩ := hS
  have e58 : V1 58 = V 58 := funext (fun b => hf 58 b (by decide))
  rw [e58, hf 55 1 (by decide), hf 55 4 (by decide), hf 55 3 (by decide)] at s2
  have lo : ∀ a b : Int, a < 55 → W a b = V1 a b := fun a b ha => s4 a b (by omega) (by omega)
  refine h.bas (fun a ha hb b => ?_) (fun b h0 hb => ?_) ((lo 44 4 (by decide)).trans w4) ?_ s2
  · have h9 := rel_no ha
    have h8 : a ≠ 45 ∧ a ≠ 46 ∧ a ≠ 75 ∧ a ≠ 76 ∧ a ≠ 78 := by
      unfold relC at ha
      simp only [List.mem_cons, List.not_mem_nil, or_false] at ha
      omega
    simp at hb
    rw [s4 a b (by omega) (by omega), hf a b (by simp; omega)]
  · simp at hb
    rw [s3 b h0 (by omega) (by omega), hf 55 b (by decide)]
  · have f44 : W 44 = V1 44 := funext (fun b => lo 44 b (by decide))
    have f47 : W 47 = V1 47 := funext (fun b => lo 47 b (by decide))
    have f48 : W 48 = V1 48 := funext (fun b => lo 48 b (by decide))
    unfold BASP at hB ⊢
    rw [f44, f47, f48]
    exact hB
set_option maxHeartbeats 2000000 in
theorem cse_22 {X : Cx} {t : Int} {V : VV} {i : Int} {c s : Nat} (hX : Good X RL cL_law 9 13 466) (hR9 : LX X) (hi : 0 ≤ i ∧ i + 5 < yLn (cY X)) (hrm : c + 1 ≤ (cR X).cells ∧ s + 6 ≤ (cR X).slots) (ht9 : 0 ≤ t ∧ t ≤ 600) (hL0 : LKS t V) (hN : ∀ V', LKS (t + 1) V' → J X (GT (c + 1) (s + 6)) 2097 (ls9 i) [] V') : J X (GT c s) 1162 (ls9 i) [] V := by
  obtain ⟨q, hL⟩ := hL0
  have hC := hL.1
  have hM := hL.2.1
  have hK := hL.2.2
  have g13 : V 13 1 = V 55 1 := hC.1.2.1.trans hM.1.2.1.symm
  have hM1 : ∀ V1, V1 = V → LKM q V1 := fun V1 e => e.symm ▸ hM
  have hR1 : ∀ V1 : VV, V1 = V → ∀ k, 0 ≤ k → k < V1 55 5 → 0 ≤ V1 59 k ∧ V1 59 k < gO q := fun V1 e k k0 k1 => by
    have h9 := (hM1 V1 e).2.2.2.2.1 k k0 k1
    rw [(hM1 V1 e).1.2.1] at h9
    exact h9
  have hn5 := hK.2.2.2.2.2.1
  have h59 := hK.2.2.2.2.2.2.1
  have h3 := hC.2.2.2.1
  have hrg := hC.2.2.2.2.2.1
  have h13 : V 13 1 = V 15 3 := hC.1.2.1.trans h3.symm
  have t58 := hK.2.2.2.2.1
  have md : ∀ V1 : VV, fr [44, 45, 46, 47, 48] V V1 → ∀ a b : Int, 55 ≤ a → V1 a b = V a b := fun V1 hf a b h1 => hf a b (by simp; omega)
  have hbm : ∀ V1 : VV, fr [44, 45, 46, 47, 48] V V1 → V1 55 45 ≠ 0 → MBP V1 (V1 58) (V1 55 1) (V1 55 4) (V1 55 3) := fun V1 hf => by
    have e55 : V1 55 = V 55 := funext (fun b => md V1 hf 55 b (by decide))
    have e58 : V1 58 = V 58 := funext (fun b => md V1 hf 58 b (by decide))
    have e77 : V1 77 = V 77 := funext (fun b => md V1 hf 77 b (by decide))
    have h9 : BKM V := hM.2.2.2.2.2.2.2.2.2.2
    unfold BKM MBP at h9
    unfold MBP
    rw [e55, e58, e77]
    exact h9
  refine st_22 (fr1 := 5) (lo1 := 125) (fr2 := 4) (lo2 := 100) hX hR9 hi (by decide) (by decide) (ok_X11_sums hC.2.1 hC.2.2.1 hC.2.2.2.2.2.2.2.2.2.2.2.2.2.2.2.1) (fun x V1 h1 => ok_X12_sums (hM.2.1.of (fun b => md V1 h1.2.2.2 55 b (by decide))) (hM.2.2.1.of (fun a b h => md V1 h1.2.2.2 a b (by omega))) (hbm V1 h1.2.2.2)) (fun x V1 y V2 h1 h2 => ?_)
  obtain ⟨rfl, h44, hB, hf⟩ := h1
  obtain ⟨rfl, hS, q0⟩ := h2
  have hMB := hS.2.1
  rw [md V1 hf 55 1 (by decide), md V1 hf 55 4 (by decide), md V1 hf 55 3 (by decide), ← hK.1, ← hK.2.2.1, ← hK.2.2.2.1] at hMB
  have he := bas_eq hC.2.1 (fun e e0 e1 => (md V1 hf 58 e (by decide)).trans (t58 e e0 e1)) hB hMB
  exact ⟨he.1, j_wid (Nat.le_succ _) (Nat.le_add_right _ _) hrm (hN _ (LKS.mono ⟨q, hL.bs (fun a b ha => hf a b (by simp at ha ⊢; omega)) h44 hB hS⟩))⟩
