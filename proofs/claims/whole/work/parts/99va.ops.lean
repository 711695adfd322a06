/-! closed walks: the labels may be turned; their cases of the law -/
theorem wA_sm {P : Int → Bool} {g N : Int} {c : Int → Int} {v : Int} : ∀ m : Nat, wAcc P g N c m v = sm (fun e => if P e && (e % N == v) then c (e / g) else 0) m
  | 0 => rfl
  | m + 1 => by
    show wAcc P g N c m v + _ = sm _ m + _
    rw [wA_sm m]
theorem wk_cg {P Q : Nat → Int → Bool} {g N n s : Int} : ∀ k : Nat, (∀ j, j < k → ∀ e : Int, 0 ≤ e → e < n → P j e = Q j e) → ∀ v, wkF P g N n s k v = wkF Q g N n s k v
  | 0, _, v => rfl
  | k + 1, h, v => by
    show wAcc (P k) g N (wkF P g N n s k) n.toNat v = wAcc (Q k) g N (wkF Q g N n s k) n.toNat v
    rw [wA_sm, wA_sm]
    refine sm_c _ (fun e e0 e1 => ?_)
    show (if P k e && (e % N == v) then wkF P g N n s k (e / g) else 0) = (if Q k e && (e % N == v) then wkF Q g N n s k (e / g) else 0)
    rw [h k (Nat.lt_succ_self k) e e0 (by omega), wk_cg k (fun j hj => h j (by omega)) (e / g)]
theorem wk_first {P : Nat → Int → Bool} {g N n s : Int} : ∀ (k : Nat) (v : Int), wkF P g N n s (k + 1) v = sm (fun e => if P 0 e && (e / g == s) then wkF (fun j => P (j + 1)) g N n (e % N) k v else 0) n.toNat
  | 0, v => by
    show wAcc (P 0) g N (wkF P g N n s 0) n.toNat v = _
    rw [wA_sm]
    refine sm_c _ (fun e _ _ => ?_)
    show (if P 0 e && (e % N == v) then (if e / g = s then (1 : Int) else 0) else 0) = (if P 0 e && (e / g == s) then (if v = e % N then (1 : Int) else 0) else 0)
    by_cases hp : P 0 e = true
    · by_cases h1 : e % N = v
      · by_cases h2 : e / g = s
        · simp [hp, h1, h2]
        · simp [hp, h1, h2]
      · have h3 : ¬ v = e % N := fun z => h1 z.symm
        simp [h1, h3]
    · simp [hp]
  | k + 1, v => by
    show wAcc (P (k + 1)) g N (wkF P g N n s (k + 1)) n.toNat v = _
    rw [wA_sm]
    have e1 : (fun e' : Int => if P (k + 1) e' && (e' % N == v) then wkF P g N n s (k + 1) (e' / g) else 0) = fun e' => sm (fun e => if P (k + 1) e' && (e' % N == v) then (if P 0 e && (e / g == s) then wkF (fun j => P (j + 1)) g N n (e % N) k (e' / g) else 0) else 0) n.toNat := by
      funext e'
      by_cases h : (P (k + 1) e' && (e' % N == v)) = true
      · rw [if_pos h, wk_first k]
        refine sm_c _ (fun e _ _ => ?_)
        exact (if_pos h).symm
      · rw [if_neg h]
        refine ((sm_c _ (fun e _ _ => ?_)).trans (sm_0 _)).symm
        exact if_neg h
    rw [e1, sm_sw (f := fun e' e => if P (k + 1) e' && (e' % N == v) then (if P 0 e && (e / g == s) then wkF (fun j => P (j + 1)) g N n (e % N) k (e' / g) else 0) else 0)]
    refine sm_c _ (fun e _ _ => ?_)
    by_cases hB : (P 0 e && (e / g == s)) = true
    · rw [if_pos hB]
      show _ = wAcc (P (k + 1)) g N (wkF (fun j => P (j + 1)) g N n (e % N) k) n.toNat v
      rw [wA_sm]
      refine sm_c _ (fun e' _ _ => ?_)
      rw [if_pos hB]
    · rw [if_neg hB]
      refine (sm_c _ (fun e' _ _ => ?_)).trans (sm_0 _)
      rw [if_neg hB]
      split <;> rfl
theorem sm_at {p : Bool} {k : Int} {f : Int → Int} {n : Nat} (h : 0 ≤ k ∧ k < n) : sm (fun v => if p && (k == v) then f v else 0) n = if p then f k else 0 := by
  have e : (fun v => if p && (k == v) then f v else 0) = fun v => if p && (k == v) then f k else 0 := by
    funext v
    by_cases q : k = v
    · rw [q]
    · have : (k == v) = false := by simpa using q
      rw [this]
      simp
  rw [e, sm_one]
  cases p
  · rw [if_neg (fun z => absurd z.1 (by decide)), if_neg (by decide)]
  · rw [if_pos ⟨rfl, h⟩, if_pos rfl]
/-- the number of closed walks, with the labels turned by one -/
theorem tr_rot {P Q : Nat → Int → Bool} {g N n : Int} (hg : 1 ≤ g) (hN : 0 ≤ N) (hn : n = N * g) (k : Nat) (h : ∀ j, j < k → ∀ e : Int, Q j e = P (j + 1) e) (h0 : ∀ e, Q k e = P 0 e) : sm (fun s => wkF P g N n s (k + 1) s) N.toNat = sm (fun s => wkF Q g N n s (k + 1) s) N.toNat := by
  have hb : ∀ e : Int, 0 ≤ e → e < n.toNat → (0 ≤ e / g ∧ e / g < N.toNat) ∧ 0 ≤ e % N ∧ e % N < N.toNat := fun e e0 e1 => by
    have hen : e < N * g := by omega
    have a1 : e / g < N := Int.ediv_lt_of_lt_mul (by omega) hen
    have a2 : 0 ≤ e / g := Int.ediv_nonneg e0 (by omega)
    have a3 := Int.emod_nonneg e (b := N) (by omega)
    have a4 := Int.emod_lt_of_pos e (b := N) (by omega)
    exact ⟨⟨a2, by omega⟩, a3, by omega⟩
  have hA : sm (fun s => wkF P g N n s (k + 1) s) N.toNat = sm (fun e => if P 0 e then wkF (fun j => P (j + 1)) g N n (e % N) k (e / g) else 0) n.toNat := by
    rw [show (fun s => wkF P g N n s (k + 1) s) = fun s => sm (fun e => if P 0 e && (e / g == s) then wkF (fun j => P (j + 1)) g N n (e % N) k s else 0) n.toNat from funext fun s => wk_first k s, sm_sw (f := fun s e => if P 0 e && (e / g == s) then wkF (fun j => P (j + 1)) g N n (e % N) k s else 0)]
    refine sm_c _ (fun e e0 e1 => ?_)
    exact sm_at (f := fun s => wkF (fun j => P (j + 1)) g N n (e % N) k s) (hb e e0 e1).1
  have hB : sm (fun s => wkF Q g N n s (k + 1) s) N.toNat = sm (fun e => if Q k e then wkF Q g N n (e % N) k (e / g) else 0) n.toNat := by
    rw [show (fun s => wkF Q g N n s (k + 1) s) = fun s => sm (fun e => if Q k e && (e % N == s) then wkF Q g N n s k (e / g) else 0) n.toNat from funext fun s => wA_sm n.toNat, sm_sw (f := fun s e => if Q k e && (e % N == s) then wkF Q g N n s k (e / g) else 0)]
    refine sm_c _ (fun e e0 e1 => ?_)
    exact sm_at (f := fun s => wkF Q g N n s k (e / g)) (hb e e0 e1).2
  rw [hA, hB]
  refine sm_c _ (fun e e0 e1 => ?_)
  rw [h0 e, wk_cg k (fun j hj e _ _ => h j hj e)]
theorem CLW_rot {T R : Int → Int} {g N n w L : Int} (hg : 1 ≤ g) (hN : 0 ≤ N) (hn : n = N * g) (hw : w = 2 ∨ w = 3) (hL : 1 ≤ L) : CLW T R g N n w L = sm (fun s => wkF (fun k e => T e == R (k : Int)) g N n s L.toNat s) N.toNat := by
  unfold CLW
  rcases hw with rfl | rfl
  · refine sm_c _ (fun s _ _ => ?_)
    refine wk_cg _ (fun j hj e _ _ => ?_) s
    unfold labP
    rw [show ((j : Int) + 2 - 2) % L = j by rw [show (j : Int) + 2 - 2 = j by omega]; exact Int.emod_eq_of_lt (by omega) (by omega)]
  · rw [show L.toNat = (L.toNat - 1) + 1 by omega]
    refine (tr_rot hg hN hn _ (fun j hj e => ?_) (fun e => ?_)).symm
    · unfold labP
      rw [show ((j : Int) + 3 - 2) % L = ((j + 1 : Nat) : Int) by rw [show (j : Int) + 3 - 2 = j + 1 by omega]; exact Int.emod_eq_of_lt (by omega) (by omega)]
    · unfold labP
      rw [show (((L.toNat - 1 : Nat) : Int) + 3 - 2) % L = ((0 : Nat) : Int) by rw [show ((L.toNat - 1 : Nat) : Int) + 3 - 2 = L by omega]; exact Int.emod_self]
theorem MCW_0 {V : VV} {T R : Int → Int} {g N n w L : Int} (ho : 1 ≤ g) (hN : 0 ≤ N) (hn : n = N * g) (hw : w = 2 ∨ w = 3) (hL : 1 ≤ L) (e1 : V 55 1 = g) (e4 : V 55 4 = N) (e3 : V 55 3 = n) (h58 : ∀ e, 0 ≤ e → e < n → V 58 e = T e) (h59 : ∀ k, 0 ≤ k → k < L → V 59 k = R k) : MCW V 0 L = CLW T R g N n w L := by
  rw [CLW_rot ho hN hn hw hL]
  unfold MCW
  rw [e1, e4, e3]
  refine sm_c _ (fun s _ _ => ?_)
  refine wk_cg _ (fun j hj e e0 e1 => ?_) s
  unfold mP
  rw [if_pos rfl, h58 e e0 e1, h59 j (by omega) (by omega)]
/-- all labels alike -/
theorem MCW_c {V : VV} {T R : Int → Int} {g N n w L d : Int} (hL : 1 ≤ L ∧ L ≤ 16) (e1 : V 55 1 = g) (e4 : V 55 4 = N) (e3 : V 55 3 = n) (hR : ∀ k, 0 ≤ k → k < 16 → R k = 0) (hP : ∀ (j : Nat) (e : Int), 0 ≤ e → e < n → mP V d j e = (T e == 0)) : CLW T R g N n w L = MCW V d L := by
  unfold MCW CLW
  rw [e1, e4, e3]
  refine sm_c _ (fun s _ _ => ?_)
  refine wk_cg _ (fun j hj e e0 e1 => ?_) s
  rw [hP j e e0 e1]
  unfold labP
  have a3 := Int.emod_nonneg ((j : Int) + w - 2) (b := L) (by omega)
  have a4 := Int.emod_lt_of_pos ((j : Int) + w - 2) (b := L) (by omega)
  rw [hR _ a3 (by omega)]
set_option maxHeartbeats 2000000 in
theorem cse_29 {X : Cx} {t : Int} {V : VV} {i : Int} {c s : Nat} (hX : Good X RL cL_law 9 13 466) (hR9 : LX X) (hi : 0 ≤ i ∧ i + 5 < yLn (cY X)) (hrm : c + 1 ≤ (cR X).cells ∧ s + 6 ≤ (cR X).slots) (ht9 : 0 ≤ t ∧ t ≤ 600) (hL0 : LKS t V) (hN : ∀ V', LKS (t + 1) V' → J X (GT (c + 1) (s + 6)) 2097 (ls9 i) [] V') : J X (GT c s) 1444 (ls9 i) [] V := by
  obtain ⟨q, hL⟩ := hL0
  have hC := hL.1
  have hM := hL.2.1
  have hK := hL.2.2
  have g13 : V 13 1 = V 55 1 := hC.1.2.1.trans hM.1.2.1.symm
  have hM1 : ∀ V1, V1 = V → LKM q V1 := fun V1 e => e.symm ▸ hM
  have hR1 : ∀ V1 : VV, V1 = V → ∀ k, 0 ≤ k → k < V1 55 5 → 0 ≤ V1 59 k ∧ V1 59 k < gO q := fun V1 e k k0 k1 => by
    have h9 := (hM1 V1 e).2.2.2.2.1 k k0 k1
    rw [(hM1 V1 e).1.2.1] at h9
    exact h9
  have hn5 := hK.2.2.2.2.2.1
  have h59 := hK.2.2.2.2.2.2.1
  have h3 := hC.2.2.2.1
  have hrg := hC.2.2.2.2.2.1
  have h13 : V 13 1 = V 15 3 := hC.1.2.1.trans h3.symm
  have hn16 := hC.2.2.2.2.1
  have hb := hC.2.1.b
  have hn' := hC.2.1.2.2
  have hw : V 15 4 = 2 ∨ V 15 4 = 3 := by omega
  have md : ∀ V1 : VV, fr [50, 51] V V1 → ∀ a b : Int, 55 ≤ a → V1 a b = V a b := fun V1 hf a b h1 => hf a b (by simp; omega)
  refine st_29 (fr1 := 6) (lo1 := 140) (fr2 := 3) (lo2 := 74) hX hR9 hi (by decide) (by decide) (ok_X11_preimages hC.2.1 hn16) (fun x V1 h1 => ok_X12_preimages (hM.2.1.of (fun b => md V1 h1.2 55 b (by decide))) (by rw [md V1 h1.2 55 5 (by decide)]; exact hM.2.2.2.1)) (fun x V1 y V2 h1 h2 => ?_)
  obtain ⟨rfl, hf⟩ := h1
  obtain ⟨rfl, hf2⟩ := h2
  refine ⟨?_, j_wid (Nat.le_succ _) (Nat.le_add_right _ _) hrm (hN _ (LKS.mono ⟨q, ((hL.frC (hf.le (by decide))).u55 (k := 0)).frM (hf2.le (by decide))⟩))⟩
  rw [md V1 hf 55 5 (by decide), ← hn5]
  exact (MCW_0 (by omega) (by omega) hn' hw hn16.1 ((md V1 hf 55 1 (by decide)).trans hK.1.symm) ((md V1 hf 55 4 (by decide)).trans hK.2.2.2.1.symm) ((md V1 hf 55 3 (by decide)).trans hK.2.2.1.symm) (fun e e0 e1 => (md V1 hf 58 e (by decide)).trans (hK.2.2.2.2.1 e e0 e1)) (fun k k0 k1 => (md V1 hf 59 k (by decide)).trans (h59 k k0 k1))).symm
set_option maxHeartbeats 4000000 in
theorem LKQ.mov {t : Int} {q : Nat} {V W : VV} (h : LKQ t q V) (e : ∀ a ∈ relC, a ∉ ([19] : List Int) → ∀ b, W a b = V a b) (e5 : ∀ b : Int, b ≠ 0 → b ∉ ([] : List Int) → W 55 b = V 55 b) (h19 : 0 ≤ W 19 7 ∧ W 19 7 ≤ t) : LKQ t q W := by
  have f1 : W 1 = V 1 := funext (e 1 (by decide) (by decide))
  have f2 : W 2 = V 2 := funext (e 2 (by decide) (by decide))
  have f3 : W 3 = V 3 := funext (e 3 (by decide) (by decide))
  have f6 : W 6 = V 6 := funext (e 6 (by decide) (by decide))
  have f13 : W 13 = V 13 := funext (e 13 (by decide) (by decide))
  have f14 : W 14 = V 14 := funext (e 14 (by decide) (by decide))
  have f15 : W 15 = V 15 := funext (e 15 (by decide) (by decide))
  have f16 : W 16 = V 16 := funext (e 16 (by decide) (by decide))
  have f23 : W 23 = V 23 := funext (e 23 (by decide) (by decide))
  have f24 : W 24 = V 24 := funext (e 24 (by decide) (by decide))
  have f25 : W 25 = V 25 := funext (e 25 (by decide) (by decide))
  have f26 : W 26 = V 26 := funext (e 26 (by decide) (by decide))
  have f27 : W 27 = V 27 := funext (e 27 (by decide) (by decide))
  have f28 : W 28 = V 28 := funext (e 28 (by decide) (by decide))
  have f33 : W 33 = V 33 := funext (e 33 (by decide) (by decide))
  have f34 : W 34 = V 34 := funext (e 34 (by decide) (by decide))
  have f35 : W 35 = V 35 := funext (e 35 (by decide) (by decide))
  have f36 : W 36 = V 36 := funext (e 36 (by decide) (by decide))
  have f37 : W 37 = V 37 := funext (e 37 (by decide) (by decide))
  have f38 : W 38 = V 38 := funext (e 38 (by decide) (by decide))
  have f42 : W 42 = V 42 := funext (e 42 (by decide) (by decide))
  have f43 : W 43 = V 43 := funext (e 43 (by decide) (by decide))
  have f44 : W 44 = V 44 := funext (e 44 (by decide) (by decide))
  have f47 : W 47 = V 47 := funext (e 47 (by decide) (by decide))
  have f48 : W 48 = V 48 := funext (e 48 (by decide) (by decide))
  have f56 : W 56 = V 56 := funext (e 56 (by decide) (by decide))
  have f57 : W 57 = V 57 := funext (e 57 (by decide) (by decide))
  have f58 : W 58 = V 58 := funext (e 58 (by decide) (by decide))
  have f59 : W 59 = V 59 := funext (e 59 (by decide) (by decide))
  have f65 : W 65 = V 65 := funext (e 65 (by decide) (by decide))
  have f66 : W 66 = V 66 := funext (e 66 (by decide) (by decide))
  have f67 : W 67 = V 67 := funext (e 67 (by decide) (by decide))
  have f68 : W 68 = V 68 := funext (e 68 (by decide) (by decide))
  have f74 : W 74 = V 74 := funext (e 74 (by decide) (by decide))
  have f77 : W 77 = V 77 := funext (e 77 (by decide) (by decide))
  have g1 := e5 1 (by decide) (by decide)
  have g2 := e5 2 (by decide) (by decide)
  have g3 := e5 3 (by decide) (by decide)
  have g4 := e5 4 (by decide) (by decide)
  have g5 := e5 5 (by decide) (by decide)
  have g10 := e5 10 (by decide) (by decide)
  have g21 := e5 21 (by decide) (by decide)
  have g23 := e5 23 (by decide) (by decide)
  have g28 := e5 28 (by decide) (by decide)
  have g29 := e5 29 (by decide) (by decide)
  have g30 := e5 30 (by decide) (by decide)
  have g38 := e5 38 (by decide) (by decide)
  have g39 := e5 39 (by decide) (by decide)
  have g40 := e5 40 (by decide) (by decide)
  have g45 := e5 45 (by decide) (by decide)
  have g46 := e5 46 (by decide) (by decide)
  clear e e5
  obtain ⟨hC, hM, hN⟩ := h
  refine ⟨?_, ?_, ?_⟩
  · unfold LKC PKC IKC BKC SLC GP RO TR TB IVP BASP OG at hC ⊢
    simp only [Int.reduceAdd, f2, f3, f6, f13, f14, f15, f16, f23, f24, f25, f26, f27, f28, f33, f38, f42, f43, f44, f47, f48] at hC ⊢
    obtain ⟨c1, c2, c3, c4, c5, c6, c7, c8, c9, c10, c11, _, c13⟩ := hC
    exact ⟨c1, c2, c3, c4, c5, c6, c7, c8, c9, c10, c11, h19, c13⟩
  · unfold LKM IKM BKM MG MO TRM MIV MBP at hM ⊢
    simp only [f56, f57, f58, f59, f68, f74, f77, g1, g2, g3, g4, g5, g10, g21, g23, g28, g38, g39, g40, g45, g46] at hM ⊢
    exact hM
  · unfold LNK HIS hix hrw at hN ⊢
    simp only [f1, f2, f3, f15, f16, f23, f24, f25, f26, f27, f28, f33, f34, f35, f36, f37, f58, f59, f65, f66, f67, f68, g1, g2, g3, g4, g5, g21, g23, g29, g30] at hN ⊢
    exact hN
set_option maxHeartbeats 2000000 in
theorem cse_32 {X : Cx} {t : Int} {V : VV} {i : Int} {c s : Nat} (hX : Good X RL cL_law 9 13 466) (hR9 : LX X) (hi : 0 ≤ i ∧ i + 5 < yLn (cY X)) (hrm : c + 1 ≤ (cR X).cells ∧ s + 6 ≤ (cR X).slots) (ht9 : 0 ≤ t ∧ t ≤ 600) (hL0 : LKS t V) (hN : ∀ V', LKS (t + 1) V' → J X (GT (c + 1) (s + 6)) 2097 (ls9 i) [] V') : J X (GT c s) 1570 (ls9 i) [] V := by
  obtain ⟨q, hL⟩ := hL0
  have hC := hL.1
  have hM := hL.2.1
  have hK := hL.2.2
  have g13 : V 13 1 = V 55 1 := hC.1.2.1.trans hM.1.2.1.symm
  have hM1 : ∀ V1, V1 = V → LKM q V1 := fun V1 e => e.symm ▸ hM
  have hR1 : ∀ V1 : VV, V1 = V → ∀ k, 0 ≤ k → k < V1 55 5 → 0 ≤ V1 59 k ∧ V1 59 k < gO q := fun V1 e k k0 k1 => by
    have h9 := (hM1 V1 e).2.2.2.2.1 k k0 k1
    rw [(hM1 V1 e).1.2.1] at h9
    exact h9
  have hn5 := hK.2.2.2.2.2.1
  have h59 := hK.2.2.2.2.2.2.1
  have h3 := hC.2.2.2.1
  have hrg := hC.2.2.2.2.2.1
  have h13 : V 13 1 = V 15 3 := hC.1.2.1.trans h3.symm
  have hn16 := hC.2.2.2.2.1
  have hb := hC.2.1.b
  have hn' := hC.2.1.2.2
  have hv19 := hC.2.2.2.2.2.2.2.2.2.2.2.1
  refine st_32 (lo9 := 140) (fr2 := 3) (lo2 := 74) hX hR9 hi hrm (by decide) (by decide) (ok_X11_fixed hC.2.1 (by omega)) (fun E V' h => h.1) (fun k V1 hk => ok_X12_fixed ?_) (fun k V1 b V2 hk hq => ?_)
  · have m : ∀ a b : Int, 55 ≤ a → a ≠ 87 → V1 a b = V a b := fun a b h1 h2 => by
      rcases hk with ⟨x, V0, ⟨_, hf⟩, rfl, _⟩ | ⟨⟨_, _, rfl⟩, _⟩
      · rw [up_n _ (by omega), hf a b (by simp; omega)]
      · rfl
    exact hM.2.1.of (fun b => m 55 b (by decide) (by decide))
  · have m : ∀ a b : Int, 55 ≤ a → a ≠ 87 → V1 a b = V a b := fun a b h1 h2 => by
      rcases hk with ⟨x, V0, ⟨_, hf⟩, rfl, _⟩ | ⟨⟨_, _, rfl⟩, _⟩
      · rw [up_n _ (by omega), hf a b (by simp; omega)]
      · rfl
    rcases hk with ⟨x, V0, ⟨⟨ha, rfl, h30, h20, h19⟩, hf⟩, rfl, rfl⟩ | ⟨⟨_, ha, rfl⟩, rfl⟩
    · rcases hq with ⟨_, rfl, hf2⟩ | ⟨hn, _⟩
      · have hU : LKQ (t + 1) q V0 := hL.mono.mov (fun a ha hb b => by
          have h9 : a ≠ 20 ∧ a ≠ 29 ∧ a ≠ 30 ∧ a ≠ 50 ∧ a ≠ 51 := by
            unfold relC at ha
            simp only [List.mem_cons, List.not_mem_nil, or_false] at ha
            omega
          simp at hb
          exact hf a b (by simp; omega)) (fun b _ _ => hf 55 b (by decide)) (by omega)
        refine ⟨by rw [hf2 55 0 (by decide)]; exact up_s .., fun _ => ?_, hN _ ⟨q, (hU.u87.u55 (k := 0)).frM (hf2.le (by decide))⟩⟩
        rw [hf2 87 0 (by decide), up_n _ (by omega), up_s]
        refine MCW_c ha ((m 55 1 (by decide) (by decide)).trans hK.1.symm) ((m 55 4 (by decide) (by decide)).trans hK.2.2.2.1.symm) ((m 55 3 (by decide) (by decide)).trans hK.2.2.1.symm) h30 (fun j e e0 e1 => ?_)
        unfold mP
        rw [if_neg (by decide), if_pos rfl, m 58 e (by decide) (by decide), m 55 1 (by decide) (by decide), m 55 2 (by decide) (by decide), ← hK.1, ← hK.2.1, hK.2.2.2.2.1 e e0 e1, h20 e e0 e1]
        have ed : dg (V 15 3) e 1 = (if V 15 4 = 2 then e / V 15 3 else e / V 15 3 % V 15 3) := by
          unfold dg
          rw [Int.pow_one]
          by_cases h2 : V 15 4 = 2
          · rw [if_pos h2]
            have h6 : V 15 6 = V 15 3 := by
              rcases hC.2.1.2.1 with z | z
              · exact z.2
              · omega
            rw [hn', h6] at e1
            exact Int.emod_eq_of_lt (Int.ediv_nonneg e0 (by omega)) (Int.ediv_lt_of_lt_mul (by omega) e1)
          · rw [if_neg h2]
        rw [← ed]
        by_cases h2 : V 16 e = dg (V 15 3) e 1
        · rw [if_pos h2, h2]; simp
        · rw [if_neg h2]
          simp [h2]
      · exact absurd ha hn
    · rcases hq with ⟨hn, _⟩ | ⟨_, _, rfl⟩
      · exact absurd hn ha
      · exact ⟨up_s .., fun h => absurd h (by decide), hN _ (LKS.mono ⟨q, hL.u55.u55⟩)⟩
set_option maxHeartbeats 2000000 in
theorem cse_33 {X : Cx} {t : Int} {V : VV} {i : Int} {c s : Nat} (hX : Good X RL cL_law 9 13 466) (hR9 : LX X) (hi : 0 ≤ i ∧ i + 5 < yLn (cY X)) (hrm : c + 1 ≤ (cR X).cells ∧ s + 6 ≤ (cR X).slots) (ht9 : 0 ≤ t ∧ t ≤ 600) (hL0 : LKS t V) (hN : ∀ V', LKS (t + 1) V' → J X (GT (c + 1) (s + 6)) 2097 (ls9 i) [] V') : J X (GT c s) 1625 (ls9 i) [] V := by
  obtain ⟨q, hL⟩ := hL0
  have hC := hL.1
  have hM := hL.2.1
  have hK := hL.2.2
  have g13 : V 13 1 = V 55 1 := hC.1.2.1.trans hM.1.2.1.symm
  have hM1 : ∀ V1, V1 = V → LKM q V1 := fun V1 e => e.symm ▸ hM
  have hR1 : ∀ V1 : VV, V1 = V → ∀ k, 0 ≤ k → k < V1 55 5 → 0 ≤ V1 59 k ∧ V1 59 k < gO q := fun V1 e k k0 k1 => by
    have h9 := (hM1 V1 e).2.2.2.2.1 k k0 k1
    rw [(hM1 V1 e).1.2.1] at h9
    exact h9
  have hn5 := hK.2.2.2.2.2.1
  have h59 := hK.2.2.2.2.2.2.1
  have h3 := hC.2.2.2.1
  have hrg := hC.2.2.2.2.2.1
  have h13 : V 13 1 = V 15 3 := hC.1.2.1.trans h3.symm
  have hn16 := hC.2.2.2.2.1
  refine st_33 (lo9 := 140) (fr2 := 3) (lo2 := 74) hX hR9 hi hrm (by decide) (by decide) (ok_X11_kernel hC.2.1) (fun E V' h => h.1) (fun k V1 hk => ok_X12_kernel ?_) (fun k V1 b V2 hk hq => ?_)
  · have m : ∀ a b : Int, 55 ≤ a → a ≠ 87 → V1 a b = V a b := fun a b h1 h2 => by
      rcases hk with ⟨x, V0, ⟨_, hf⟩, rfl, _⟩ | ⟨⟨_, _, rfl⟩, _⟩
      · rw [up_n _ (by omega), hf a b (by simp; omega)]
      · rfl
    exact hM.2.1.of (fun b => m 55 b (by decide) (by decide))
  · have m : ∀ a b : Int, 55 ≤ a → a ≠ 87 → V1 a b = V a b := fun a b h1 h2 => by
      rcases hk with ⟨x, V0, ⟨_, hf⟩, rfl, _⟩ | ⟨⟨_, _, rfl⟩, _⟩
      · rw [up_n _ (by omega), hf a b (by simp; omega)]
      · rfl
    rcases hk with ⟨x, V0, ⟨⟨ha, rfl, h30⟩, hf⟩, rfl, rfl⟩ | ⟨⟨_, ha, rfl⟩, rfl⟩
    · rcases hq with ⟨_, rfl, hf2⟩ | ⟨hn, _⟩
      · refine ⟨by rw [hf2 55 0 (by decide)]; exact up_s .., fun _ => ?_, hN _ (LKS.mono ⟨q, (((hL.frC (hf.le (by decide))).u87).u55 (k := 0)).frM (hf2.le (by decide))⟩)⟩
        rw [hf2 87 0 (by decide), up_n _ (by omega), up_s]
        refine MCW_c ha ((m 55 1 (by decide) (by decide)).trans hK.1.symm) ((m 55 4 (by decide) (by decide)).trans hK.2.2.2.1.symm) ((m 55 3 (by decide) (by decide)).trans hK.2.2.1.symm) h30 (fun j e e0 e1 => ?_)
        unfold mP
        rw [if_neg (by decide), if_neg (by decide), m 58 e (by decide) (by decide), hK.2.2.2.2.1 e e0 e1]
      · exact absurd ha hn
    · rcases hq with ⟨hn, _⟩ | ⟨_, _, rfl⟩
      · exact absurd hn ha
      · exact ⟨up_s .., fun h => absurd h (by decide), hN _ (LKS.mono ⟨q, hL.u55.u55⟩)⟩
