theorem stG_c {f h : Int → Int} : ∀ n : Nat, (∀ k : Int, 0 ≤ k → k < n → f k = h k) → stG f n = stG h n
  | 0, _ => rfl
  | n + 1, e => by
    unfold stG
    rw [stG_c n (fun k h0 h1 => e k h0 (by omega)), e n (by omega) (by omega)]
theorem stayB_c {T S : Int → Int} {s : Nat} {g w n : Int} (h : ∀ e, 0 ≤ e → e < n → S e = T e) : stayB S s g w n = stayB T s g w n := by
  unfold stayB
  exact allc (fun e he => by rw [h e (by omega) (by omega)])
theorem perB_c {V : VV} {S : Int → Int} {p : Int} (ho9 : RO V 15) (h : ∀ e, 0 ≤ e → e < V 15 5 → S e = V 16 e) (hp : 0 ≤ p ∧ p < V 15 4) : perB S (V 15 3) (V 15 5) (V 15 4 - 1 - p).toNat = perB (V 16) (V 15 3) (V 15 5) (V 15 4 - 1 - p).toNat := by
  unfold perB
  refine allc (fun e he => ?_)
  unfold perP
  by_cases hd : dg (V 15 3) e (V 15 4 - 1 - p).toNat = 0
  · rw [stG_c (f := fun x => S ((e : Int) + x * V 15 3 ^ (V 15 4 - 1 - p).toNat)) (h := fun x => V 16 ((e : Int) + x * V 15 3 ^ (V 15 4 - 1 - p).toNat)) _ (fun x x0 x1 => ?_)]
    have hr := ho9.rep (e := e) (d := x) hp (by omega) ⟨x0, by have := ho9.1; omega⟩
    rw [hd, Int.sub_zero] at hr
    exact h _ hr.1 hr.2
  · rw [show (dg (V 15 3) (e : Int) (V 15 4 - 1 - p).toNat == 0) = false from beq_false_of_ne hd, Bool.not_false, Bool.true_or, Bool.true_or]
theorem homB_c {V : VV} {S : Int → Int} {q : Nat} (hq9 : q < 7) (h3 : V 15 3 = gO q) (ho9 : RO V 15) (h : ∀ e, 0 ≤ e → e < V 15 5 → S e = V 16 e) : homB S q (V 15 3) (V 15 4) (V 15 5) = homB (V 16) q (V 15 3) (V 15 4) (V 15 5) := by
  unfold homB
  refine allc (fun p hp => allc (fun f hf => ?_))
  by_cases h0 : (f : Int) == 0
  · rw [h0]; rfl
  · rw [Bool.not_eq_true] at h0
    rw [h0, Bool.false_or, Bool.false_or]
    have hg := ho9.1
    have hp9 : 0 ≤ (p : Int) ∧ (p : Int) < V 15 4 := by omega
    have hf9 : 0 ≤ (f : Int) ∧ (f : Int) < V 15 3 := by omega
    unfold resB
    refine allc (fun e he => ?_)
    unfold resP
    have hdg := dg_b (g := V 15 3) (e := e) (j := (V 15 4 - 1 - (p : Int)).toNat) (by omega)
    have hm := gM_lt hq9 (x := dg (V 15 3) e (V 15 4 - 1 - (p : Int)).toNat) (y := f) (by rw [← h3]; exact hdg) (by rw [← h3]; exact hf9)
    rw [← h3] at hm
    have hr := ho9.rep (e := e) (d := gM q (dg (V 15 3) e (V 15 4 - 1 - (p : Int)).toNat) f) hp9 (by omega) hm
    have h1 := ho9.one hp9 hf9
    rw [h _ hr.1 hr.2, h e (by omega) (by omega), h _ h1.1 h1.2]
set_option maxHeartbeats 2000000 in
theorem cse_13 {X : Cx} {t : Int} {V : VV} {i : Int} {c s : Nat} (hX : Good X RL cL_law 9 13 466) (hR9 : LX X) (hi : 0 ≤ i ∧ i + 5 < yLn (cY X)) (hrm : c + 1 ≤ (cR X).cells ∧ s + 6 ≤ (cR X).slots) (ht9 : 0 ≤ t ∧ t ≤ 600) (hL0 : LKS t V) (hN : ∀ V', LKS (t + 1) V' → J X (GT (c + 1) (s + 6)) 2097 (ls9 i) [] V') : J X (GT c s) 821 (ls9 i) [] V := by
  obtain ⟨q, hL⟩ := hL0
  have hC := hL.1
  have hM := hL.2.1
  have hK := hL.2.2
  have g13 : V 13 1 = V 55 1 := hC.1.2.1.trans hM.1.2.1.symm
  have hM1 : ∀ V1, V1 = V → LKM q V1 := fun V1 e => e.symm ▸ hM
  have hR1 : ∀ V1 : VV, V1 = V → ∀ k, 0 ≤ k → k < V1 55 5 → 0 ≤ V1 59 k ∧ V1 59 k < gO q := fun V1 e k k0 k1 => by
    have h9 := (hM1 V1 e).2.2.2.2.1 k k0 k1
    rw [(hM1 V1 e).1.2.1] at h9
    exact h9
  exact st_13 (fr1 := 5) (lo1 := 117) (fr2 := 2) (lo2 := 46) hX hR9 hi (by decide) (by decide) (ok_X11_isHomomorphism (q := q) hC.2.1 hC.2.2.1 hC.1 hC.2.2.2.1) (fun x V1 h1 => ok_X12_isHomomorphism (q := q) (hM1 V1 h1.2).1 (hM1 V1 h1.2).2.1 (hM1 V1 h1.2).2.2.1) (fun x V1 y V2 h1 h2 => by
    obtain ⟨e1, rfl⟩ := h1
    obtain ⟨e2, rfl⟩ := h2
    exact ⟨by rw [e1, e2, ← hK.1, ← hK.2.1, ← hK.2.2.1, homB_c hC.1.1 hC.2.2.2.1 hC.2.1 hK.2.2.2.2.1], j_wid (Nat.le_succ _) (Nat.le_add_right _ _) hrm (hN _ (LKS.mono ⟨q, hL.u55⟩))⟩)
set_option maxHeartbeats 2000000 in
theorem cse_15 {X : Cx} {t : Int} {V : VV} {i : Int} {c s : Nat} (hX : Good X RL cL_law 9 13 466) (hR9 : LX X) (hi : 0 ≤ i ∧ i + 5 < yLn (cY X)) (hrm : c + 1 ≤ (cR X).cells ∧ s + 6 ≤ (cR X).slots) (ht9 : 0 ≤ t ∧ t ≤ 600) (hL0 : LKS t V) (hN : ∀ V', LKS (t + 1) V' → J X (GT (c + 1) (s + 6)) 2097 (ls9 i) [] V') : J X (GT c s) 875 (ls9 i) [] V := by
  obtain ⟨q, hL⟩ := hL0
  have hC := hL.1
  have hM := hL.2.1
  have hK := hL.2.2
  have g13 : V 13 1 = V 55 1 := hC.1.2.1.trans hM.1.2.1.symm
  have hM1 : ∀ V1, V1 = V → LKM q V1 := fun V1 e => e.symm ▸ hM
  have hR1 : ∀ V1 : VV, V1 = V → ∀ k, 0 ≤ k → k < V1 55 5 → 0 ≤ V1 59 k ∧ V1 59 k < gO q := fun V1 e k k0 k1 => by
    have h9 := (hM1 V1 e).2.2.2.2.1 k k0 k1
    rw [(hM1 V1 e).1.2.1] at h9
    exact h9
  exact st_15 (fr1 := 5) (lo1 := 111) (fr2 := 2) (lo2 := 47) hX hR9 hi (by decide) (by decide) (ok_X11_closed (q := q) hC.2.1 hC.2.2.1 hC.1 hC.2.2.2.1) (fun x V1 h1 => ok_X12_closed (q := q) (hM1 V1 h1.2).1 (hM1 V1 h1.2).2.1 (hM1 V1 h1.2).2.2.1) (fun x V1 y V2 h1 h2 => by
    obtain ⟨e1, rfl⟩ := h1
    obtain ⟨e2, rfl⟩ := h2
    exact ⟨by
      rw [e1, e2, ← hK.1, ← hK.2.1, ← hK.2.2.1]
      congr 1
      funext x
      exact (stayB_c hK.2.2.2.2.1).symm, j_wid (Nat.le_succ _) (Nat.le_add_right _ _) hrm (hN _ (LKS.mono ⟨q, hL.u55⟩))⟩)
set_option maxHeartbeats 2000000 in
theorem cse_14 {X : Cx} {t : Int} {V : VV} {i : Int} {c s : Nat} (hX : Good X RL cL_law 9 13 466) (hR9 : LX X) (hi : 0 ≤ i ∧ i + 5 < yLn (cY X)) (hrm : c + 1 ≤ (cR X).cells ∧ s + 6 ≤ (cR X).slots) (ht9 : 0 ≤ t ∧ t ≤ 600) (hL0 : LKS t V) (hN : ∀ V', LKS (t + 1) V' → J X (GT (c + 1) (s + 6)) 2097 (ls9 i) [] V') : J X (GT c s) 834 (ls9 i) [] V := by
  obtain ⟨q, hL⟩ := hL0
  have hC := hL.1
  have hM := hL.2.1
  have hK := hL.2.2
  have g13 : V 13 1 = V 55 1 := hC.1.2.1.trans hM.1.2.1.symm
  have hM1 : ∀ V1, V1 = V → LKM q V1 := fun V1 e => e.symm ▸ hM
  have hR1 : ∀ V1 : VV, V1 = V → ∀ k, 0 ≤ k → k < V1 55 5 → 0 ≤ V1 59 k ∧ V1 59 k < gO q := fun V1 e k k0 k1 => by
    have h9 := (hM1 V1 e).2.2.2.2.1 k k0 k1
    rw [(hM1 V1 e).1.2.1] at h9
    exact h9
  exact st_14 (fr1 := 4) (lo1 := 89) (fr2 := 1) (lo2 := 22) hX hR9 hi (by decide) (by decide) (fun b9 hb => ok_X11_isPermutive hC.2.1 hC.2.2.1) (fun b9 hb x V1 h1 => ok_X12_isPermutive (hM1 V1 h1.2).2.1 (hM1 V1 h1.2).2.2.1) (fun b9 hb x V1 y V2 h1 h2 => by
    obtain ⟨e1, rfl⟩ := h1
    obtain ⟨e2, rfl⟩ := h2
    refine ⟨?_, j_wid (Nat.le_succ _) (Nat.le_add_right _ _) hrm (hN _ (LKS.mono ⟨q, hL.u55⟩))⟩
    have hb4 := hC.2.1.b.2.1
    rw [e1, e2, ← hK.1, ← hK.2.1, ← hK.2.2.1, perB_c hC.2.1 hK.2.2.2.2.1 (by split <;> omega)])
