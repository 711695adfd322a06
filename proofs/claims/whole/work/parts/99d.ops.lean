theorem qmid2 {t : Int} {q : Nat} {V V1 : VV} {c E0 E1 E2 E3 d0 d1 d2 d3 : Prop} {f k : Int} (hL : LKQ t q V) (hk : (∃ x V0, (x = f ∧ c ∧ V0 = V) ∧ V1 = up V0 87 0 x ∧ k = 0) ∨ (((E0 ∧ d0 ∧ V1 = V) ∨ (E1 ∧ d1 ∧ V1 = V)) ∧ k = 1) ∨ (((E2 ∧ d2 ∧ V1 = V) ∨ (E3 ∧ d3 ∧ V1 = V)) ∧ k = 2)) : LKQ t q V1 := by
  rcases hk with ⟨x, V0, ⟨_, _, rfl⟩, rfl, _⟩ | ⟨⟨_, _, rfl⟩ | ⟨_, _, rfl⟩, _⟩ | ⟨⟨_, _, rfl⟩ | ⟨_, _, rfl⟩, _⟩
  · exact hL.u87
  · exact hL
  · exact hL
  · exact hL
  · exact hL
theorem allc {n : Nat} {f g : Nat → Bool} (h : ∀ e, e < n → f e = g e) : (List.range n).all f = (List.range n).all g := by
  rw [Bool.eq_iff_iff, List.all_eq_true, List.all_eq_true]
  exact ⟨fun z x hx => by rw [← h x (List.mem_range.mp hx)]; exact z x hx, fun z x hx => by rw [h x (List.mem_range.mp hx)]; exact z x hx⟩
set_option maxHeartbeats 2000000 in
theorem cse_12 {X : Cx} {t : Int} {V : VV} {i : Int} {c s : Nat} (hX : Good X RL cL_law 9 13 466) (hR9 : LX X) (hi : 0 ≤ i ∧ i + 5 < yLn (cY X)) (hrm : c + 1 ≤ (cR X).cells ∧ s + 6 ≤ (cR X).slots) (ht9 : 0 ≤ t ∧ t ≤ 600) (hL0 : LKS t V) (hN : ∀ V', LKS (t + 1) V' → J X (GT (c + 1) (s + 6)) 2097 (ls9 i) [] V') : J X (GT c s) 765 (ls9 i) [] V := by
  obtain ⟨q, hL⟩ := hL0
  have hC := hL.1
  have hM := hL.2.1
  have hK := hL.2.2
  have g13 : V 13 1 = V 55 1 := hC.1.2.1.trans hM.1.2.1.symm
  have hM1 : ∀ V1, V1 = V → LKM q V1 := fun V1 e => e.symm ▸ hM
  have hR1 : ∀ V1 : VV, V1 = V → ∀ k, 0 ≤ k → k < V1 55 5 → 0 ≤ V1 59 k ∧ V1 59 k < gO q := fun V1 e k k0 k1 => by
    have h9 := (hM1 V1 e).2.2.2.2.1 k k0 k1
    rw [(hM1 V1 e).1.2.1] at h9
    exact h9
  exact st_12 (lo9 := 130) (fr2 := 2) (lo2 := 43) hX hR9 hi hrm (by decide) (by decide) (ok_X11_words hC.2.1) (fun E V' h => h.1) (fun k V1 hk => ok_X12_words (qmid hL hk).2.1.2.1) (fun k V1 b V2 hk hq => by
    have h := qry1 hL (fun W => 0 ≤ (sx X (i + 1)) ∧ (sx X (i + 1)) < W 55 1) (fun W => cntI (fun e => W 58 e == (sx X (i + 1))) (W 55 3).toNat) (fun W hW => ?_) hk hq
    · exact ⟨h.1, h.2.1, hN _ h.2.2⟩
    · refine ⟨by rw [hW 55 1 (by decide), g13], fun _ => ?_⟩
      rw [hW 55 3 (by decide), ← hK.2.2.1]
      exact cntI_c _ (fun e e0 e1 => by rw [hW 58 e (by decide), hK.2.2.2.2.1 e e0 (by omega)]))
set_option maxHeartbeats 2000000 in
theorem cse_27 {X : Cx} {t : Int} {V : VV} {i : Int} {c s : Nat} (hX : Good X RL cL_law 9 13 466) (hR9 : LX X) (hi : 0 ≤ i ∧ i + 5 < yLn (cY X)) (hrm : c + 1 ≤ (cR X).cells ∧ s + 6 ≤ (cR X).slots) (ht9 : 0 ≤ t ∧ t ≤ 600) (hL0 : LKS t V) (hN : ∀ V', LKS (t + 1) V' → J X (GT (c + 1) (s + 6)) 2097 (ls9 i) [] V') : J X (GT c s) 1390 (ls9 i) [] V := by
  obtain ⟨q, hL⟩ := hL0
  have hC := hL.1
  have hM := hL.2.1
  have hK := hL.2.2
  have g13 : V 13 1 = V 55 1 := hC.1.2.1.trans hM.1.2.1.symm
  have hM1 : ∀ V1, V1 = V → LKM q V1 := fun V1 e => e.symm ▸ hM
  have hR1 : ∀ V1 : VV, V1 = V → ∀ k, 0 ≤ k → k < V1 55 5 → 0 ≤ V1 59 k ∧ V1 59 k < gO q := fun V1 e k k0 k1 => by
    have h9 := (hM1 V1 e).2.2.2.2.1 k k0 k1
    rw [(hM1 V1 e).1.2.1] at h9
    exact h9
  exact st_27 (fr1 := 3) (lo1 := 66) (fr2 := 2) (lo2 := 44) hX hR9 hi (by decide) (by decide) (ok_X11_total (q := q) hC.1 hC.2.2.2.1 hC.2.2.2.2.1 hC.2.2.2.2.2.1) (fun x V1 h1 => ok_X12_total (q := q) (hM1 V1 h1.2).1 (hM1 V1 h1.2).2.2.2.1 (hR1 V1 h1.2)) (fun x V1 y V2 h1 h2 => by
    obtain ⟨e1, rfl⟩ := h1
    obtain ⟨e2, rfl⟩ := h2
    exact ⟨by rw [e1, e2, ← hK.2.2.2.2.2.1]; exact (prodF_c _ (fun k k0 k1 => hK.2.2.2.2.2.2.1 k k0 (by omega))).symm, j_wid (Nat.le_succ _) (Nat.le_add_right _ _) hrm (hN _ (LKS.mono ⟨q, hL.u55⟩))⟩)
set_option maxHeartbeats 2000000 in
theorem cse_28 {X : Cx} {t : Int} {V : VV} {i : Int} {c s : Nat} (hX : Good X RL cL_law 9 13 466) (hR9 : LX X) (hi : 0 ≤ i ∧ i + 5 < yLn (cY X)) (hrm : c + 1 ≤ (cR X).cells ∧ s + 6 ≤ (cR X).slots) (ht9 : 0 ≤ t ∧ t ≤ 600) (hL0 : LKS t V) (hN : ∀ V', LKS (t + 1) V' → J X (GT (c + 1) (s + 6)) 2097 (ls9 i) [] V') : J X (GT c s) 1403 (ls9 i) [] V := by
  obtain ⟨q, hL⟩ := hL0
  have hC := hL.1
  have hM := hL.2.1
  have hK := hL.2.2
  have g13 : V 13 1 = V 55 1 := hC.1.2.1.trans hM.1.2.1.symm
  have hM1 : ∀ V1, V1 = V → LKM q V1 := fun V1 e => e.symm ▸ hM
  have hR1 : ∀ V1 : VV, V1 = V → ∀ k, 0 ≤ k → k < V1 55 5 → 0 ≤ V1 59 k ∧ V1 59 k < gO q := fun V1 e k k0 k1 => by
    have h9 := (hM1 V1 e).2.2.2.2.1 k k0 k1
    rw [(hM1 V1 e).1.2.1] at h9
    exact h9
  exact st_28 (fr1 := 3) (lo1 := 64) (fr2 := 0) (lo2 := 0) hX hR9 hi (by decide) (by decide) (ok_X11_density hC.2.2.2.2.1) (fun x V1 h1 => ok_X12_density (hM1 V1 h1.2).2.2.2.1) (fun x V1 y V2 h1 h2 => by
    obtain ⟨e1, rfl⟩ := h1
    obtain ⟨e2, rfl⟩ := h2
    exact ⟨by
      rw [e1, e2, ← hK.2.2.2.2.2.1, cntI_c (p := fun k => V1 24 k != 0) (r := fun k => V1 59 k != 0) _ (fun k k0 k1 => by show (V1 24 k != 0) = (V1 59 k != 0); rw [hK.2.2.2.2.2.2.1 k k0 (by omega)])], j_wid (Nat.le_succ _) (Nat.le_add_right _ _) hrm (hN _ (LKS.mono ⟨q, hL.u55⟩))⟩)
set_option maxHeartbeats 2000000 in
theorem cse_7 {X : Cx} {t : Int} {V : VV} {i : Int} {c s : Nat} (hX : Good X RL cL_law 9 13 466) (hR9 : LX X) (hi : 0 ≤ i ∧ i + 5 < yLn (cY X)) (hrm : c + 1 ≤ (cR X).cells ∧ s + 6 ≤ (cR X).slots) (ht9 : 0 ≤ t ∧ t ≤ 600) (hL0 : LKS t V) (hN : ∀ V', LKS (t + 1) V' → J X (GT (c + 1) (s + 6)) 2097 (ls9 i) [] V') : J X (GT c s) 535 (ls9 i) [] V := by
  obtain ⟨q, hL⟩ := hL0
  have hC := hL.1
  have hM := hL.2.1
  have hK := hL.2.2
  have g13 : V 13 1 = V 55 1 := hC.1.2.1.trans hM.1.2.1.symm
  have hM1 : ∀ V1, V1 = V → LKM q V1 := fun V1 e => e.symm ▸ hM
  have hR1 : ∀ V1 : VV, V1 = V → ∀ k, 0 ≤ k → k < V1 55 5 → 0 ≤ V1 59 k ∧ V1 59 k < gO q := fun V1 e k k0 k1 => by
    have h9 := (hM1 V1 e).2.2.2.2.1 k k0 k1
    rw [(hM1 V1 e).1.2.1] at h9
    exact h9
  refine st_7 (lo9 := 130) (fr2 := 2) (lo2 := 45) hX hR9 hi hrm (by decide) (by decide) (ok_X11_element (q := q) hC.1) (fun E V' h => h.elim (fun z => Or.inl z.1) (fun z => Or.inr z.1)) (fun k V1 hk => ok_X12_element (q := q) (qmid2 hL hk).2.1.1) (fun k V1 b V2 hk hq => ?_)
  rcases hk with ⟨x, V0, ⟨rfl, hc, rfl⟩, rfl, rfl⟩ | ⟨⟨_, hc, rfl⟩ | ⟨hc, _⟩, rfl⟩ | ⟨⟨hc, _⟩ | ⟨_, hc, rfl⟩, rfl⟩
  · rw [up_n (k := 87) _ (by decide : ¬ ((55 : Int) = 87 ∧ (1 : Int) = 0)), ← g13] at hq
    rcases hq with ⟨_, _, rfl, rfl⟩ | ⟨hn, _⟩ | ⟨_, hn, _⟩
    · exact ⟨up_s .., fun _ => by rw [up_n _ (by omega), up_s], hN _ (LKS.mono ⟨q, hL.u87.u55⟩)⟩
    · exact absurd hc.1 hn
    · exact absurd hc.2 hn
  · rw [← g13] at hq
    rcases hq with ⟨hn, _⟩ | ⟨_, _, rfl⟩ | ⟨hn, _⟩
    · exact absurd hn hc
    · exact ⟨up_s .., fun h => absurd h (by decide), hN _ (LKS.mono ⟨q, hL.u55.u55⟩)⟩
    · exact absurd hn hc
  · exact absurd hc (by decide)
  · exact absurd hc (by decide)
  · rw [← g13] at hq
    rcases hq with ⟨_, hn, _⟩ | ⟨hn, _⟩ | ⟨_, _, _, rfl⟩
    · exact absurd hn hc.2
    · exact absurd hc.1 hn
    · exact ⟨up_s .., fun h => absurd h (by decide), hN _ (LKS.mono ⟨q, hL.u55.u55⟩)⟩
