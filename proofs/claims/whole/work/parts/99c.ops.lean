set_option maxHeartbeats 2000000 in
theorem cse_3 {X : Cx} {t : Int} {V : VV} {i : Int} {c s : Nat} (hX : Good X RL cL_law 9 13 466) (hR9 : LX X) (hi : 0 ≤ i ∧ i + 5 < yLn (cY X)) (hrm : c + 1 ≤ (cR X).cells ∧ s + 6 ≤ (cR X).slots) (ht9 : 0 ≤ t ∧ t ≤ 600) (hL0 : LKS t V) (hN : ∀ V', LKS (t + 1) V' → J X (GT (c + 1) (s + 6)) 2097 (ls9 i) [] V') : J X (GT c s) 428 (ls9 i) [] V := by
  obtain ⟨q, hL⟩ := hL0
  have hC := hL.1
  have hM := hL.2.1
  have hK := hL.2.2
  have g13 : V 13 1 = V 55 1 := hC.1.2.1.trans hM.1.2.1.symm
  exact st_3 (fr1 := 0) (lo1 := 0) (fr2 := 0) (lo2 := 0) hX hR9 hi (by decide) (by decide) (ok_X11_errorCode ) (fun x V1 h1 => ok_X12_errorCode ) (fun x V1 y V2 h1 h2 => by
    obtain ⟨e1, rfl⟩ := h1
    obtain ⟨e2, rfl⟩ := h2
    exact ⟨by rw [e1, e2]; exact hK.2.2.2.2.2.2.2.2.2.1, j_wid (Nat.le_succ _) (Nat.le_add_right _ _) hrm (hN _ (LKS.mono ⟨q, hL.u55⟩))⟩)
set_option maxHeartbeats 2000000 in
theorem cse_4 {X : Cx} {t : Int} {V : VV} {i : Int} {c s : Nat} (hX : Good X RL cL_law 9 13 466) (hR9 : LX X) (hi : 0 ≤ i ∧ i + 5 < yLn (cY X)) (hrm : c + 1 ≤ (cR X).cells ∧ s + 6 ≤ (cR X).slots) (ht9 : 0 ≤ t ∧ t ≤ 600) (hL0 : LKS t V) (hN : ∀ V', LKS (t + 1) V' → J X (GT (c + 1) (s + 6)) 2097 (ls9 i) [] V') : J X (GT c s) 441 (ls9 i) [] V := by
  obtain ⟨q, hL⟩ := hL0
  have hC := hL.1
  have hM := hL.2.1
  have hK := hL.2.2
  have g13 : V 13 1 = V 55 1 := hC.1.2.1.trans hM.1.2.1.symm
  exact st_4 (fr1 := 0) (lo1 := 0) (fr2 := 0) (lo2 := 0) hX hR9 hi (by decide) (by decide) (ok_X11_errorPosition ) (fun x V1 h1 => ok_X12_errorPosition ) (fun x V1 y V2 h1 h2 => by
    obtain ⟨e1, rfl⟩ := h1
    obtain ⟨e2, rfl⟩ := h2
    exact ⟨by rw [e1, e2]; exact hK.2.2.2.2.2.2.2.2.2.2.1, j_wid (Nat.le_succ _) (Nat.le_add_right _ _) hrm (hN _ (LKS.mono ⟨q, hL.u55⟩))⟩)
set_option maxHeartbeats 2000000 in
theorem cse_5 {X : Cx} {t : Int} {V : VV} {i : Int} {c s : Nat} (hX : Good X RL cL_law 9 13 466) (hR9 : LX X) (hi : 0 ≤ i ∧ i + 5 < yLn (cY X)) (hrm : c + 1 ≤ (cR X).cells ∧ s + 6 ≤ (cR X).slots) (ht9 : 0 ≤ t ∧ t ≤ 600) (hL0 : LKS t V) (hN : ∀ V', LKS (t + 1) V' → J X (GT (c + 1) (s + 6)) 2097 (ls9 i) [] V') : J X (GT c s) 454 (ls9 i) [] V := by
  obtain ⟨q, hL⟩ := hL0
  have hC := hL.1
  have hM := hL.2.1
  have hK := hL.2.2
  have g13 : V 13 1 = V 55 1 := hC.1.2.1.trans hM.1.2.1.symm
  exact st_5 (fr1 := 0) (lo1 := 0) (fr2 := 0) (lo2 := 0) hX hR9 hi (by decide) (by decide) (ok_X11_order ) (fun x V1 h1 => ok_X12_order ) (fun x V1 y V2 h1 h2 => by
    obtain ⟨e1, rfl⟩ := h1
    obtain ⟨e2, rfl⟩ := h2
    exact ⟨by rw [e1, e2]; exact g13, j_wid (Nat.le_succ _) (Nat.le_add_right _ _) hrm (hN _ (LKS.mono ⟨q, hL.u55⟩))⟩)
set_option maxHeartbeats 2000000 in
theorem cse_9 {X : Cx} {t : Int} {V : VV} {i : Int} {c s : Nat} (hX : Good X RL cL_law 9 13 466) (hR9 : LX X) (hi : 0 ≤ i ∧ i + 5 < yLn (cY X)) (hrm : c + 1 ≤ (cR X).cells ∧ s + 6 ≤ (cR X).slots) (ht9 : 0 ≤ t ∧ t ≤ 600) (hL0 : LKS t V) (hN : ∀ V', LKS (t + 1) V' → J X (GT (c + 1) (s + 6)) 2097 (ls9 i) [] V') : J X (GT c s) 659 (ls9 i) [] V := by
  obtain ⟨q, hL⟩ := hL0
  have hC := hL.1
  have hM := hL.2.1
  have hK := hL.2.2
  have g13 : V 13 1 = V 55 1 := hC.1.2.1.trans hM.1.2.1.symm
  exact st_9 (fr1 := 4) (lo1 := 89) (fr2 := 2) (lo2 := 47) hX hR9 hi (by decide) (by decide) (ok_X11_subgroups (q := q) hC.1) (fun x V1 h1 => ok_X12_subgroups (q := q) (by rw [h1.2]; exact hM.1)) (fun x V1 y V2 h1 h2 => by
    obtain ⟨e1, rfl⟩ := h1
    obtain ⟨e2, rfl⟩ := h2
    exact ⟨by rw [e1, e2], j_wid (Nat.le_succ _) (Nat.le_add_right _ _) hrm (hN _ (LKS.mono ⟨q, hL.u55⟩))⟩)
set_option maxHeartbeats 2000000 in
theorem cse_11 {X : Cx} {t : Int} {V : VV} {i : Int} {c s : Nat} (hX : Good X RL cL_law 9 13 466) (hR9 : LX X) (hi : 0 ≤ i ∧ i + 5 < yLn (cY X)) (hrm : c + 1 ≤ (cR X).cells ∧ s + 6 ≤ (cR X).slots) (ht9 : 0 ≤ t ∧ t ≤ 600) (hL0 : LKS t V) (hN : ∀ V', LKS (t + 1) V' → J X (GT (c + 1) (s + 6)) 2097 (ls9 i) [] V') : J X (GT c s) 752 (ls9 i) [] V := by
  obtain ⟨q, hL⟩ := hL0
  have hC := hL.1
  have hM := hL.2.1
  have hK := hL.2.2
  have g13 : V 13 1 = V 55 1 := hC.1.2.1.trans hM.1.2.1.symm
  exact st_11 (fr1 := 0) (lo1 := 0) (fr2 := 0) (lo2 := 0) hX hR9 hi (by decide) (by decide) (ok_X11_width ) (fun x V1 h1 => ok_X12_width ) (fun x V1 y V2 h1 h2 => by
    obtain ⟨e1, rfl⟩ := h1
    obtain ⟨e2, rfl⟩ := h2
    exact ⟨by rw [e1, e2]; exact hK.2.1, j_wid (Nat.le_succ _) (Nat.le_add_right _ _) hrm (hN _ (LKS.mono ⟨q, hL.u55⟩))⟩)
set_option maxHeartbeats 2000000 in
theorem cse_25 {X : Cx} {t : Int} {V : VV} {i : Int} {c s : Nat} (hX : Good X RL cL_law 9 13 466) (hR9 : LX X) (hi : 0 ≤ i ∧ i + 5 < yLn (cY X)) (hrm : c + 1 ≤ (cR X).cells ∧ s + 6 ≤ (cR X).slots) (ht9 : 0 ≤ t ∧ t ≤ 600) (hL0 : LKS t V) (hN : ∀ V', LKS (t + 1) V' → J X (GT (c + 1) (s + 6)) 2097 (ls9 i) [] V') : J X (GT c s) 1321 (ls9 i) [] V := by
  obtain ⟨q, hL⟩ := hL0
  have hC := hL.1
  have hM := hL.2.1
  have hK := hL.2.2
  have g13 : V 13 1 = V 55 1 := hC.1.2.1.trans hM.1.2.1.symm
  exact st_25 (fr1 := 0) (lo1 := 0) (fr2 := 0) (lo2 := 0) hX hR9 hi (by decide) (by decide) (ok_X11_size ) (fun x V1 h1 => ok_X12_size ) (fun x V1 y V2 h1 h2 => by
    obtain ⟨e1, rfl⟩ := h1
    obtain ⟨e2, rfl⟩ := h2
    exact ⟨by rw [e1, e2]; exact hK.2.2.2.2.2.1, j_wid (Nat.le_succ _) (Nat.le_add_right _ _) hrm (hN _ (LKS.mono ⟨q, hL.u55⟩))⟩)
set_option maxHeartbeats 2000000 in
theorem cse_6 {X : Cx} {t : Int} {V : VV} {i : Int} {c s : Nat} (hX : Good X RL cL_law 9 13 466) (hR9 : LX X) (hi : 0 ≤ i ∧ i + 5 < yLn (cY X)) (hrm : c + 1 ≤ (cR X).cells ∧ s + 6 ≤ (cR X).slots) (ht9 : 0 ≤ t ∧ t ≤ 600) (hL0 : LKS t V) (hN : ∀ V', LKS (t + 1) V' → J X (GT (c + 1) (s + 6)) 2097 (ls9 i) [] V') : J X (GT c s) 467 (ls9 i) [] V := by
  obtain ⟨q, hL⟩ := hL0
  have hC := hL.1
  have hM := hL.2.1
  have hK := hL.2.2
  have g13 : V 13 1 = V 55 1 := hC.1.2.1.trans hM.1.2.1.symm
  exact st_6 (lo9 := 130) (fr2 := 2) (lo2 := 43) hX hR9 hi hrm (by decide) (by decide) (ok_X11_product (q := q) hC.1) (fun E V' h => h.1) (fun k V1 hk => ok_X12_product (q := q) (qmid hL hk).2.1.1) (fun k V1 b V2 hk hq => by
    have h := qry1 hL (fun W => (0 ≤ (sx X (i + 1)) ∧ (sx X (i + 1)) < W 55 1) ∧ 0 ≤ (sx X (i + 2)) ∧ (sx X (i + 2)) < W 55 1) (fun W => gM q (sx X (i + 1)) (sx X (i + 2))) (fun W hW => ?_) hk hq
    · exact ⟨h.1, h.2.1, hN _ h.2.2⟩
    · exact ⟨by rw [hW 55 1 (by decide), g13], fun _ => rfl⟩)
set_option maxHeartbeats 2000000 in
theorem cse_8 {X : Cx} {t : Int} {V : VV} {i : Int} {c s : Nat} (hX : Good X RL cL_law 9 13 466) (hR9 : LX X) (hi : 0 ≤ i ∧ i + 5 < yLn (cY X)) (hrm : c + 1 ≤ (cR X).cells ∧ s + 6 ≤ (cR X).slots) (ht9 : 0 ≤ t ∧ t ≤ 600) (hL0 : LKS t V) (hN : ∀ V', LKS (t + 1) V' → J X (GT (c + 1) (s + 6)) 2097 (ls9 i) [] V') : J X (GT c s) 603 (ls9 i) [] V := by
  obtain ⟨q, hL⟩ := hL0
  have hC := hL.1
  have hM := hL.2.1
  have hK := hL.2.2
  have g13 : V 13 1 = V 55 1 := hC.1.2.1.trans hM.1.2.1.symm
  exact st_8 (lo9 := 130) (fr2 := 2) (lo2 := 47) hX hR9 hi hrm (by decide) (by decide) (ok_X11_generated (q := q) hC.1) (fun E V' h => h.1) (fun k V1 hk => ok_X12_generated (q := q) (qmid hL hk).2.1.1) (fun k V1 b V2 hk hq => by
    have h := qry1 hL (fun W => 0 ≤ (sx X (i + 1)) ∧ (sx X (i + 1)) < 2 ^ gO q) (fun W => (nSp q (sx X (i + 1)).toNat : Int)) (fun W hW => ?_) hk hq
    · exact ⟨h.1, h.2.1, hN _ h.2.2⟩
    · exact ⟨Iff.rfl, fun _ => rfl⟩)
set_option maxHeartbeats 2000000 in
theorem cse_26 {X : Cx} {t : Int} {V : VV} {i : Int} {c s : Nat} (hX : Good X RL cL_law 9 13 466) (hR9 : LX X) (hi : 0 ≤ i ∧ i + 5 < yLn (cY X)) (hrm : c + 1 ≤ (cR X).cells ∧ s + 6 ≤ (cR X).slots) (ht9 : 0 ≤ t ∧ t ≤ 600) (hL0 : LKS t V) (hN : ∀ V', LKS (t + 1) V' → J X (GT (c + 1) (s + 6)) 2097 (ls9 i) [] V') : J X (GT c s) 1334 (ls9 i) [] V := by
  obtain ⟨q, hL⟩ := hL0
  have hC := hL.1
  have hM := hL.2.1
  have hK := hL.2.2
  have g13 : V 13 1 = V 55 1 := hC.1.2.1.trans hM.1.2.1.symm
  exact st_26 (lo9 := 130) (fr2 := 2) (lo2 := 43) hX hR9 hi hrm (by decide) (by decide) (ok_X11_cell hC.2.2.2.2.1) (fun E V' h => h.1) (fun k V1 hk => ok_X12_cell (qmid hL hk).2.1.2.2.2.1) (fun k V1 b V2 hk hq => by
    have h := qry1 hL (fun W => 0 ≤ (sx X (i + 1)) ∧ (sx X (i + 1)) < W 55 5) (fun W => W 59 (sx X (i + 1))) (fun W hW => ?_) hk hq
    · exact ⟨h.1, h.2.1, hN _ h.2.2⟩
    · exact ⟨by rw [hW 55 5 (by decide), hK.2.2.2.2.2.1], fun h => (hW 59 _ (by decide)).trans (hK.2.2.2.2.2.2.1 _ h.1 h.2)⟩)
set_option maxHeartbeats 2000000 in
theorem cse_10 {X : Cx} {t : Int} {V : VV} {i : Int} {c s : Nat} (hX : Good X RL cL_law 9 13 466) (hR9 : LX X) (hi : 0 ≤ i ∧ i + 5 < yLn (cY X)) (hrm : c + 1 ≤ (cR X).cells ∧ s + 6 ≤ (cR X).slots) (ht9 : 0 ≤ t ∧ t ≤ 600) (hL0 : LKS t V) (hN : ∀ V', LKS (t + 1) V' → J X (GT (c + 1) (s + 6)) 2097 (ls9 i) [] V') : J X (GT c s) 672 (ls9 i) [] V := by
  obtain ⟨q, hL⟩ := hL0
  have hC := hL.1
  have hM := hL.2.1
  have hK := hL.2.2
  have g13 : V 13 1 = V 55 1 := hC.1.2.1.trans hM.1.2.1.symm
  exact st_10 (lo9 := 130) (fr2 := 3) (lo2 := 66) hX hR9 hi hrm (by decide) (by decide) (ok_X11_rule hC.2.1) (fun E V' h => h.1) (fun k V1 hk => ok_X12_rule (qmid hL hk).2.1.2.1) (fun k V1 b V2 hk hq => by
    have h := qry1 hL (fun W => (0 ≤ (sx X (i + 1)) ∧ (sx X (i + 1)) < W 55 1) ∧ (0 ≤ (sx X (i + 2)) ∧ (sx X (i + 2)) < W 55 1) ∧ (W 55 2 = 2 ∨ 0 ≤ (sx X (i + 3)) ∧ (sx X (i + 3)) < W 55 1)) (fun W => W 58 (if W 55 2 = 2 then W 55 1 * (sx X (i + 1)) + (sx X (i + 2)) else W 55 1 * (W 55 1 * (sx X (i + 1)) + (sx X (i + 2))) + (sx X (i + 3)))) (fun W hW => ?_) hk hq
    · exact ⟨h.1, h.2.1, hN _ h.2.2⟩
    · refine ⟨by rw [hW 55 1 (by decide), hW 55 2 (by decide), hK.1, hK.2.1], fun h => ?_⟩
      have hw := (RO.word2 hC.2.1 h.1 h.2.1 h.2.2).1
      rw [hW 55 1 (by decide), hW 55 2 (by decide), ← hK.1, ← hK.2.1, hW 58 _ (by decide)]
      rw [show (if V 15 4 = 2 then V 15 3 * (sx X (i + 1)) + (sx X (i + 2)) else V 15 3 * (V 15 3 * (sx X (i + 1)) + (sx X (i + 2))) + (sx X (i + 3))) = (if V 15 4 = 2 then (sx X (i + 1)) * V 15 3 + (sx X (i + 2)) else ((sx X (i + 1)) * V 15 3 + (sx X (i + 2))) * V 15 3 + (sx X (i + 3))) by rw [Int.mul_comm (V 15 3) (sx X (i + 1)), Int.mul_comm (V 15 3) (sx X (i + 1) * V 15 3 + sx X (i + 2))]]
      exact hK.2.2.2.2.1 _ hw.1 hw.2)
