/-- what a call keeps of the past -/
theorem HIS_push {V W : VV} {w s : Int} (h : HIS V) (hn : 1 ≤ V 23 1 ∧ V 23 1 ≤ 16) (hr : ∀ k, 0 ≤ k → k < V 23 1 → 0 ≤ V 24 k ∧ V 24 k < V 15 3) (hP : 0 ≤ V 55 21 ∧ V 55 21 ≤ 10) (hc5 : 0 ≤ V 33 5 ∧ V 33 5 ≤ 9) (hL : REC V W w s) (hM : KPS V W) (e3 : W 15 3 = V 15 3) (e5 : W 15 5 = V 15 5) (h5 : V 15 5 = V 55 3) (hb : V 15 5 ≤ 216) (hnn : V 23 1 = V 55 5)
    (h59 : ∀ k, 0 ≤ k → k < V 23 1 → V 59 k = V 24 k) (h58 : ∀ e, 0 ≤ e → e < V 15 5 → V 58 e = V 16 e) (hTR : ∀ e, 0 ≤ e → e < V 15 5 → 0 ≤ V 16 e ∧ V 16 e < V 15 3) (hw : w = -1 ∨ (0 ≤ w ∧ w < V 15 5 ∧ s = V 16 w)) (ht : ∀ e, 0 ≤ e → e < V 15 5 → e ≠ w → W 16 e = V 16 e) : HIS W := by
  obtain ⟨h1, h2⟩ := h
  obtain ⟨r1, r2, r3, r4, r5, r6, r7⟩ := hL
  obtain ⟨k1, k2, k3, k4, k5⟩ := hM
  have kp : (V 55 21 = 10 ∧ kpP V = 9) ∨ (V 55 21 ≤ 9 ∧ kpP V = V 55 21) := by
    unfold kpP
    by_cases e : V 55 21 = 10
    · exact Or.inl ⟨e, by rw [if_pos e]⟩
    · exact Or.inr ⟨by omega, by rw [if_neg e]⟩
  have hx0 : hix W 0 = (V 33 5 + 1) % 10 := by unfold hix; rw [r1]; omega
  have hr0 : hrw W 0 = 234 * kpP V := by unfold hrw; rw [k1]; omega
  have hxj : ∀ j, 1 ≤ j → hix W j = hix V (j - 1) := fun j _ => by unfold hix; rw [r1]; omega
  have hA : ∀ j y, 1 ≤ j → j ≤ kpP V → 0 ≤ y → y < 234 → W 67 (hrw W j + y) = V 67 (hrw V (j - 1) + y) := fun j y j1 j2 y0 y1 => by
    have e : hrw W j = 234 * (kpP V - j) := by unfold hrw; rw [k1]; omega
    rw [k2 _ (by rw [e]; omega) (by rw [e]; omega)]
    rcases kp with ⟨p1, p2⟩ | ⟨p1, p2⟩
    · rw [if_pos p1]
      congr 1
      rw [e]
      unfold hrw
      omega
    · rw [if_neg (by omega)]
      congr 1
      rw [e]
      unfold hrw
      omega
  have hne : ∀ j, 1 ≤ j → j ≤ kpP V → hix V (j - 1) ≠ (V 33 5 + 1) % 10 := fun j j1 j2 => by unfold hix; omega
  have hrow : ∀ e, 0 ≤ e → e < V 15 5 → W 67 (hrw W 0 + e) = V 16 e := fun e e0 e1 => by rw [hr0, k3 e e0 (by omega), h58 e e0 e1]
  refine ⟨by rw [r2, k1, h1]; rcases kp with ⟨p1, p2⟩ | ⟨p1, p2⟩ <;> (split <;> omega), fun j j0 j1 => ?_⟩
  rw [k1] at j1
  rw [e3, e5]
  by_cases hj : j = 0
  · subst hj
    rw [hx0, r3, if_pos rfl, r4, if_pos rfl, r5, if_pos rfl]
    refine ⟨hn, by rw [hr0, k5, hnn], fun k k0 k1' => ?_, hw.imp id (fun z => ⟨z.1, z.2.1⟩), fun e e0 e1 => ?_⟩
    · rw [hr0, k4 k k0 (by omega), h59 k k0 k1', r6 k k0 k1']
      exact ⟨rfl, hr k k0 k1'⟩
    · rw [hrow e e0 e1]
      refine ⟨hTR e e0 e1, ?_⟩
      by_cases ew : e = w
      · rw [if_pos ew]
        rcases hw with z | z
        · omega
        · rw [z.2.2, ew]
      · rw [if_neg ew, if_pos rfl, ht e e0 e1 ew]
  · have j1' : 1 ≤ j := by omega
    have j2' : j ≤ kpP V := by omega
    have hn9 := hne j j1' j2'
    obtain ⟨g1, g2, g3, g4, g5⟩ := h2 (j - 1) (by omega) (by omega)
    have hx : 0 ≤ hix V (j - 1) ∧ hix V (j - 1) ≤ 9 := by unfold hix; omega
    rw [hxj j j1', r3, if_neg hn9, r4, if_neg hn9, r5, if_neg hn9]
    refine ⟨g1, by rw [hA j 233 j1' j2' (by decide) (by decide)]; exact g2, fun k k0 k1' => ?_, g4, fun e e0 e1 => ?_⟩
    · rw [show hrw W j + 216 + k = hrw W j + (216 + k) by omega, hA j (216 + k) j1' j2' (by omega) (by omega), ← Int.add_assoc, r7 _ (by omega)]
      exact g3 k k0 k1'
    · rw [hA j e j1' j2' e0 (by omega)]
      refine ⟨(g5 e e0 e1).1, ?_⟩
      rw [(g5 e e0 e1).2, if_neg hj]
      by_cases ee : e = V 36 (hix V (j - 1))
      · rw [if_pos ee, if_pos ee]
      · rw [if_neg ee, if_neg ee]
        by_cases ej : j - 1 = 0
        · rw [if_pos ej, ej, hrow e e0 e1]
        · rw [if_neg ej, hA (j - 1) e (by omega) (by omega) e0 (by omega)]
