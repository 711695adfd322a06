set_option maxHeartbeats 2000000 in
theorem cse_16 {X : Cx} {t : Int} {V : VV} {i : Int} {c s : Nat} (hX : Good X RL cL_law 9 13 466) (hR9 : LX X) (hi : 0 ≤ i ∧ i + 5 < yLn (cY X)) (hrm : c + 1 ≤ (cR X).cells ∧ s + 6 ≤ (cR X).slots) (ht9 : 0 ≤ t ∧ t ≤ 600) (hL0 : LKS t V) (hN : ∀ V', LKS (t + 1) V' → J X (GT (c + 1) (s + 6)) 2097 (ls9 i) [] V') : J X (GT c s) 888 (ls9 i) [] V := by
  obtain ⟨q, hL⟩ := hL0
  have hC := hL.1
  have hM := hL.2.1
  have hK := hL.2.2
  have g13 : V 13 1 = V 55 1 := hC.1.2.1.trans hM.1.2.1.symm
  have hM1 : ∀ V1, V1 = V → LKM q V1 := fun V1 e => e.symm ▸ hM
  have hR1 : ∀ V1 : VV, V1 = V → ∀ k, 0 ≤ k → k < V1 55 5 → 0 ≤ V1 59 k ∧ V1 59 k < gO q := fun V1 e k k0 k1 => by
    have h9 := (hM1 V1 e).2.2.2.2.1 k k0 k1
    rw [(hM1 V1 e).1.2.1] at h9
    exact h9
  have hn5 := hK.2.2.2.2.2.1
  have h59 := hK.2.2.2.2.2.2.1
  have h3 := hC.2.2.2.1
  have hrg := hC.2.2.2.2.2.1
  have h13 : V 13 1 = V 15 3 := hC.1.2.1.trans h3.symm
  have hn16 := hC.2.2.2.2.1
  refine st_16 (lo9 := 130) (fr2 := 3) (lo2 := 66) hX hR9 hi hrm (by decide) (by decide) (ok_X11_setCase (q := q) hC.2.1 hC.2.2.1 hC.1 h3 hC.2.2.2.2.1 hC.2.2.2.2.2.2.1 hC.2.2.2.2.2.2.2.1 (by have := hC.2.2.2.2.2.2.2.2.2.1; omega)) (fun E V' h => h.1) (fun k V1 hk => ok_X12_setCase ?_ ?_ ?_) (fun k V1 b V2 hk hq => ?_)
  · have m : ∀ a b : Int, 55 ≤ a → a ≠ 87 → V1 a b = V a b := fun a b h1 h2 => by
      rcases hk with ⟨x, V0, ⟨_, _, _, _, _, hf⟩, rfl, _⟩ | ⟨⟨_, _, rfl⟩, _⟩
      · rw [up_n _ (by omega), hf a b (by simp; omega)]
      · rfl
    exact hM.2.1.of (fun b => m 55 b (by decide) (by decide))
  · have m : ∀ a b : Int, 55 ≤ a → a ≠ 87 → V1 a b = V a b := fun a b h1 h2 => by
      rcases hk with ⟨x, V0, ⟨_, _, _, _, _, hf⟩, rfl, _⟩ | ⟨⟨_, _, rfl⟩, _⟩
      · rw [up_n _ (by omega), hf a b (by simp; omega)]
      · rfl
    rw [m 55 5 (by decide) (by decide)]; exact hM.2.2.2.1
  · have m : ∀ a b : Int, 55 ≤ a → a ≠ 87 → V1 a b = V a b := fun a b h1 h2 => by
      rcases hk with ⟨x, V0, ⟨_, _, _, _, _, hf⟩, rfl, _⟩ | ⟨⟨_, _, rfl⟩, _⟩
      · rw [up_n _ (by omega), hf a b (by simp; omega)]
      · rfl
    rw [m 55 21 (by decide) (by decide)]; exact hM.2.2.2.2.2.1
  · have m : ∀ a b : Int, 55 ≤ a → a ≠ 87 → V1 a b = V a b := fun a b h1 h2 => by
      rcases hk with ⟨x, V0, ⟨_, _, _, _, _, hf⟩, rfl, _⟩ | ⟨⟨_, _, rfl⟩, _⟩
      · rw [up_n _ (by omega), hf a b (by simp; omega)]
      · rfl
    rw [m 55 1 (by decide) (by decide), m 55 2 (by decide) (by decide), ← hK.1, ← hK.2.1] at hq
    rw [show (if V 15 4 = 2 then V 15 3 * (sx X (i + 1)) + (sx X (i + 2)) else V 15 3 * (V 15 3 * (sx X (i + 1)) + (sx X (i + 2))) + (sx X (i + 3))) = (if V 15 4 = 2 then (sx X (i + 1)) * V 15 3 + (sx X (i + 2)) else ((sx X (i + 1)) * V 15 3 + (sx X (i + 2))) * V 15 3 + (sx X (i + 3))) by rw [Int.mul_comm (V 15 3) (sx X (i + 1)), Int.mul_comm (V 15 3) ((sx X (i + 1)) * V 15 3 + (sx X (i + 2)))]] at hq
    rcases hk with ⟨x, V0, ⟨⟨rfl, hc, hs⟩, hRC, h16, h7, h15, hf⟩, rfl, rfl⟩ | ⟨⟨_, hc, rfl⟩, rfl⟩
    · have hw := (RO.word2 hC.2.1 hc.1 hc.2.1 hc.2.2).1
      generalize hwd : (if V 15 4 = 2 then (sx X (i + 1)) * V 15 3 + (sx X (i + 2)) else ((sx X (i + 1)) * V 15 3 + (sx X (i + 2))) * V 15 3 + (sx X (i + 3))) = w at *
      rcases hq with ⟨_, rfl, q0, q1, q2, q38, q45, q3, q4⟩ | ⟨hn, _⟩
      · have lo : ∀ a b : Int, a < 55 → V2 a b = V0 a b := fun a b h => by rw [q4 a b (by omega) (by omega) (by omega), up_n _ (by omega)]
        have hRW : REC V V2 w (V 16 w) := hRC.to (fun a b h1 h2 => lo a b (by omega))
        have hKW : KPS V V2 := q1.of (fun a b h1 h2 => m a b h1 (by omega))
        have w15 : ∀ b, b ≠ 7 → V2 15 b = V 15 b := fun b hb => (lo 15 b (by decide)).trans (h15 b hb)
        have w16 : ∀ e, V2 16 e = if e = w then (sx X (i + 4)) else V 16 e := fun e => (lo 16 e (by decide)).trans (h16 e)
        have w58 : ∀ e, 0 ≤ e → e < V 15 5 → V2 58 e = V2 16 e := fun e e0 e1 => by
          rw [q2, w16, m 58 e (by decide) (by decide), hK.2.2.2.2.1 e e0 e1]
        have hT : ∀ e, 0 ≤ e → e < V 15 5 → 0 ≤ V2 16 e ∧ V2 16 e < V 15 3 := fun e e0 e1 => by
          rw [w16]
          by_cases ee : e = w
          · rw [if_pos ee, ← h13]; exact hs
          · rw [if_neg ee]; exact hC.2.2.1 e e0 e1
        have hb := hC.2.1.b
        have hH : HIS V2 := HIS_push hK.2.2.2.2.2.2.2.2.2.2.2.2.2.2.2 hC.2.2.2.2.1 hC.2.2.2.2.2.1 hM.2.2.2.2.2.1 hC.2.2.2.2.2.2.1 hRW hKW (w15 3 (by decide)) (w15 5 (by decide)) hK.2.2.1 hb.2.2.2.2 hK.2.2.2.2.2.1 hK.2.2.2.2.2.2.1 hK.2.2.2.2.1 hC.2.2.1 (Or.inr ⟨hw.1, hw.2, rfl⟩) (fun e _ _ h => by rw [w16, if_neg h])
        have kp : 0 ≤ kpP V ∧ kpP V ≤ 9 := by
          have := hM.2.2.2.2.2.1
          unfold kpP
          split <;> omega
        have hver := hC.2.2.2.2.2.2.2.2.2.1
        refine ⟨q0, fun _ => by rw [q4 87 0 (by decide) (by decide) (by decide), up_s, m 58 _ (by decide) (by decide), hK.2.2.2.2.1 w hw.1 hw.2], hN _ ⟨q, hL.rule (fun a ha hb9 b => ?_) (fun b h0 hb9 => ?_) w15 ?_ hT ?_ ?_ w58 ?_ q38 q45 hH⟩⟩
        · have h9 := rel_no ha
          simp at hb9
          rw [q4 a b (by omega) (by omega) (by omega), up_n _ (by omega), hf a b (by simp; omega)]
        · simp at hb9
          rw [q3 b h0 (by omega) (by omega) (by omega), m 55 b (by decide) (by decide)]
        · rw [lo 15 7 (by decide), h7]; omega
        · rw [hRW.1]; omega
        · rw [hRW.2.1]
          have := hC.2.2.2.2.2.2.2.1
          split <;> omega
        · rw [hKW.1]; omega
      · exact absurd ⟨hc, by rw [← h13]; exact hs⟩ hn
    · rcases hq with ⟨hn, _⟩ | ⟨_, _, rfl⟩
      · exact absurd ⟨hn.1, by rw [h13]; exact hn.2⟩ hc
      · exact ⟨up_s .., fun h => absurd h (by decide), hN _ (LKS.mono ⟨q, hL.u55.u55⟩)⟩
