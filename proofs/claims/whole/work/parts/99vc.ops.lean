set_option maxHeartbeats 2000000 in
theorem cse_20 {X : Cx} {t : Int} {V : VV} {i : Int} {c s : Nat} (hX : Good X RL cL_law 9 13 466) (hR9 : LX X) (hi : 0 ≤ i ∧ i + 5 < yLn (cY X)) (hrm : c + 1 ≤ (cR X).cells ∧ s + 6 ≤ (cR X).slots) (ht9 : 0 ≤ t ∧ t ≤ 600) (hL0 : LKS t V) (hN : ∀ V', LKS (t + 1) V' → J X (GT (c + 1) (s + 6)) 2097 (ls9 i) [] V') : J X (GT c s) 1050 (ls9 i) [] V := by
  obtain ⟨q, hL⟩ := hL0
  have hC := hL.1
  have hM := hL.2.1
  have hK := hL.2.2
  have g13 : V 13 1 = V 55 1 := hC.1.2.1.trans hM.1.2.1.symm
  have hM1 : ∀ V1, V1 = V → LKM q V1 := fun V1 e => e.symm ▸ hM
  have hR1 : ∀ V1 : VV, V1 = V → ∀ k, 0 ≤ k → k < V1 55 5 → 0 ≤ V1 59 k ∧ V1 59 k < gO q := fun V1 e k k0 k1 => by
    have h9 := (hM1 V1 e).2.2.2.2.1 k k0 k1
    rw [(hM1 V1 e).1.2.1] at h9
    exact h9
  have hn5 := hK.2.2.2.2.2.1
  have h59 := hK.2.2.2.2.2.2.1
  have h3 := hC.2.2.2.1
  have hrg := hC.2.2.2.2.2.1
  have h13 : V 13 1 = V 15 3 := hC.1.2.1.trans h3.symm
  have hn16 := hC.2.2.2.2.1
  have hb := hC.2.1.b
  have hg := hb.1
  have hv42 := hC.2.2.2.2.2.2.2.2.2.2.2.2.1.2.1
  have mj : ∀ V1 V2 : VV, (∀ a b : Int, 55 ≤ a → a ≠ 87 → V1 a b = V a b) → MIV V2 (V1 58) (V1 55 1) (V1 55 3) (V1 55 2) → MIV V2 (V 16) (V 15 3) (V 15 5) (V 15 4) := fun V1 V2 m h => by
    rw [m 55 1 (by decide) (by decide), m 55 2 (by decide) (by decide), m 55 3 (by decide) (by decide), ← hK.1, ← hK.2.1, ← hK.2.2.1] at h
    exact MIV_T (by omega) (fun e e0 e1 => (m 58 e (by decide) (by decide)).trans (hK.2.2.2.2.1 e e0 e1)) h
  refine st_20 (lo9 := 158) (fr2 := 3) (lo2 := 70) hX hR9 hi hrm (by decide) (by decide) (ok_X11_inverse_T hC.2.1 hC.2.2.1 hC.2.2.2.2.2.2.2.2.2.2.2.2.2.1 hC.2.2.2.2.2.2.2.2.2.2.2.2.2.2.1) (fun E V' h => h.elim (fun z => Or.inl z.1) (fun z => Or.inr z.1)) (fun k V1 hk => ok_X12_inverse ?_ ?_ ?_) (fun k V1 b V2 hk hq => ?_)
  · have m : ∀ a b : Int, 55 ≤ a → a ≠ 87 → V1 a b = V a b := fun a b h1 h2 => by
      rcases hk with ⟨x, V0, ⟨_, _, _, _, hf⟩, rfl, _⟩ | ⟨⟨_, _, rfl⟩ | ⟨_, _, _, _, _, hf⟩, _⟩ | ⟨⟨_, _, rfl⟩ | ⟨_, _, _, _, _, hf⟩, _⟩
      · rw [up_n _ (by omega), hf a b (by simp; omega)]
      · rfl
      · exact hf a b (by simp; omega)
      · rfl
      · exact hf a b (by simp; omega)
    exact hM.2.1.of (fun b => m 55 b (by decide) (by decide))
  · have m : ∀ a b : Int, 55 ≤ a → a ≠ 87 → V1 a b = V a b := fun a b h1 h2 => by
      rcases hk with ⟨x, V0, ⟨_, _, _, _, hf⟩, rfl, _⟩ | ⟨⟨_, _, rfl⟩ | ⟨_, _, _, _, _, hf⟩, _⟩ | ⟨⟨_, _, rfl⟩ | ⟨_, _, _, _, _, hf⟩, _⟩
      · rw [up_n _ (by omega), hf a b (by simp; omega)]
      · rfl
      · exact hf a b (by simp; omega)
      · rfl
      · exact hf a b (by simp; omega)
    have e55 : V1 55 = V 55 := funext (fun b => m 55 b (by decide) (by decide))
    have e58 : V1 58 = V 58 := funext (fun b => m 58 b (by decide) (by decide))
    have := hM.2.2.1
    unfold TRM at this ⊢
    rw [e55, e58]
    exact this
  · have m : ∀ a b : Int, 55 ≤ a → a ≠ 87 → V1 a b = V a b := fun a b h1 h2 => by
      rcases hk with ⟨x, V0, ⟨_, _, _, _, hf⟩, rfl, _⟩ | ⟨⟨_, _, rfl⟩ | ⟨_, _, _, _, _, hf⟩, _⟩ | ⟨⟨_, _, rfl⟩ | ⟨_, _, _, _, _, hf⟩, _⟩
      · rw [up_n _ (by omega), hf a b (by simp; omega)]
      · rfl
      · exact hf a b (by simp; omega)
      · rfl
      · exact hf a b (by simp; omega)
    intro h9
    have e55 : V1 55 = V 55 := funext (fun b => m 55 b (by decide) (by decide))
    have e58 : V1 58 = V 58 := funext (fun b => m 58 b (by decide) (by decide))
    rw [e55] at h9
    rw [e55, e58]
    exact MIV_c (m 55 39 (by decide) (by decide)) (m 55 40 (by decide) (by decide)) (funext (fun b => m 74 b (by decide) (by decide))) (hM.2.2.2.2.2.2.2.2.2.1 h9)
  · have m : ∀ a b : Int, 55 ≤ a → a ≠ 87 → V1 a b = V a b := fun a b h1 h2 => by
      rcases hk with ⟨x, V0, ⟨_, _, _, _, hf⟩, rfl, _⟩ | ⟨⟨_, _, rfl⟩ | ⟨_, _, _, _, _, hf⟩, _⟩ | ⟨⟨_, _, rfl⟩ | ⟨_, _, _, _, _, hf⟩, _⟩
      · rw [up_n _ (by omega), hf a b (by simp; omega)]
      · rfl
      · exact hf a b (by simp; omega)
      · rfl
      · exact hf a b (by simp; omega)
    rcases hk with ⟨x, V0, ⟨hx, ⟨h42, hI, hv⟩, hP, _, hf⟩, rfl, rfl⟩ | ⟨⟨_, hc, rfl⟩ | ⟨hc, _⟩, rfl⟩ | ⟨⟨hc, _⟩ | ⟨_, hc, hno, hP, ⟨hI, hor⟩, hf⟩, rfl⟩
    · rcases hq with ⟨ha, hv2, hb2, hK9, q0⟩ | ⟨hn, _⟩ | ⟨_, _, hv2, hK9, _⟩
      · have l38 : ∀ b, up V0 87 0 x 38 b = V0 38 b := fun b => up_n _ (by omega)
        have l42 : ∀ b, up V0 87 0 x 42 b = V0 42 b := fun b => up_n _ (by omega)
        have l43 : ∀ b, up V0 87 0 x 43 b = V0 43 b := fun b => up_n _ (by omega)
        have hLW : LKQ t q V2 := hL.ik2 (W := up V0 87 0 x) (fun a b ha => by simp at ha; rw [up_n _ (by omega), hf a b (by simp; omega)]) (by rw [l38, l38, l38]; exact hP) (by rw [l42, h42]; exact Int.le_refl _) (fun _ => hI.sm (funext l42) (funext l43)) hK9.2.1 (fun b h0 h1 h2 h3 => hK9.2.2.1 b h0 h1 h2 h3) (fun a b h1 h2 h3 h4 _ _ => hK9.2.2.2 a b h1 h3 h4) (fun k _ _ => hK9.2.2.2 59 k (by decide) (by decide) (by decide))
        refine ⟨q0, fun _ => ?_, hN _ (LKS.mono ⟨q, hLW⟩)⟩
        obtain ⟨z1, z2⟩ := inv_eq hg hI (mj _ _ m hK9.2.1)
        obtain ⟨z3, z4⟩ := z2 hv
        rw [hK9.2.2.2 87 0 (by decide) (by decide) (by decide), up_s]
        rcases hx with ⟨a0, rfl⟩ | ⟨a0, rfl⟩ | ⟨a0, rfl⟩
        · rcases hb2 with ⟨_, rfl⟩ | ⟨b0, _⟩ | ⟨b0, _⟩
          · exact z1.symm
          · omega
          · omega
        · rcases hb2 with ⟨b0, _⟩ | ⟨_, rfl⟩ | ⟨b0, _⟩
          · omega
          · exact z3.symm
          · omega
        · rcases hb2 with ⟨b0, _⟩ | ⟨b0, _⟩ | ⟨_, rfl⟩
          · omega
          · omega
          · rw [m 55 1 (by decide) (by decide), ← hK.1, z1, hI.1]
            have h5 := pw5 hg (k := (V0 42 5).toNat) (by have := (hI.b hg hv).2; omega)
            refine cntI_c _ (fun c c0 c1 => ?_)
            rw [z4 c c0 (by omega), bkF_n hg hI]
      · exact absurd (by omega) hn
      · have z1 := (inv_eq hg hI (mj _ _ m hK9.2.1)).1
        omega
    · rcases hq with ⟨ha, _⟩ | ⟨_, _, rfl⟩ | ⟨ha, _⟩
      · exact absurd ha hc
      · exact ⟨up_s .., fun h => absurd h (by decide), hN _ (LKS.mono ⟨q, hL.u55.u55⟩)⟩
      · exact absurd ha hc
    · exact absurd hc (by decide)
    · exact absurd hc (by decide)
    · rcases hq with ⟨_, hv2, _, hK9, q0⟩ | ⟨hn, _⟩ | ⟨_, _, hv2, hK9, q0⟩
      · exact absurd (inv_no hno (mj _ _ m hK9.2.1)) hv2
      · exact absurd hc hn
      · have hLW : LKQ t q V2 := hL.ik2 (W := V1) (fun a b ha => hf a b (by simp at ha ⊢; omega)) hP (hor.elim (fun z => by rw [z]; exact hv42) (fun z => Int.le_of_eq z)) hI hK9.2.1 (fun b h0 h1 h2 h3 => hK9.2.2.1 b h0 h1 h2 h3) (fun a b h1 h2 h3 h4 _ _ => hK9.2.2.2 a b h1 h3 h4) (fun k _ _ => hK9.2.2.2 59 k (by decide) (by decide) (by decide))
        exact ⟨q0, fun h => absurd h (by decide), hN _ (LKS.mono ⟨q, hLW⟩)⟩
set_option maxHeartbeats 2000000 in
theorem cse_21 {X : Cx} {t : Int} {V : VV} {i : Int} {c s : Nat} (hX : Good X RL cL_law 9 13 466) (hR9 : LX X) (hi : 0 ≤ i ∧ i + 5 < yLn (cY X)) (hrm : c + 1 ≤ (cR X).cells ∧ s + 6 ≤ (cR X).slots) (ht9 : 0 ≤ t ∧ t ≤ 600) (hL0 : LKS t V) (hN : ∀ V', LKS (t + 1) V' → J X (GT (c + 1) (s + 6)) 2097 (ls9 i) [] V') : J X (GT c s) 1106 (ls9 i) [] V := by
  obtain ⟨q, hL⟩ := hL0
  have hC := hL.1
  have hM := hL.2.1
  have hK := hL.2.2
  have g13 : V 13 1 = V 55 1 := hC.1.2.1.trans hM.1.2.1.symm
  have hM1 : ∀ V1, V1 = V → LKM q V1 := fun V1 e => e.symm ▸ hM
  have hR1 : ∀ V1 : VV, V1 = V → ∀ k, 0 ≤ k → k < V1 55 5 → 0 ≤ V1 59 k ∧ V1 59 k < gO q := fun V1 e k k0 k1 => by
    have h9 := (hM1 V1 e).2.2.2.2.1 k k0 k1
    rw [(hM1 V1 e).1.2.1] at h9
    exact h9
  have hn5 := hK.2.2.2.2.2.1
  have h59 := hK.2.2.2.2.2.2.1
  have h3 := hC.2.2.2.1
  have hrg := hC.2.2.2.2.2.1
  have h13 : V 13 1 = V 15 3 := hC.1.2.1.trans h3.symm
  have hn16 := hC.2.2.2.2.1
  have hb := hC.2.1.b
  have hg := hb.1
  have hv42 := hC.2.2.2.2.2.2.2.2.2.2.2.2.1.2.1
  have mj : ∀ V1 V2 : VV, (∀ a b : Int, 55 ≤ a → a ≠ 87 → V1 a b = V a b) → MIV V2 (V1 58) (V1 55 1) (V1 55 3) (V1 55 2) → MIV V2 (V 16) (V 15 3) (V 15 5) (V 15 4) := fun V1 V2 m h => by
    rw [m 55 1 (by decide) (by decide), m 55 2 (by decide) (by decide), m 55 3 (by decide) (by decide), ← hK.1, ← hK.2.1, ← hK.2.2.1] at h
    exact MIV_T (by omega) (fun e e0 e1 => (m 58 e (by decide) (by decide)).trans (hK.2.2.2.2.1 e e0 e1)) h
  refine st_21 (lo9 := 158) (fr2 := 3) (lo2 := 70) hX hR9 hi hrm (by decide) (by decide) (ok_X11_inverseOf_T hC.2.1 hC.2.2.1 hC.2.2.2.2.2.2.2.2.2.2.2.2.2.1 hC.2.2.2.2.2.2.2.2.2.2.2.2.2.2.1) (fun E V' h => h.elim (fun z => Or.inl z.1) (fun z => Or.inr z.1)) (fun k V1 hk => ok_X12_inverseOf ?_ ?_ ?_) (fun k V1 b V2 hk hq => ?_)
  · have m : ∀ a b : Int, 55 ≤ a → a ≠ 87 → V1 a b = V a b := fun a b h1 h2 => by
      rcases hk with ⟨x, V0, ⟨_, _, _, _, _, hf⟩, rfl, _⟩ | ⟨⟨_, _, _, _, hf⟩ | ⟨_, _, _, _, _, hf⟩, _⟩ | ⟨⟨_, _, _, _, hf⟩ | ⟨_, _, _, _, _, hf⟩, _⟩
      · rw [up_n _ (by omega), hf a b (by simp; omega)]
      · exact hf a b (by simp; omega)
      · exact hf a b (by simp; omega)
      · exact hf a b (by simp; omega)
      · exact hf a b (by simp; omega)
    exact hM.2.1.of (fun b => m 55 b (by decide) (by decide))
  · have m : ∀ a b : Int, 55 ≤ a → a ≠ 87 → V1 a b = V a b := fun a b h1 h2 => by
      rcases hk with ⟨x, V0, ⟨_, _, _, _, _, hf⟩, rfl, _⟩ | ⟨⟨_, _, _, _, hf⟩ | ⟨_, _, _, _, _, hf⟩, _⟩ | ⟨⟨_, _, _, _, hf⟩ | ⟨_, _, _, _, _, hf⟩, _⟩
      · rw [up_n _ (by omega), hf a b (by simp; omega)]
      · exact hf a b (by simp; omega)
      · exact hf a b (by simp; omega)
      · exact hf a b (by simp; omega)
      · exact hf a b (by simp; omega)
    have e55 : V1 55 = V 55 := funext (fun b => m 55 b (by decide) (by decide))
    have e58 : V1 58 = V 58 := funext (fun b => m 58 b (by decide) (by decide))
    have := hM.2.2.1
    unfold TRM at this ⊢
    rw [e55, e58]
    exact this
  · have m : ∀ a b : Int, 55 ≤ a → a ≠ 87 → V1 a b = V a b := fun a b h1 h2 => by
      rcases hk with ⟨x, V0, ⟨_, _, _, _, _, hf⟩, rfl, _⟩ | ⟨⟨_, _, _, _, hf⟩ | ⟨_, _, _, _, _, hf⟩, _⟩ | ⟨⟨_, _, _, _, hf⟩ | ⟨_, _, _, _, _, hf⟩, _⟩
      · rw [up_n _ (by omega), hf a b (by simp; omega)]
      · exact hf a b (by simp; omega)
      · exact hf a b (by simp; omega)
      · exact hf a b (by simp; omega)
      · exact hf a b (by simp; omega)
    intro h9
    have e55 : V1 55 = V 55 := funext (fun b => m 55 b (by decide) (by decide))
    have e58 : V1 58 = V 58 := funext (fun b => m 58 b (by decide) (by decide))
    rw [e55] at h9
    rw [e55, e58]
    exact MIV_c (m 55 39 (by decide) (by decide)) (m 55 40 (by decide) (by decide)) (funext (fun b => m 74 b (by decide) (by decide))) (hM.2.2.2.2.2.2.2.2.2.1 h9)
  · have m : ∀ a b : Int, 55 ≤ a → a ≠ 87 → V1 a b = V a b := fun a b h1 h2 => by
      rcases hk with ⟨x, V0, ⟨_, _, _, _, _, hf⟩, rfl, _⟩ | ⟨⟨_, _, _, _, hf⟩ | ⟨_, _, _, _, _, hf⟩, _⟩ | ⟨⟨_, _, _, _, hf⟩ | ⟨_, _, _, _, _, hf⟩, _⟩
      · rw [up_n _ (by omega), hf a b (by simp; omega)]
      · exact hf a b (by simp; omega)
      · exact hf a b (by simp; omega)
      · exact hf a b (by simp; omega)
      · exact hf a b (by simp; omega)
    rcases hk with ⟨x, V0, ⟨hx, hd, ⟨h42, hI, hv⟩, hP, _, hf⟩, rfl, rfl⟩ | ⟨⟨_, hno, hP, ⟨hI, hor⟩, hf⟩ | ⟨hc, _⟩, rfl⟩ | ⟨⟨hc, _⟩ | ⟨_, hd, ⟨h42, hI, hv⟩, hP, _, hf⟩, rfl⟩
    · rcases hq with ⟨hv2, hd2, hb2, hK9, q0⟩ | ⟨_, hv2, hK9, _⟩ | ⟨_, hv2, hd2, hK9, _⟩
      · have l38 : ∀ b, up V0 87 0 x 38 b = V0 38 b := fun b => up_n _ (by omega)
        have l42 : ∀ b, up V0 87 0 x 42 b = V0 42 b := fun b => up_n _ (by omega)
        have l43 : ∀ b, up V0 87 0 x 43 b = V0 43 b := fun b => up_n _ (by omega)
        have hLW : LKQ t q V2 := hL.ik2 (W := up V0 87 0 x) (fun a b ha => by simp at ha; rw [up_n _ (by omega), hf a b (by simp; omega)]) (by rw [l38, l38, l38]; exact hP) (by rw [l42, h42]; exact Int.le_refl _) (fun _ => hI.sm (funext l42) (funext l43)) hK9.2.1 (fun b h0 h1 h2 h3 => hK9.2.2.1 b h0 h1 h2 h3) (fun a b h1 h2 h3 h4 _ _ => hK9.2.2.2 a b h1 h3 h4) (fun k _ _ => hK9.2.2.2 59 k (by decide) (by decide) (by decide))
        refine ⟨q0, fun _ => ?_, hN _ (LKS.mono ⟨q, hLW⟩)⟩
        obtain ⟨z1, z2⟩ := inv_eq hg hI (mj _ _ m hK9.2.1)
        obtain ⟨z3, z4⟩ := z2 hv
        rw [hK9.2.2.2 87 0 (by decide) (by decide) (by decide), up_s, hx, hb2, m 55 1 (by decide) (by decide), ← hK.1, z1]
        have hd9 := (decC_b (g := V 15 3) (by omega) (V0 42 5).toNat (sx X (i + 1))).resolve_left hd
        exact (z4 _ hd9.1 hd9.2).symm
      · have z1 := (inv_eq hg hI (mj _ _ m hK9.2.1)).1
        omega
      · have z1 := (inv_eq hg hI (mj _ _ m hK9.2.1)).1
        rw [m 55 1 (by decide) (by decide), ← hK.1, z1] at hd2
        exact absurd hd2 hd
    · rcases hq with ⟨hv2, _, _, hK9, q0⟩ | ⟨_, hv2, hK9, q0⟩ | ⟨_, hv2, hd2, hK9, _⟩
      · exact absurd (inv_no hno (mj _ _ m hK9.2.1)) hv2
      · have hLW : LKQ t q V2 := hL.ik2 (W := V1) (fun a b ha => hf a b (by simp at ha ⊢; omega)) hP (hor.elim (fun z => by rw [z]; exact hv42) (fun z => Int.le_of_eq z)) hI hK9.2.1 (fun b h0 h1 h2 h3 => hK9.2.2.1 b h0 h1 h2 h3) (fun a b h1 h2 h3 h4 _ _ => hK9.2.2.2 a b h1 h3 h4) (fun k _ _ => hK9.2.2.2 59 k (by decide) (by decide) (by decide))
        exact ⟨q0, fun h => absurd h (by decide), hN _ (LKS.mono ⟨q, hLW⟩)⟩
      · exact absurd (inv_no hno (mj _ _ m hK9.2.1)) hv2
    · exact absurd hc (by decide)
    · exact absurd hc (by decide)
    · rcases hq with ⟨hv2, hd2, _, hK9, q0⟩ | ⟨_, hv2, hK9, _⟩ | ⟨_, hv2, hd2, hK9, q0⟩
      · have z1 := (inv_eq hg hI (mj _ _ m hK9.2.1)).1
        rw [m 55 1 (by decide) (by decide), ← hK.1, z1] at hd2
        exact absurd hd hd2
      · have z1 := (inv_eq hg hI (mj _ _ m hK9.2.1)).1
        omega
      · have hLW : LKQ t q V2 := hL.ik2 (W := V1) (fun a b ha => hf a b (by simp at ha ⊢; omega)) hP (Int.le_of_eq h42) (fun _ => hI) hK9.2.1 (fun b h0 h1 h2 h3 => hK9.2.2.1 b h0 h1 h2 h3) (fun a b h1 h2 h3 h4 _ _ => hK9.2.2.2 a b h1 h3 h4) (fun k _ _ => hK9.2.2.2 59 k (by decide) (by decide) (by decide))
        exact ⟨q0, fun h => absurd h (by decide), hN _ (LKS.mono ⟨q, hLW⟩)⟩
