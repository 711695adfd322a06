theorem valF_c {T B R T' B' R' : Int → Int} : ∀ n : Nat, (∀ k : Int, 0 ≤ k → k < n → T' (R' k) = T (R k) ∧ B' (R' k) = B (R k)) → valF T' B' R' n = valF T B R n
  | 0, _ => rfl
  | n + 1, h => by
    have ih := valF_c n (fun k k0 k1 => h k k0 (by omega))
    have h9 := h n (by omega) (by omega)
    unfold valF
    rw [ih, h9.1, h9.2]
set_option maxHeartbeats 2000000 in
theorem cse_24 {X : Cx} {t : Int} {V : VV} {i : Int} {c s : Nat} (hX : Good X RL cL_law 9 13 466) (hR9 : LX X) (hi : 0 ≤ i ∧ i + 5 < yLn (cY X)) (hrm : c + 1 ≤ (cR X).cells ∧ s + 6 ≤ (cR X).slots) (ht9 : 0 ≤ t ∧ t ≤ 600) (hL0 : LKS t V) (hN : ∀ V', LKS (t + 1) V' → J X (GT (c + 1) (s + 6)) 2097 (ls9 i) [] V') : J X (GT c s) 1254 (ls9 i) [] V := by
  obtain ⟨q, hL⟩ := hL0
  have hC := hL.1
  have hM := hL.2.1
  have hK := hL.2.2
  have g13 : V 13 1 = V 55 1 := hC.1.2.1.trans hM.1.2.1.symm
  have hM1 : ∀ V1, V1 = V → LKM q V1 := fun V1 e => e.symm ▸ hM
  have hR1 : ∀ V1 : VV, V1 = V → ∀ k, 0 ≤ k → k < V1 55 5 → 0 ≤ V1 59 k ∧ V1 59 k < gO q := fun V1 e k k0 k1 => by
    have h9 := (hM1 V1 e).2.2.2.2.1 k k0 k1
    rw [(hM1 V1 e).1.2.1] at h9
    exact h9
  have hn5 := hK.2.2.2.2.2.1
  have h59 := hK.2.2.2.2.2.2.1
  have h3 := hC.2.2.2.1
  have hrg := hC.2.2.2.2.2.1
  have h13 : V 13 1 = V 15 3 := hC.1.2.1.trans h3.symm
  have t58 := hK.2.2.2.2.1
  refine st_24 (lo9 := 130) (fr2 := 4) (lo2 := 100) hX hR9 hi hrm (by decide) (by decide) (ok_X11_value hC.2.1 hC.2.2.1 hC.2.2.2.2.2.2.2.2.2.2.2.2.2.2.2.1 hC.2.2.2.2.1 hC.2.2.2.2.2.1) (fun E V' h => h.elim (fun z => Or.inl z.1) (fun z => Or.inr z.1)) (fun k V1 hk => ok_X12_value ?_ ?_ ?_ ?_ ?_) (fun k V1 b V2 hk hq => ?_)
  · have hcom : V1 44 4 = V 15 7 ∧ BASP V1 (V 16) (V 15 3) (V 15 6) (V 15 5) ∧ ∀ a b : Int, a ∉ ([44, 45, 46, 47, 48, 87] : List Int) → V1 a b = V a b := by
      rcases hk with ⟨x, V0, ⟨_, _, h4, hB, hf⟩, rfl, _⟩ | ⟨⟨_, _, h4, hB, hf⟩ | ⟨hc, _⟩, _⟩ | ⟨⟨hc, _⟩ | ⟨_, _, _, h4, hB, hf⟩, _⟩
      · exact ⟨(up_n _ (by omega)).trans h4, hB.u, fun a b ha => by simp at ha; rw [up_n _ (by omega), hf a b (by simp; omega)]⟩
      · exact ⟨h4, hB, fun a b ha => by simp at ha; exact hf a b (by simp; omega)⟩
      · exact absurd hc (by decide)
      · exact absurd hc (by decide)
      · exact ⟨h4, hB, fun a b ha => by simp at ha; exact hf a b (by simp; omega)⟩
    have m : ∀ a b : Int, 55 ≤ a → a ≠ 87 → V1 a b = V a b := fun a b h1 h2 => hcom.2.2 a b (by simp; omega)
    exact hM.2.1.of (fun b => m 55 b (by decide) (by decide))
  · have hcom : V1 44 4 = V 15 7 ∧ BASP V1 (V 16) (V 15 3) (V 15 6) (V 15 5) ∧ ∀ a b : Int, a ∉ ([44, 45, 46, 47, 48, 87] : List Int) → V1 a b = V a b := by
      rcases hk with ⟨x, V0, ⟨_, _, h4, hB, hf⟩, rfl, _⟩ | ⟨⟨_, _, h4, hB, hf⟩ | ⟨hc, _⟩, _⟩ | ⟨⟨hc, _⟩ | ⟨_, _, _, h4, hB, hf⟩, _⟩
      · exact ⟨(up_n _ (by omega)).trans h4, hB.u, fun a b ha => by simp at ha; rw [up_n _ (by omega), hf a b (by simp; omega)]⟩
      · exact ⟨h4, hB, fun a b ha => by simp at ha; exact hf a b (by simp; omega)⟩
      · exact absurd hc (by decide)
      · exact absurd hc (by decide)
      · exact ⟨h4, hB, fun a b ha => by simp at ha; exact hf a b (by simp; omega)⟩
    have m : ∀ a b : Int, 55 ≤ a → a ≠ 87 → V1 a b = V a b := fun a b h1 h2 => hcom.2.2 a b (by simp; omega)
    exact hM.2.2.1.of (fun a b h => m a b (by omega) (by omega))
  · have hcom : V1 44 4 = V 15 7 ∧ BASP V1 (V 16) (V 15 3) (V 15 6) (V 15 5) ∧ ∀ a b : Int, a ∉ ([44, 45, 46, 47, 48, 87] : List Int) → V1 a b = V a b := by
      rcases hk with ⟨x, V0, ⟨_, _, h4, hB, hf⟩, rfl, _⟩ | ⟨⟨_, _, h4, hB, hf⟩ | ⟨hc, _⟩, _⟩ | ⟨⟨hc, _⟩ | ⟨_, _, _, h4, hB, hf⟩, _⟩
      · exact ⟨(up_n _ (by omega)).trans h4, hB.u, fun a b ha => by simp at ha; rw [up_n _ (by omega), hf a b (by simp; omega)]⟩
      · exact ⟨h4, hB, fun a b ha => by simp at ha; exact hf a b (by simp; omega)⟩
      · exact absurd hc (by decide)
      · exact absurd hc (by decide)
      · exact ⟨h4, hB, fun a b ha => by simp at ha; exact hf a b (by simp; omega)⟩
    have m : ∀ a b : Int, 55 ≤ a → a ≠ 87 → V1 a b = V a b := fun a b h1 h2 => hcom.2.2 a b (by simp; omega)
    exact MBP.of m hM.2.2.2.2.2.2.2.2.2.2
  · have hcom : V1 44 4 = V 15 7 ∧ BASP V1 (V 16) (V 15 3) (V 15 6) (V 15 5) ∧ ∀ a b : Int, a ∉ ([44, 45, 46, 47, 48, 87] : List Int) → V1 a b = V a b := by
      rcases hk with ⟨x, V0, ⟨_, _, h4, hB, hf⟩, rfl, _⟩ | ⟨⟨_, _, h4, hB, hf⟩ | ⟨hc, _⟩, _⟩ | ⟨⟨hc, _⟩ | ⟨_, _, _, h4, hB, hf⟩, _⟩
      · exact ⟨(up_n _ (by omega)).trans h4, hB.u, fun a b ha => by simp at ha; rw [up_n _ (by omega), hf a b (by simp; omega)]⟩
      · exact ⟨h4, hB, fun a b ha => by simp at ha; exact hf a b (by simp; omega)⟩
      · exact absurd hc (by decide)
      · exact absurd hc (by decide)
      · exact ⟨h4, hB, fun a b ha => by simp at ha; exact hf a b (by simp; omega)⟩
    have m : ∀ a b : Int, 55 ≤ a → a ≠ 87 → V1 a b = V a b := fun a b h1 h2 => hcom.2.2 a b (by simp; omega)
    rw [m 55 5 (by decide) (by decide)]; exact hM.2.2.2.1
  · have hcom : V1 44 4 = V 15 7 ∧ BASP V1 (V 16) (V 15 3) (V 15 6) (V 15 5) ∧ ∀ a b : Int, a ∉ ([44, 45, 46, 47, 48, 87] : List Int) → V1 a b = V a b := by
      rcases hk with ⟨x, V0, ⟨_, _, h4, hB, hf⟩, rfl, _⟩ | ⟨⟨_, _, h4, hB, hf⟩ | ⟨hc, _⟩, _⟩ | ⟨⟨hc, _⟩ | ⟨_, _, _, h4, hB, hf⟩, _⟩
      · exact ⟨(up_n _ (by omega)).trans h4, hB.u, fun a b ha => by simp at ha; rw [up_n _ (by omega), hf a b (by simp; omega)]⟩
      · exact ⟨h4, hB, fun a b ha => by simp at ha; exact hf a b (by simp; omega)⟩
      · exact absurd hc (by decide)
      · exact absurd hc (by decide)
      · exact ⟨h4, hB, fun a b ha => by simp at ha; exact hf a b (by simp; omega)⟩
    have m : ∀ a b : Int, 55 ≤ a → a ≠ 87 → V1 a b = V a b := fun a b h1 h2 => hcom.2.2 a b (by simp; omega)
    intro k k0 k1
    rw [m 55 5 (by decide) (by decide)] at k1
    rw [m 59 k (by decide) (by decide), m 55 1 (by decide) (by decide)]
    exact hM.2.2.2.2.1 k k0 k1
  · have hcom : V1 44 4 = V 15 7 ∧ BASP V1 (V 16) (V 15 3) (V 15 6) (V 15 5) ∧ ∀ a b : Int, a ∉ ([44, 45, 46, 47, 48, 87] : List Int) → V1 a b = V a b := by
      rcases hk with ⟨x, V0, ⟨_, _, h4, hB, hf⟩, rfl, _⟩ | ⟨⟨_, _, h4, hB, hf⟩ | ⟨hc, _⟩, _⟩ | ⟨⟨hc, _⟩ | ⟨_, _, _, h4, hB, hf⟩, _⟩
      · exact ⟨(up_n _ (by omega)).trans h4, hB.u, fun a b ha => by simp at ha; rw [up_n _ (by omega), hf a b (by simp; omega)]⟩
      · exact ⟨h4, hB, fun a b ha => by simp at ha; exact hf a b (by simp; omega)⟩
      · exact absurd hc (by decide)
      · exact absurd hc (by decide)
      · exact ⟨h4, hB, fun a b ha => by simp at ha; exact hf a b (by simp; omega)⟩
    have m : ∀ a b : Int, 55 ≤ a → a ≠ 87 → V1 a b = V a b := fun a b h1 h2 => hcom.2.2 a b (by simp; omega)
    obtain ⟨hq, hS⟩ := hq
    have hMB := hS.2.1
    rw [m 55 1 (by decide) (by decide), m 55 4 (by decide) (by decide), m 55 3 (by decide) (by decide), ← hK.1, ← hK.2.2.1, ← hK.2.2.2.1] at hMB
    have he := bas_eq hC.2.1 (fun e e0 e1 => (m 58 e (by decide) (by decide)).trans (t58 e e0 e1)) hcom.2.1 hMB
    have hW := hL.bs hcom.2.2 hcom.1 hcom.2.1 hS
    have r59 : ∀ k, 0 ≤ k → k < V 23 1 → V1 59 k = V 24 k := fun k k0 k1 => (m 59 k (by decide) (by decide)).trans (h59 k k0 k1)
    have hv : 0 ≤ (sx X (i + 1)) → (sx X (i + 1)) < V1 44 6 → valF (fun s => V2 77 (12 * (sx X (i + 1)) + 2 * s)) (fun s => V2 77 (12 * (sx X (i + 1)) + 2 * s + 1)) (V1 59) (V 23 1).toNat = valF (fun s => V1 47 ((sx X (i + 1)) * 6 + s)) (fun s => V1 48 ((sx X (i + 1)) * 6 + s)) (V 24) (V 23 1).toNat := fun r0 r1 => valF_c _ (fun k k0 k1 => by
      have k2 : k < V 23 1 := by omega
      have hr := hrg k k0 k2
      have u := he.2 _ r0 r1 (V 24 k) hr.1 hr.2
      rw [r59 k k0 k2]
      exact ⟨u.1.symm, u.2.symm⟩)
    rw [m 55 5 (by decide) (by decide), ← hn5, ← he.1] at hq
    have k87 : V2 87 0 = V1 87 0 := hS.2.2.2 87 0 (by decide) (by decide)
    rcases hk with ⟨x, V0, ⟨rfl, hc, h4, hB, hf⟩, rfl, rfl⟩ | ⟨⟨_, hc, h4, hB, hf⟩ | ⟨hc, _⟩, rfl⟩ | ⟨⟨hc, _⟩ | ⟨_, hc, hc2, h4, hB, hf⟩, rfl⟩
    · have g44 : ∀ z : Int, up V0 87 0 z 44 6 = V0 44 6 := fun z => up_n _ (by omega)
      rw [g44] at hq
      rcases hq with ⟨_, _, rfl, q0⟩ | ⟨hn, _⟩ | ⟨_, hn, _⟩
      · refine ⟨q0, fun _ => ?_, hN _ (LKS.mono ⟨q, hW⟩)⟩
        rw [hv hc.1.1 (by rw [g44]; exact hc.1.2), k87, up_s]
        have g47 : ∀ z : Int, up V0 87 0 z 47 = V0 47 := fun z => funext (fun b => up_n _ (by omega))
        have g48 : ∀ z : Int, up V0 87 0 z 48 = V0 48 := fun z => funext (fun b => up_n _ (by omega))
        rw [g47, g48]
      · exact absurd hc.1 hn
      · exact absurd hc.2 hn
    · rcases hq with ⟨hn, _⟩ | ⟨_, _, q0⟩ | ⟨hn, _⟩
      · exact absurd hn hc
      · exact ⟨q0, fun h => absurd h (by decide), hN _ (LKS.mono ⟨q, hW⟩)⟩
      · exact absurd hn hc
    · exact absurd hc (by decide)
    · exact absurd hc (by decide)
    · rcases hq with ⟨_, hn, _⟩ | ⟨hn, _⟩ | ⟨_, _, _, q0⟩
      · exact absurd hn hc2
      · exact absurd hc hn
      · exact ⟨q0, fun h => absurd h (by decide), hN _ (LKS.mono ⟨q, hW⟩)⟩
