/-! back: the rows of the class and of the model are one; its case -/
theorem rowM_eq {W1 W2 : VV} {T R S : Int → Int} {g m w n : Int} (hg : 2 ≤ g ∧ g ≤ 6) (hn : 1 ≤ n) (h1 : IVP W1 T g m w) (h2 : MIV W2 T g m w) (hv : W1 42 5 ≠ 0) (e1 : W2 55 1 = g) (e2 : W2 55 2 = w) (e5 : W2 55 5 = n) (hR : ∀ k, 0 ≤ k → k < n → 0 ≤ R k ∧ R k < g) (hS : ∀ k, 0 ≤ k → k < n → S k = R k) (k : Int) : rowM W2 S k = rowB W1 n R k := by
  obtain ⟨z1, z2⟩ := inv_eq hg h1 h2
  obtain ⟨z3, z4⟩ := z2 hv
  unfold rowM rowB
  rw [e1, e2, e5, z1, z3, h1.1, h1.2.1]
  have hb : ∀ j : Int, 0 ≤ j % n ∧ j % n < n := fun j => ⟨Int.emod_nonneg _ (by omega), Int.emod_lt_of_pos _ (by omega)⟩
  have e : (fun i : Int => S ((k - W1 42 6 + w - 2 + i) % n)) = fun j : Int => R ((k - W1 42 6 + (w - 2) + j) % n) := by
    funext j
    rw [show k - W1 42 6 + w - 2 + j = k - W1 42 6 + (w - 2) + j by omega]
    exact hS _ (hb _).1 (hb _).2
  rw [e]
  have hc := codeF_b (b := g) (R := fun j : Int => R ((k - W1 42 6 + (w - 2) + j) % n)) (by omega) (W1 42 5).toNat (fun j _ _ => hR _ (hb _).1 (hb _).2)
  exact z4 _ hc.1 hc.2
theorem it_eq {W1 W2 : VV} {T R S : Int → Int} {g m w n : Int} (hg : 2 ≤ g ∧ g ≤ 6) (hn : 1 ≤ n) (h1 : IVP W1 T g m w) (h2 : MIV W2 T g m w) (hv : W1 42 5 ≠ 0) (e1 : W2 55 1 = g) (e2 : W2 55 2 = w) (e5 : W2 55 5 = n) (hR : ∀ k, 0 ≤ k → k < n → 0 ≤ R k ∧ R k < g) (hS : ∀ k, 0 ≤ k → k < n → S k = R k) : ∀ t : Nat, (∀ s : Nat, s < t → ∀ k, 0 ≤ k → k < n → itB W1 n R (s + 1) k ≠ -1) → ∀ k, 0 ≤ k → k < n → itM W2 S t k = itB W1 n R t k ∧ 0 ≤ itB W1 n R t k ∧ itB W1 n R t k < g
  | 0, _, k, k0, k1 => ⟨hS k k0 k1, hR k k0 k1⟩
  | t + 1, h, k, k0, k1 => by
    have ih := it_eq hg hn h1 h2 hv e1 e2 e5 hR hS t (fun s hs => h s (by omega))
    refine ⟨?_, rowB_b (R := itB W1 n R t) hg h1 (h t (Nat.lt_succ_self t) k k0 k1)⟩
    show rowM W2 (itM W2 S t) k = rowB W1 n (itB W1 n R t) k
    exact rowM_eq hg hn h1 h2 hv e1 e2 e5 (fun j j0 j1 => (ih j j0 j1).2) (fun j j0 j1 => (ih j j0 j1).1) k
theorem it_eq1 {W1 W2 : VV} {T R S : Int → Int} {g m w n : Int} (hg : 2 ≤ g ∧ g ≤ 6) (hn : 1 ≤ n) (h1 : IVP W1 T g m w) (h2 : MIV W2 T g m w) (hv : W1 42 5 ≠ 0) (e1 : W2 55 1 = g) (e2 : W2 55 2 = w) (e5 : W2 55 5 = n) (hR : ∀ k, 0 ≤ k → k < n → 0 ≤ R k ∧ R k < g) (hS : ∀ k, 0 ≤ k → k < n → S k = R k) {t : Int} (t0 : 0 ≤ t) (h : ∀ s, 0 ≤ s → s < t → ∀ k, 0 ≤ k → k < n → itB W1 n R (s + 1).toNat k ≠ -1) {k : Int} : itM W2 S (t + 1).toNat k = itB W1 n R (t + 1).toNat k := by
  have ih := it_eq hg hn h1 h2 hv e1 e2 e5 hR hS t.toNat (fun s hs => by
    have h9 := h s (by omega) (by omega)
    rw [show ((s : Int) + 1).toNat = s + 1 by omega] at h9
    exact h9)
  rw [show (t + 1).toNat = t.toNat + 1 by omega]
  show rowM W2 (itM W2 S t.toNat) k = rowB W1 n (itB W1 n R t.toNat) k
  exact rowM_eq hg hn h1 h2 hv e1 e2 e5 (fun j j0 j1 => (ih j j0 j1).2) (fun j j0 j1 => (ih j j0 j1).1) k
set_option maxHeartbeats 2000000 in
theorem cse_35 {X : Cx} {t : Int} {V : VV} {i : Int} {c s : Nat} (hX : Good X RL cL_law 9 13 466) (hR9 : LX X) (hi : 0 ≤ i ∧ i + 5 < yLn (cY X)) (hrm : c + 1 ≤ (cR X).cells ∧ s + 6 ≤ (cR X).slots) (ht9 : 0 ≤ t ∧ t ≤ 600) (hL0 : LKS t V) (hN : ∀ V', LKS (t + 1) V' → J X (GT (c + 1) (s + 6)) 2097 (ls9 i) [] V') : J X (GT c s) 1736 (ls9 i) [] V := by
  obtain ⟨q, hL⟩ := hL0
  have hC := hL.1
  have hM := hL.2.1
  have hK := hL.2.2
  have g13 : V 13 1 = V 55 1 := hC.1.2.1.trans hM.1.2.1.symm
  have hM1 : ∀ V1, V1 = V → LKM q V1 := fun V1 e => e.symm ▸ hM
  have hR1 : ∀ V1 : VV, V1 = V → ∀ k, 0 ≤ k → k < V1 55 5 → 0 ≤ V1 59 k ∧ V1 59 k < gO q := fun V1 e k k0 k1 => by
    have h9 := (hM1 V1 e).2.2.2.2.1 k k0 k1
    rw [(hM1 V1 e).1.2.1] at h9
    exact h9
  have hn5 := hK.2.2.2.2.2.1
  have h59 := hK.2.2.2.2.2.2.1
  have h3 := hC.2.2.2.1
  have hrg := hC.2.2.2.2.2.1
  have h13 : V 13 1 = V 15 3 := hC.1.2.1.trans h3.symm
  have hn16 := hC.2.2.2.2.1
  have hb := hC.2.1.b
  have hg := hb.1
  have hv42 := hC.2.2.2.2.2.2.2.2.2.2.2.2.1.2.1
  have mj : ∀ V1 V2 : VV, (∀ a b : Int, 55 ≤ a → a ≠ 87 → V1 a b = V a b) → MIV V2 (V1 58) (V1 55 1) (V1 55 3) (V1 55 2) → MIV V2 (V 16) (V 15 3) (V 15 5) (V 15 4) := fun V1 V2 m h => by
    rw [m 55 1 (by decide) (by decide), m 55 2 (by decide) (by decide), m 55 3 (by decide) (by decide), ← hK.1, ← hK.2.1, ← hK.2.2.1] at h
    exact MIV_T (by omega) (fun e e0 e1 => (m 58 e (by decide) (by decide)).trans (hK.2.2.2.2.1 e e0 e1)) h
  have hpm := hM.2.2.2.2.2.1
  have hcl := hC.2.2.2.2.2.2.1
  have hcc := hC.2.2.2.2.2.2.2.1
  have hHH : HIS V := hK.2.2.2.2.2.2.2.2.2.2.2.2.2.2.2
  refine st_35 (lo9 := 158) (fr2 := 3) (lo2 := 70) hX hR9 hi hrm (by decide) (by decide) (ok_X11_back_T hC.2.1 hC.2.2.1 hC.2.2.2.2.2.2.2.2.2.2.2.2.2.1 hC.2.2.2.2.2.2.2.2.2.2.2.2.2.2.1 hn16 hrg hcl hcc) (fun E V' h => h.elim (fun z => Or.inl z.1) (fun z => z.elim (fun z => Or.inr (Or.inl z.1)) (fun z => Or.inr (Or.inr z.1)))) (fun k V1 hk => ok_X12_back ?_ ?_ ?_ ?_ ?_ ?_) (fun k V1 b V2 hk hq => ?_)
  · have m : ∀ a b : Int, 55 ≤ a → a ≠ 87 → V1 a b = V a b := fun a b h1 h2 => by
      rcases hk with ⟨x, V0, ⟨_, _, _, _, hf⟩, rfl, _⟩ | ⟨⟨_, _, rfl⟩ | ⟨_, _, _, _, _, hf⟩ | ⟨_, _, _, _, _, hf⟩, _⟩ | ⟨⟨_, _, rfl⟩ | ⟨_, _, _, _, _, hf⟩ | ⟨_, _, _, _, _, hf⟩, _⟩ | ⟨⟨_, _, rfl⟩ | ⟨_, _, _, _, _, hf⟩ | ⟨_, _, _, _, _, hf⟩, _⟩
      · rw [up_n _ (by omega), hf a b (by simp; omega)]
      · rfl
      · exact hf a b (by simp; omega)
      · exact hf a b (by simp; omega)
      · rfl
      · exact hf a b (by simp; omega)
      · exact hf a b (by simp; omega)
      · rfl
      · exact hf a b (by simp; omega)
      · exact hf a b (by simp; omega)
    exact hM.2.1.of (fun b => m 55 b (by decide) (by decide))
  · have m : ∀ a b : Int, 55 ≤ a → a ≠ 87 → V1 a b = V a b := fun a b h1 h2 => by
      rcases hk with ⟨x, V0, ⟨_, _, _, _, hf⟩, rfl, _⟩ | ⟨⟨_, _, rfl⟩ | ⟨_, _, _, _, _, hf⟩ | ⟨_, _, _, _, _, hf⟩, _⟩ | ⟨⟨_, _, rfl⟩ | ⟨_, _, _, _, _, hf⟩ | ⟨_, _, _, _, _, hf⟩, _⟩ | ⟨⟨_, _, rfl⟩ | ⟨_, _, _, _, _, hf⟩ | ⟨_, _, _, _, _, hf⟩, _⟩
      · rw [up_n _ (by omega), hf a b (by simp; omega)]
      · rfl
      · exact hf a b (by simp; omega)
      · exact hf a b (by simp; omega)
      · rfl
      · exact hf a b (by simp; omega)
      · exact hf a b (by simp; omega)
      · rfl
      · exact hf a b (by simp; omega)
      · exact hf a b (by simp; omega)
    have e55 : V1 55 = V 55 := funext (fun b => m 55 b (by decide) (by decide))
    have e58 : V1 58 = V 58 := funext (fun b => m 58 b (by decide) (by decide))
    have := hM.2.2.1
    unfold TRM at this ⊢
    rw [e55, e58]
    exact this
  · have m : ∀ a b : Int, 55 ≤ a → a ≠ 87 → V1 a b = V a b := fun a b h1 h2 => by
      rcases hk with ⟨x, V0, ⟨_, _, _, _, hf⟩, rfl, _⟩ | ⟨⟨_, _, rfl⟩ | ⟨_, _, _, _, _, hf⟩ | ⟨_, _, _, _, _, hf⟩, _⟩ | ⟨⟨_, _, rfl⟩ | ⟨_, _, _, _, _, hf⟩ | ⟨_, _, _, _, _, hf⟩, _⟩ | ⟨⟨_, _, rfl⟩ | ⟨_, _, _, _, _, hf⟩ | ⟨_, _, _, _, _, hf⟩, _⟩
      · rw [up_n _ (by omega), hf a b (by simp; omega)]
      · rfl
      · exact hf a b (by simp; omega)
      · exact hf a b (by simp; omega)
      · rfl
      · exact hf a b (by simp; omega)
      · exact hf a b (by simp; omega)
      · rfl
      · exact hf a b (by simp; omega)
      · exact hf a b (by simp; omega)
    intro h9
    have e55 : V1 55 = V 55 := funext (fun b => m 55 b (by decide) (by decide))
    have e58 : V1 58 = V 58 := funext (fun b => m 58 b (by decide) (by decide))
    rw [e55] at h9
    rw [e55, e58]
    exact MIV_c (m 55 39 (by decide) (by decide)) (m 55 40 (by decide) (by decide)) (funext (fun b => m 74 b (by decide) (by decide))) (hM.2.2.2.2.2.2.2.2.2.1 h9)
  · have m : ∀ a b : Int, 55 ≤ a → a ≠ 87 → V1 a b = V a b := fun a b h1 h2 => by
      rcases hk with ⟨x, V0, ⟨_, _, _, _, hf⟩, rfl, _⟩ | ⟨⟨_, _, rfl⟩ | ⟨_, _, _, _, _, hf⟩ | ⟨_, _, _, _, _, hf⟩, _⟩ | ⟨⟨_, _, rfl⟩ | ⟨_, _, _, _, _, hf⟩ | ⟨_, _, _, _, _, hf⟩, _⟩ | ⟨⟨_, _, rfl⟩ | ⟨_, _, _, _, _, hf⟩ | ⟨_, _, _, _, _, hf⟩, _⟩
      · rw [up_n _ (by omega), hf a b (by simp; omega)]
      · rfl
      · exact hf a b (by simp; omega)
      · exact hf a b (by simp; omega)
      · rfl
      · exact hf a b (by simp; omega)
      · exact hf a b (by simp; omega)
      · rfl
      · exact hf a b (by simp; omega)
      · exact hf a b (by simp; omega)
    rw [m 55 5 (by decide) (by decide)]; exact hM.2.2.2.1
  · have m : ∀ a b : Int, 55 ≤ a → a ≠ 87 → V1 a b = V a b := fun a b h1 h2 => by
      rcases hk with ⟨x, V0, ⟨_, _, _, _, hf⟩, rfl, _⟩ | ⟨⟨_, _, rfl⟩ | ⟨_, _, _, _, _, hf⟩ | ⟨_, _, _, _, _, hf⟩, _⟩ | ⟨⟨_, _, rfl⟩ | ⟨_, _, _, _, _, hf⟩ | ⟨_, _, _, _, _, hf⟩, _⟩ | ⟨⟨_, _, rfl⟩ | ⟨_, _, _, _, _, hf⟩ | ⟨_, _, _, _, _, hf⟩, _⟩
      · rw [up_n _ (by omega), hf a b (by simp; omega)]
      · rfl
      · exact hf a b (by simp; omega)
      · exact hf a b (by simp; omega)
      · rfl
      · exact hf a b (by simp; omega)
      · exact hf a b (by simp; omega)
      · rfl
      · exact hf a b (by simp; omega)
      · exact hf a b (by simp; omega)
    rw [m 55 21 (by decide) (by decide)]; exact hpm
  · have m : ∀ a b : Int, 55 ≤ a → a ≠ 87 → V1 a b = V a b := fun a b h1 h2 => by
      rcases hk with ⟨x, V0, ⟨_, _, _, _, hf⟩, rfl, _⟩ | ⟨⟨_, _, rfl⟩ | ⟨_, _, _, _, _, hf⟩ | ⟨_, _, _, _, _, hf⟩, _⟩ | ⟨⟨_, _, rfl⟩ | ⟨_, _, _, _, _, hf⟩ | ⟨_, _, _, _, _, hf⟩, _⟩ | ⟨⟨_, _, rfl⟩ | ⟨_, _, _, _, _, hf⟩ | ⟨_, _, _, _, _, hf⟩, _⟩
      · rw [up_n _ (by omega), hf a b (by simp; omega)]
      · rfl
      · exact hf a b (by simp; omega)
      · exact hf a b (by simp; omega)
      · rfl
      · exact hf a b (by simp; omega)
      · exact hf a b (by simp; omega)
      · rfl
      · exact hf a b (by simp; omega)
      · exact hf a b (by simp; omega)
    intro k k0 k1
    rw [m 55 5 (by decide) (by decide)] at k1
    rw [m 59 k (by decide) (by decide), m 55 1 (by decide) (by decide)]
    exact hM.2.2.2.2.1 k k0 k1
  · have m : ∀ a b : Int, 55 ≤ a → a ≠ 87 → V1 a b = V a b := fun a b h1 h2 => by
      rcases hk with ⟨x, V0, ⟨_, _, _, _, hf⟩, rfl, _⟩ | ⟨⟨_, _, rfl⟩ | ⟨_, _, _, _, _, hf⟩ | ⟨_, _, _, _, _, hf⟩, _⟩ | ⟨⟨_, _, rfl⟩ | ⟨_, _, _, _, _, hf⟩ | ⟨_, _, _, _, _, hf⟩, _⟩ | ⟨⟨_, _, rfl⟩ | ⟨_, _, _, _, _, hf⟩ | ⟨_, _, _, _, _, hf⟩, _⟩
      · rw [up_n _ (by omega), hf a b (by simp; omega)]
      · rfl
      · exact hf a b (by simp; omega)
      · exact hf a b (by simp; omega)
      · rfl
      · exact hf a b (by simp; omega)
      · exact hf a b (by simp; omega)
      · rfl
      · exact hf a b (by simp; omega)
      · exact hf a b (by simp; omega)
    have r59 : ∀ k, 0 ≤ k → k < V 23 1 → V1 59 k = V 24 k := fun k k0 k1 => (m 59 k (by decide) (by decide)).trans (h59 k k0 k1)
    have w1 : V1 55 1 = V 15 3 := (m 55 1 (by decide) (by decide)).trans hK.1.symm
    have w2 : V1 55 2 = V 15 4 := (m 55 2 (by decide) (by decide)).trans hK.2.1.symm
    have w5 : V1 55 5 = V 23 1 := (m 55 5 (by decide) (by decide)).trans hn5.symm
    rw [w5] at hq
    rcases hk with ⟨x, V0, ⟨⟨ha, hx, hring, hok, h23⟩, ⟨h42, hI, hv⟩, hRC, hP, hf⟩, rfl, rfl⟩ | ⟨⟨_, hc, rfl⟩ | ⟨hc, _⟩ | ⟨hc, _⟩, rfl⟩ | ⟨⟨hc, _⟩ | ⟨_, hc, hno, hP, ⟨hI, hor⟩, hf⟩ | ⟨hc, _⟩, rfl⟩ | ⟨⟨hc, _⟩ | ⟨hc, _⟩ | ⟨_, hc, ⟨t9, t0, t1, tok, k9, k90, k91, kb⟩, ⟨h42, hI, hv⟩, hP, hf⟩, rfl⟩
    · rcases hq with ⟨_, hv2, hok2, hr2, hb2, q0, hKP, hKN⟩ | ⟨hn, _⟩ | ⟨_, _, hv2, hKN, _⟩ | ⟨_, _, hv2, ⟨t9, t0, t1, tok, k9, k90, k91, kb⟩, _, _, _, _, hKN⟩
      · have hJ := mj _ _ m hKN.2.1
        have y1 : V2 55 1 = V 15 3 := (hKN.2.2.1 1 (by decide) (by decide) (by decide) (by decide) (by decide)).trans w1
        have y2 : V2 55 2 = V 15 4 := (hKN.2.2.1 2 (by decide) (by decide) (by decide) (by decide) (by decide)).trans w2
        have y5 : V2 55 5 = V 23 1 := (hKN.2.2.1 5 (by decide) (by decide) (by decide) (by decide) (by decide)).trans w5
        have lo : ∀ a b : Int, a < 55 → V2 a b = V0 a b := fun a b h => by rw [hKN.2.2.2 a b (by omega) (by omega) (by omega) (by omega) (by omega) (by omega) (by omega), up_n _ (by omega)]
        have w24 : ∀ k, 0 ≤ k → k < V 23 1 → V2 24 k = itB V0 (V 23 1) (V 24) (sx X (i + 1)).toNat k := fun k k0 k1 => (lo 24 k (by decide)).trans (hring k k0 k1)
        have hit := it_eq (S := up V0 87 0 x 59) hg hn16.1 hI hJ hv y1 y2 y5 hrg r59 (sx X (i + 1)).toNat (fun s hs => by
          have h9 := hok s (by omega) (by omega)
          rw [show ((s : Int) + 1).toNat = s + 1 by omega] at h9
          exact h9)
        have w59 : ∀ k, 0 ≤ k → k < V 23 1 → V2 59 k = V2 24 k := fun k k0 k1 => by rw [hr2 k k0 k1, w24 k k0 k1, (hit k k0 k1).1]
        have g24 : ∀ k, 0 ≤ k → k < V 23 1 → 0 ≤ V2 24 k ∧ V2 24 k < V 15 3 := fun k k0 k1 => by rw [w24 k k0 k1]; exact (hit k k0 k1).2
        have w23 : V2 23 1 = V 23 1 := (lo 23 1 (by decide)).trans h23
        have v1 : ∀ a b : Int, 55 ≤ a → a < 70 → up V0 87 0 x a b = V a b := fun a b h1 h2 => m a b h1 (by omega)
        have hRW : REC V V2 (-1) 0 := hRC.to (fun a b h1 h2 => lo a b (by omega))
        have hKW : KPS V V2 := hKP.of v1
        have e15 : ∀ b, V2 15 b = V 15 b := fun b => (lo 15 b (by decide)).trans (hf 15 b (by decide))
        have e16 : ∀ b, V2 16 b = V 16 b := fun b => (lo 16 b (by decide)).trans (hf 16 b (by decide))
        have hH : HIS V2 := HIS_push hHH hn16 hrg hpm hcl hRW hKW (e15 3) (e15 5) hK.2.2.1 hb.2.2.2.2 hn5 h59 hK.2.2.2.2.1 hC.2.2.1 (Or.inl rfl) (fun e _ _ _ => e16 e)
        have kp : 0 ≤ kpP V ∧ kpP V ≤ 9 := by
          unfold kpP
          split <;> omega
        -- between: the searches done, the ring as it was
        obtain ⟨U, hU⟩ : ∃ U : VV, U = fun a b => if (a = 38 ∨ a = 42 ∨ a = 43 ∨ a = 74 ∨ (a = 55 ∧ (b = 38 ∨ b = 39 ∨ b = 40))) then V2 a b else V a b := ⟨_, rfl⟩
        have uY : ∀ a b : Int, (a = 38 ∨ a = 42 ∨ a = 43 ∨ a = 74 ∨ (a = 55 ∧ (b = 38 ∨ b = 39 ∨ b = 40))) → U a b = V2 a b := fun a b h => by rw [hU]; exact if_pos h
        have uN : ∀ a b : Int, ¬ (a = 38 ∨ a = 42 ∨ a = 43 ∨ a = 74 ∨ (a = 55 ∧ (b = 38 ∨ b = 39 ∨ b = 40))) → U a b = V a b := fun a b h => by rw [hU]; exact if_neg h
        have u38 : ∀ b, U 38 b = V0 38 b := fun b => (uY 38 b (by omega)).trans (lo 38 b (by decide))
        have u42 : ∀ b, U 42 b = V0 42 b := fun b => (uY 42 b (by omega)).trans (lo 42 b (by decide))
        have u43 : ∀ b, U 43 b = V0 43 b := fun b => (uY 43 b (by omega)).trans (lo 43 b (by decide))
        have hLU : LKQ t q U := hL.ik (fun a ha hb9 b => by
            have h9 := (rel_no ha).2
            simp at hb9
            exact uN a b (by omega)) (fun b h0 hb9 => by
            simp at hb9
            exact uN 55 b (by omega)) (by rw [u38, u38, u38]; exact hP) (by rw [u42, h42]; exact Int.le_refl _) (fun _ => hI.sm (funext u42) (funext u43))
          (by
            have h9 := hKN.2.1
            rw [m 55 1 (by decide) (by decide), m 55 2 (by decide) (by decide), m 55 3 (by decide) (by decide), show up V0 87 0 x 58 = V 58 from funext fun b => m 58 b (by decide) (by decide)] at h9
            exact MIV_c (uY 55 39 (by omega)) (uY 55 40 (by omega)) (funext fun b => uY 74 b (by omega)) h9)
          (fun k _ _ => uN 59 k (by omega))
        have n15 : ∀ b, U 15 b = V 15 b := fun b => uN 15 b (by omega)
        refine ⟨q0, fun _ => ?_, hN _ (LKS.mono ⟨q, hLU.ring (fun a ha hb9 b => ?_) (fun b h0 hb9 => ?_) (by rw [w23]; exact hn16) (fun k k0 k1 => ?_) ?_ ?_ (by rw [y5]; exact hn16) (fun k k0 k1 => ?_) ?_ (by rw [w23, y5]) (fun k k0 k1 => w59 k k0 (by omega)) hH⟩)⟩
        · rw [hKN.2.2.2 87 0 (by decide) (by decide) (by decide) (by decide) (by decide) (by decide) (by decide), up_s, hx, hb2]
          refine cntI_c _ (fun k k0 k1 => ?_)
          have k2 : k < V 23 1 := by omega
          rw [w59 k k0 k2, lo 24 k (by decide), r59 k k0 k2]
          exact bne_comm
        · have h9 := rel_no ha
          have h8 : a ≠ 17 ∧ a ≠ 18 ∧ a ≠ 29 ∧ a ≠ 30 ∧ a ≠ 31 ∧ a ≠ 32 ∧ a ≠ 39 ∧ a ≠ 40 ∧ a ≠ 41 ∧ a ≠ 73 ∧ a ≠ 84 ∧ a ≠ 86 := by
            unfold relC at ha
            simp only [List.mem_cons, List.not_mem_nil, or_false] at ha
            omega
          simp at hb9
          by_cases h7 : a = 38 ∨ a = 42 ∨ a = 43 ∨ a = 74
          · exact (uY a b (by omega)).symm
          · rw [uN a b (by omega), hKN.2.2.2 a b (by omega) (by omega) (by omega) (by omega) (by omega) (by omega) (by omega), up_n _ (by omega), hf a b (by simp; omega)]
        · simp at hb9
          by_cases h7 : b = 38 ∨ b = 39 ∨ b = 40
          · exact (uY 55 b (by omega)).symm
          · rw [uN 55 b (by omega), hKN.2.2.1 b h0 (by omega) (by omega) (by omega) (by omega), m 55 b (by decide) (by decide)]
        · rw [w23] at k1
          rw [n15]
          exact g24 k k0 k1
        · rw [hRW.1]; omega
        · rw [hRW.2.1]
          split <;> omega
        · rw [y5] at k1
          rw [w59 k k0 k1, uN 55 1 (by omega), ← hK.1]
          exact g24 k k0 k1
        · rw [hKW.1]; omega
      · exact absurd ha hn
      · have z1 := (inv_eq hg hI (mj _ _ m hKN.2.1)).1
        omega
      · have hJ := mj _ _ m hKN.2.1
        have y1 : V2 55 1 = V 15 3 := (hKN.2.2.1 1 (by decide) (by decide) (by decide) (by decide) (by decide)).trans w1
        have y2 : V2 55 2 = V 15 4 := (hKN.2.2.1 2 (by decide) (by decide) (by decide) (by decide) (by decide)).trans w2
        have y5 : V2 55 5 = V 23 1 := (hKN.2.2.1 5 (by decide) (by decide) (by decide) (by decide) (by decide)).trans w5
        have h9 := it_eq1 (S := up V0 87 0 x 59) hg hn16.1 hI hJ hv y1 y2 y5 hrg r59 t0 (fun s s0 s1 => hok s s0 (by omega)) (k := k9)
        exact absurd (h9.symm.trans kb) (hok t9 t0 t1 k9 k90 k91)
    · rcases hq with ⟨ha, _⟩ | ⟨_, _, rfl⟩ | ⟨ha, _⟩ | ⟨ha, _⟩
      · exact absurd ha hc
      · exact ⟨up_s .., fun h => absurd h (by decide), hN _ (LKS.mono ⟨q, hL.u55.u55⟩)⟩
      · exact absurd ha hc
      · exact absurd ha hc
    · exact absurd hc (by decide)
    · exact absurd hc (by decide)
    · exact absurd hc (by decide)
    · rcases hq with ⟨_, hv2, _, _, _, _, _, hKN⟩ | ⟨hn, _⟩ | ⟨_, _, hv2, hK9, q0⟩ | ⟨_, _, hv2, _, _, _, _, _, hKN⟩
      · exact absurd (inv_no hno (mj _ _ m hKN.2.1)) hv2
      · exact absurd hc hn
      · have hLW : LKQ t q V2 := hL.ik2 (W := V1) (fun a b ha => hf a b (by simp at ha ⊢; omega)) hP (hor.elim (fun z => by rw [z]; exact hv42) (fun z => Int.le_of_eq z)) hI hK9.2.1 (fun b h0 h1 h2 h3 => hK9.2.2.1 b h0 h1 h2 h3) (fun a b h1 h2 h3 h4 _ _ => hK9.2.2.2 a b h1 h3 h4) (fun k _ _ => hK9.2.2.2 59 k (by decide) (by decide) (by decide))
        exact ⟨q0, fun h => absurd h (by decide), hN _ (LKS.mono ⟨q, hLW⟩)⟩
      · exact absurd (inv_no hno (mj _ _ m hKN.2.1)) hv2
    · exact absurd hc (by decide)
    · exact absurd hc (by decide)
    · exact absurd hc (by decide)
    · rcases hq with ⟨_, hv2, hok2, _, _, _, _, hKN⟩ | ⟨hn, _⟩ | ⟨_, _, hv2, hKN, _⟩ | ⟨_, _, hv2, _, q0, q21, q67, q59, hKN⟩
      · have hJ := mj _ _ m hKN.2.1
        have y1 : V2 55 1 = V 15 3 := (hKN.2.2.1 1 (by decide) (by decide) (by decide) (by decide) (by decide)).trans w1
        have y2 : V2 55 2 = V 15 4 := (hKN.2.2.1 2 (by decide) (by decide) (by decide) (by decide) (by decide)).trans w2
        have y5 : V2 55 5 = V 23 1 := (hKN.2.2.1 5 (by decide) (by decide) (by decide) (by decide) (by decide)).trans w5
        have h9 := it_eq1 (S := V1 59) hg hn16.1 hI hJ hv y1 y2 y5 hrg r59 t0 tok (k := k9)
        exact absurd (h9.trans kb) (hok2 t9 t0 t1 k9 k90 k91)
      · exact absurd hc hn
      · have z1 := (inv_eq hg hI (mj _ _ m hKN.2.1)).1
        omega
      · have hLW : LKQ t q V2 := hL.ik2 (W := V1) (fun a b ha => hf a b (by simp at ha ⊢; omega)) hP (Int.le_of_eq h42) (fun _ => hI) hKN.2.1 (fun b h0 h1 h2 h3 => by
            by_cases h7 : b = 21
            · rw [h7]; exact q21
            · exact hKN.2.2.1 b h0 h7 h1 h2 h3) (fun a b h1 h2 h3 h4 h5 h6 => by
            by_cases h7 : a = 67
            · rw [h7]; exact q67 b
            · exact hKN.2.2.2 a b h1 h2 h7 h3 h4 h5 h6) (fun k k0 k1 => q59 k k0 (by omega))
        exact ⟨q0, fun h => absurd h (by decide), hN _ (LKS.mono ⟨q, hLW⟩)⟩
