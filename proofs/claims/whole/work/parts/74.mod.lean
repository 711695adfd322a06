def PRV (V W : VV) (p : Int) : Prop := ∃ q x y, (0 ≤ q ∧ q < V 55 4 * V 55 4) ∧ (0 ≤ x ∧ x < V 55 1) ∧ (0 ≤ y ∧ y < V 55 1) ∧ goF (V 58) (V 55 1) (V 55 4) q x y = p ∧ W 72 q ≠ 0
def CLB (V : VV) (B : Int → Prop) : Prop := ∀ p, B p → (0 ≤ p ∧ p < V 55 4 * V 55 4) ∧ ∃ q x y, (0 ≤ q ∧ q < V 55 4 * V 55 4) ∧ (0 ≤ x ∧ x < V 55 1) ∧ (0 ≤ y ∧ y < V 55 1) ∧ goF (V 58) (V 55 1) (V 55 4) q x y = p ∧ B q
/-- the pairs that are met from the first ones, up to pair p and its k-th way -/
def ERL (V W : VV) (p k q x y : Int) : Prop := 0 ≤ q ∧ (q < p ∨ q = p ∧ x * V 55 1 + y < k) ∧ (0 ≤ x ∧ x < V 55 1) ∧ (0 ≤ y ∧ y < V 55 1) ∧ W 72 q ≠ 0
def FARq (V W : VV) (F : Int → Int) (p k : Int) : Prop := ∀ t, 0 ≤ t → t < V 55 4 * V 55 4 → (F t = 1 ∧ ∃ q x y, ERL V W p k q x y ∧ goF (V 58) (V 55 1) (V 55 4) q x y = t) ∨ (F t = 0 ∧ ∀ q x y, ERL V W p k q x y → goF (V 58) (V 55 1) (V 55 4) q x y ≠ t)
theorem far_0 {V W : VV} {F : Int → Int} (ho : MO V) (h : ∀ t, 0 ≤ t → t < V 55 4 * V 55 4 → F t = 0) : FARq V W F 0 0 := fun t t0 t1 => Or.inr ⟨h t t0 t1, fun q x y e => by
  obtain ⟨a, b, c, d, -⟩ := e
  have hb := ho.b
  have := Int.mul_nonneg c.1 (show 0 ≤ V 55 1 by omega)
  omega⟩
theorem far_R {V W : VV} {F : Int → Int} {p k : Int} (h : FARq V W F p k) (hk : V 55 1 * V 55 1 ≤ k) : FARq V W F (p + 1) 0 := fun t t0 t1 => by
  have key : ∀ q x y, ERL V W (p + 1) 0 q x y ↔ ERL V W p k q x y := fun q x y => by
    constructor
    · rintro ⟨a, b, c, d, e⟩
      have w := wd2 (g := V 55 1) (N := V 55 1) (by omega) c d
      exact ⟨a, by omega, c, d, e⟩
    · rintro ⟨a, b, c, d, e⟩
      exact ⟨a, by omega, c, d, e⟩
  rcases h t t0 t1 with ⟨a, q, x, y, e, f⟩ | ⟨a, b⟩
  · exact Or.inl ⟨a, q, x, y, (key q x y).mpr e, f⟩
  · exact Or.inr ⟨a, fun q x y e => b q x y ((key q x y).mp e)⟩
theorem far_R0 {V W : VV} {F : Int → Int} {p k : Int} (h : FARq V W F p k) (hw : W 72 p = 0) : FARq V W F (p + 1) 0 := fun t t0 t1 => by
  have key : ∀ q x y, ERL V W (p + 1) 0 q x y ↔ ERL V W p k q x y := fun q x y => by
    constructor
    · rintro ⟨a, b, c, d, e⟩
      by_cases z : q = p
      · rw [z] at e; exact absurd hw e
      · have := Int.mul_nonneg c.1 (show 0 ≤ V 55 1 by omega)
        exact ⟨a, by omega, c, d, e⟩
    · rintro ⟨a, b, c, d, e⟩
      exact ⟨a, by omega, c, d, e⟩
  rcases h t t0 t1 with ⟨a, q, x, y, e, f⟩ | ⟨a, b⟩
  · exact Or.inl ⟨a, q, x, y, (key q x y).mpr e, f⟩
  · exact Or.inr ⟨a, fun q x y e => b q x y ((key q x y).mp e)⟩
theorem erl_S {V W : VV} {p k q x y : Int} (ho : MO V) (h : ERL V W p (k + 1) q x y) : ERL V W p k q x y ∨ (q = p ∧ x = k / V 55 1 ∧ y = k % V 55 1) := by
  obtain ⟨a, b, c, d, e⟩ := h
  have hb := ho.b
  by_cases z : q < p ∨ q = p ∧ x * V 55 1 + y < k
  · exact Or.inl ⟨a, z, c, d, e⟩
  · have hk : x * V 55 1 + y = k := by omega
    have w := dm1 (g := V 55 1) (a := x) d
    rw [hk] at w
    exact Or.inr ⟨by omega, w.1.symm, w.2.symm⟩
theorem erl_L {V W : VV} {p k q x y : Int} (h : ERL V W p k q x y) : ERL V W p (k + 1) q x y := ⟨h.1, by have := h.2.1; omega, h.2.2.1, h.2.2.2.1, h.2.2.2.2⟩
theorem far_S1 {V W : VV} {F : Int → Int} {p k : Int} (ho : MO V) (h : FARq V W F p k) (hk : 0 ≤ k) (hg : goF (V 58) (V 55 1) (V 55 4) p (k / V 55 1) (k % V 55 1) = -1) : FARq V W F p (k + 1) := fun t t0 t1 => by
  rcases h t t0 t1 with ⟨a, q, x, y, e, f⟩ | ⟨a, b⟩
  · exact Or.inl ⟨a, q, x, y, erl_L e, f⟩
  · refine Or.inr ⟨a, fun q x y e => ?_⟩
    rcases erl_S ho e with e' | ⟨rfl, rfl, rfl⟩
    · exact b q x y e'
    · rw [hg]; omega
theorem far_S2 {V W Y : VV} {p k : Int} (ho : MO V) (h : FARq V W (Y 69) p k) (hk : 0 ≤ k) (hl : k < V 55 1 * V 55 1) (hp : 0 ≤ p) (hw : W 72 p ≠ 0) : FARq V W ((up Y 69 (goF (V 58) (V 55 1) (V 55 4) p (k / V 55 1) (k % V 55 1)) 1) 69) p (k + 1) := fun t t0 t1 => by
  have hb := ho.b
  have q1 : 0 ≤ k / V 55 1 ∧ k / V 55 1 < V 55 1 := ⟨Int.ediv_nonneg hk (by omega), Int.ediv_lt_of_lt_mul (by omega) (by omega)⟩
  have q2 := md_b k (n := V 55 1) (by omega)
  by_cases z : t = goF (V 58) (V 55 1) (V 55 4) p (k / V 55 1) (k % V 55 1)
  · rw [z, up_s]
    refine Or.inl ⟨rfl, p, _, _, ⟨hp, Or.inr ⟨rfl, ?_⟩, q1, q2, hw⟩, rfl⟩
    have := Int.ediv_mul_add_emod k (V 55 1)
    omega
  · rw [up_n _ (fun q => z q.2)]
    rcases h t t0 t1 with ⟨a, q, x, y, e, f⟩ | ⟨a, b⟩
    · exact Or.inl ⟨a, q, x, y, erl_L e, f⟩
    · refine Or.inr ⟨a, fun q x y e => ?_⟩
      rcases erl_S ho e with e' | ⟨rfl, rfl, rfl⟩
      · exact b q x y e'
      · exact fun r => z r.symm
section CAME
variable {V W Y Z : VV} {m : Int}
theorem cm_Z9 {p z2 : Int} (h : ∀ j, Z 72 j = if 0 ≤ j ∧ j < p then (if W 72 j ≠ 0 ∧ Y 69 j = 1 then 1 else 0) else W 72 j) (hp : 0 ≤ p) (hz : z2 = if W 72 p ≠ 0 ∧ Y 69 p = 1 then 1 else 0) : ∀ j, (up Z 72 p z2) 72 j = if 0 ≤ j ∧ j < p + 1 then (if W 72 j ≠ 0 ∧ Y 69 j = 1 then 1 else 0) else W 72 j := fun j => by
  by_cases q : j = p
  · rw [q, up_s, if_pos (show 0 ≤ p ∧ p < p + 1 by omega)]; exact hz
  · rw [up_n _ (fun r => q r.2), h]
    by_cases r : 0 ≤ j ∧ j < p
    · rw [if_pos r, if_pos (show 0 ≤ j ∧ j < p + 1 by omega)]
    · rw [if_neg r, if_neg (show ¬ (0 ≤ j ∧ j < p + 1) by omega)]
theorem cm_0 {p z : Int} (h : m = 0 → ∀ j, 0 ≤ j → j < p → W 72 j ≠ 0 → Y 69 j ≠ 0) (hz : z = if m ≠ 0 ∨ (W 72 p ≠ 0 ∧ Y 69 p = 0) then 1 else 0) (q : z = 0) : ∀ j, 0 ≤ j → j < p + 1 → W 72 j ≠ 0 → Y 69 j ≠ 0 := by
  have hn : ¬ (m ≠ 0 ∨ (W 72 p ≠ 0 ∧ Y 69 p = 0)) := fun r => by rw [if_pos r] at hz; omega
  exact lt_stepI (h (by omega)) (fun a b => hn (Or.inr ⟨a, b⟩))
theorem cm_1 {p z : Int} (h : m ≠ 0 → ∃ j, 0 ≤ j ∧ j < p ∧ W 72 j ≠ 0 ∧ Y 69 j = 0) (hz : z = if m ≠ 0 ∨ (W 72 p ≠ 0 ∧ Y 69 p = 0) then 1 else 0) (hp : 0 ≤ p) (q : z ≠ 0) : ∃ j, 0 ≤ j ∧ j < p + 1 ∧ W 72 j ≠ 0 ∧ Y 69 j = 0 := by
  have hn : m ≠ 0 ∨ (W 72 p ≠ 0 ∧ Y 69 p = 0) := Classical.byContradiction fun r => by rw [if_neg r] at hz; exact q hz
  rcases hn with a | ⟨a, b⟩
  · obtain ⟨j, c, d, e, f⟩ := h a
    exact ⟨j, c, by omega, e, f⟩
  · exact ⟨p, hp, by omega, a, b⟩
variable {p : Int}
theorem cm_M (hF : FARq V W (Y 69) (V 55 4 * V 55 4) 0) (hZ : ∀ j, Z 72 j = if 0 ≤ j ∧ j < p then (if W 72 j ≠ 0 ∧ Y 69 j = 1 then 1 else 0) else W 72 j) (h : ∀ B, CLB V B → ∀ p, B p → W 72 p = 1) : ∀ B, CLB V B → ∀ p, B p → Z 72 p = 1 := fun B hB j hj => by
  have h1 := h B hB j hj
  rw [hZ]
  by_cases r : 0 ≤ j ∧ j < p
  · rw [if_pos r]
    obtain ⟨jr, q, x, y, a, b, c, d, e⟩ := hB j hj
    refine if_pos ⟨by omega, ?_⟩
    rcases hF j jr.1 jr.2 with z | z
    · exact z.1
    · exact absurd d (z.2 q x y ⟨a.1, Or.inl a.2, b, c, by have := h B hB q e; omega⟩)
  · rw [if_neg r]; exact h1
theorem cm_Z (hF : FARq V W (Y 69) (V 55 4 * V 55 4) 0) (hZ : ∀ j, Z 72 j = if 0 ≤ j ∧ j < p then (if W 72 j ≠ 0 ∧ Y 69 j = 1 then 1 else 0) else W 72 j) (hp : V 55 4 * V 55 4 ≤ p := by omega) : ∀ j, 0 ≤ j → j < V 55 4 * V 55 4 → Z 72 j = 0 ∨ Z 72 j = 1 := fun j j0 j1 => by
  rw [hZ, if_pos (by omega)]
  split
  · exact Or.inr rfl
  · exact Or.inl rfl
theorem cm_C (hF : FARq V W (Y 69) (V 55 4 * V 55 4) 0) (hZ : ∀ j, Z 72 j = if 0 ≤ j ∧ j < p then (if W 72 j ≠ 0 ∧ Y 69 j = 1 then 1 else 0) else W 72 j) (h0 : ∀ j, 0 ≤ j → j < p → W 72 j ≠ 0 → Y 69 j ≠ 0) (hp : V 55 4 * V 55 4 ≤ p := by omega) (hp2 : 0 ≤ V 55 4 * V 55 4 := by omega) : ∀ j, 0 ≤ j → j < V 55 4 * V 55 4 → Z 72 j ≠ 0 → PRV V Z j := fun j j0 j1 hj => by
  rw [hZ, if_pos (by omega)] at hj
  by_cases c : W 72 j ≠ 0 ∧ Y 69 j = 1
  · rcases hF j j0 j1 with ⟨-, q, x, y, e, f⟩ | z
    · obtain ⟨e1, e2, e3, e4, e5⟩ := e
      have q1 : q < V 55 4 * V 55 4 := by
        rcases e2 with r | ⟨r, s⟩
        · exact r
        · have := Int.mul_nonneg e3.1 (show 0 ≤ V 55 1 by omega)
          omega
      refine ⟨q, x, y, ⟨e1, q1⟩, e3, e4, f, ?_⟩
      rw [hZ, if_pos (by omega), if_pos]
      · decide
      · refine ⟨e5, ?_⟩
        rcases hF q e1 q1 with r | r
        · exact r.1
        · exact absurd r.1 (h0 q e1 (by omega) e5)
    · omega
  · rw [if_neg c] at hj; exact absurd rfl hj
theorem cm_m (hF : FARq V W (Y 69) (V 55 4 * V 55 4) 0) (hZ : ∀ j, Z 72 j = if 0 ≤ j ∧ j < p then (if W 72 j ≠ 0 ∧ Y 69 j = 1 then 1 else 0) else W 72 j) (h0 : m = 0 → ∀ j, 0 ≤ j → j < p → W 72 j ≠ 0 → Y 69 j ≠ 0) (h1 : m ≠ 0 → ∃ j, 0 ≤ j ∧ j < p ∧ W 72 j ≠ 0 ∧ Y 69 j = 0) (hp : V 55 4 * V 55 4 = p := by omega) : cntI (fun j => Z 72 j != 0) (V 55 4 * V 55 4).toNat + (if m = 0 then 0 else 1) ≤ cntI (fun j => W 72 j != 0) (V 55 4 * V 55 4).toNat := by
  have le : ∀ k : Int, 0 ≤ k → Z 72 k ≠ 0 → W 72 k ≠ 0 := fun k k0 hk c => by
    rw [hZ] at hk
    split at hk
    · rw [if_neg (fun q => q.1 c)] at hk; exact hk rfl
    · exact hk c
  by_cases e : m = 0
  · rw [if_pos e]
    have := cntI_le (p := fun j => Z 72 j != 0) (r := fun j => W 72 j != 0) (V 55 4 * V 55 4).toNat (fun k k0 k1 hk => by simpa using le k k0 (by simpa using hk))
    omega
  · rw [if_neg e]
    obtain ⟨j, a, b, c, d⟩ := h1 e
    refine cntI_lt _ (fun k k0 k1 hk => by simpa using le k k0 (by simpa using hk)) ⟨j, a, by omega, ?_, by simpa using c⟩
    have : Z 72 j = 0 := by rw [hZ, if_pos (by omega), if_neg (fun q => by omega)]
    simp [this]
end CAME
theorem cm_d {a b m : Int} {f : Nat} (h : a + (if m = 0 then 0 else 1) ≤ b) (a0 : 0 ≤ a) (hm : b.toNat + 1 < f + 1) : a.toNat + (if m = 0 then 0 else 1) < f := by
  by_cases q : m = 0
  · rw [if_pos q] at h ⊢; omega
  · rw [if_neg q] at h ⊢; omega
set_option maxHeartbeats 4000000 in
theorem ok_X12_laysCame {V : VV} (hmo : MO V) : Ok NA yX12_laysCame cX12_laysCame 5 none 1 25 [vA 55] V (pV (fun V' => (∀ B, CLB V B → ∀ p, B p → V' 72 p = 1) ∧ (∀ p, 0 ≤ p → p < V 55 4 * V 55 4 → V' 72 p ≠ 0 → PRV V V' p) ∧ fr [69, 72] V V')) := by
  refine Ok.intro (by decide +kernel) (Nat.le_of_ble_eq_true rfl) (fun X G hX hG hR hoa hoV => ?_)
  show J X G 0 [vA 55, vU, vU, vU, vU] [] V
  have hb9 := hmo.b
  have nn := n36 hb9.2.2.1
  have gg := g36 hb9.1
  refine j_iconst hX dX12_laysCame_0 ⟨by decide, by decide⟩ ?_
  refine j_is1 hX dX12_laysCame_1 rfl ?_
  have lp_2 : ∀ (f9 : Nat) (p : Int) (Y : VV), (0 ≤ p ∧ p ≤ V 55 4 * V 55 4) → (fr [72] V Y) → (∀ j, 0 ≤ j → j < p → Y 72 j = 1) → ((V 55 4 * V 55 4 - p).toNat) < f9 → J X G 2 [vA 55, vI p, vU, vU, vU] [] Y := by
    intro f9
    induction f9 with
    | zero => intro p Y _ _ _ hm; exact absurd hm (Nat.not_lt_zero _)
    | succ f9 ih_2 =>
      intro p Y hp hsy hA9 hm
      refine j_il1 hX dX12_laysCame_2 ?_
      refine j_al0 hX dX12_laysCame_3 rfl ?_
      refine j_getI hX hG fl_X12_145 (Or.inl rfl) (by decide) dX12_laysCame_4 ?_
      refine j_al0 hX dX12_laysCame_7 rfl ?_
      refine j_getI hX hG fl_X12_145 (Or.inl rfl) (by decide) dX12_laysCame_8 ?_
      refine j_eqS (st' := [vI (V 55 4), vI (V 55 4), vI p]) (by rw [hsy 55 4 (by decide)]) ?_
      refine j_imul hX dX12_laysCame_11 (by omega) ?_
      refine j_icmp_ge (tgt := 28) hX dX12_laysCame_12 (by decide) (fun h_12 => ?_) (fun h_12 => ?_)
      · skip
        refine j_iconst hX dX12_laysCame_28 ⟨by decide, by decide⟩ ?_
        refine j_is1 hX dX12_laysCame_29 rfl ?_
        have lp_30 : ∀ (f9 : Nat) (m : Int) (W : VV), (fr [69, 72] V W) → (∀ B, CLB V B → ∀ p, B p → W 72 p = 1) → (∀ p, 0 ≤ p → p < V 55 4 * V 55 4 → W 72 p = 0 ∨ W 72 p = 1) → (m = 0 → ∀ p, 0 ≤ p → p < V 55 4 * V 55 4 → W 72 p ≠ 0 → PRV V W p) → ((cntI (fun p => W 72 p != 0) (V 55 4 * V 55 4).toNat).toNat + (if m = 0 then 0 else 1)) < f9 → J X G 30 [vA 55, vI m, vU, vU, vU] [] W := by
          intro f9
          induction f9 with
          | zero => intro m W _ _ _ _ hm; exact absurd hm (Nat.not_lt_zero _)
          | succ f9 ih_30 =>
            intro m W hs hMM hZZ hCC hm
            refine j_il1 hX dX12_laysCame_30 ?_
            refine j_if_eq (tgt := 230) hX dX12_laysCame_31 (by decide) (fun h_31 => ?_) (fun h_31 => ?_)
            · skip
              exact j_ret hR dX12_laysCame_230 ⟨hMM, hCC (by omega), hs⟩
            · skip
              have hm9 := hm
              rw [if_neg h_31] at hm9
              refine j_iconst hX dX12_laysCame_34 ⟨by decide, by decide⟩ ?_
              refine j_is2 hX dX12_laysCame_35 rfl ?_
              have lp_36 : ∀ (f9 : Nat) (p2 : Int) (Y2 : VV), (0 ≤ p2 ∧ p2 ≤ V 55 4 * V 55 4) → (fr [69] W Y2) → (∀ j, 0 ≤ j → j < p2 → Y2 69 j = 0) → ((V 55 4 * V 55 4 - p2).toNat) < f9 → J X G 36 [vA 55, vI m, vI p2, vU, vU] [] Y2 := by
                intro f9
                induction f9 with
                | zero => intro p2 Y2 _ _ _ hm; exact absurd hm (Nat.not_lt_zero _)
                | succ f9 ih_36 =>
                  intro p2 Y2 hp2 hs2 hF0 hm
                  refine j_il2 hX dX12_laysCame_36 ?_
                  refine j_al0 hX dX12_laysCame_37 rfl ?_
                  refine j_getI hX hG fl_X12_145 (Or.inl rfl) (by decide) dX12_laysCame_38 ?_
                  refine j_al0 hX dX12_laysCame_41 rfl ?_
                  refine j_getI hX hG fl_X12_145 (Or.inl rfl) (by decide) dX12_laysCame_42 ?_
                  refine j_eqS (st' := [vI (V 55 4), vI (V 55 4), vI p2]) (by rw [(fr_t hs (fr_w hs2 (by decide))) 55 4 (by decide)]) ?_
                  refine j_imul hX dX12_laysCame_45 (by omega) ?_
                  refine j_icmp_ge (tgt := 62) hX dX12_laysCame_46 (by decide) (fun h_46 => ?_) (fun h_46 => ?_)
                  · skip
                    refine j_iconst hX dX12_laysCame_62 ⟨by decide, by decide⟩ ?_
                    refine j_is2 hX dX12_laysCame_63 rfl ?_
                    have lp_64 : ∀ (f9 : Nat) (p3 : Int) (Y3 : VV), (0 ≤ p3 ∧ p3 ≤ V 55 4 * V 55 4) → (fr [69] W Y3) → (FARq V W (Y3 69) p3 0) → ((V 55 4 * V 55 4 - p3).toNat) < f9 → J X G 64 [vA 55, vI m, vI p3, vU, vU] [] Y3 := by
                      intro f9
                      induction f9 with
                      | zero => intro p3 Y3 _ _ _ hm; exact absurd hm (Nat.not_lt_zero _)
                      | succ f9 ih_64 =>
                        intro p3 Y3 hp3 hs3 hFA hm
                        refine j_il2 hX dX12_laysCame_64 ?_
                        refine j_al0 hX dX12_laysCame_65 rfl ?_
                        refine j_getI hX hG fl_X12_145 (Or.inl rfl) (by decide) dX12_laysCame_66 ?_
                        refine j_al0 hX dX12_laysCame_69 rfl ?_
                        refine j_getI hX hG fl_X12_145 (Or.inl rfl) (by decide) dX12_laysCame_70 ?_
                        refine j_eqS (st' := [vI (V 55 4), vI (V 55 4), vI p3]) (by rw [(fr_t hs (fr_w hs3 (by decide))) 55 4 (by decide)]) ?_
                        refine j_imul hX dX12_laysCame_73 (by omega) ?_
                        refine j_icmp_ge (tgt := 146) hX dX12_laysCame_74 (by decide) (fun h_74 => ?_) (fun h_74 => ?_)
                        · skip
                          have hFz : FARq V W (Y3 69) (V 55 4 * V 55 4) 0 := by have e : p3 = V 55 4 * V 55 4 := (by omega); rw [← e]; exact hFA
                          refine j_iconst hX dX12_laysCame_146 ⟨by decide, by decide⟩ ?_
                          refine j_is1 hX dX12_laysCame_147 rfl ?_
                          refine j_iconst hX dX12_laysCame_148 ⟨by decide, by decide⟩ ?_
                          refine j_is2 hX dX12_laysCame_149 rfl ?_
                          have lp_150 : ∀ (f9 : Nat) (m2 p5 : Int) (Z : VV), (0 ≤ p5 ∧ p5 ≤ V 55 4 * V 55 4) → (fr [72] Y3 Z) → (∀ j, Z 72 j = if 0 ≤ j ∧ j < p5 then (if W 72 j ≠ 0 ∧ Y3 69 j = 1 then 1 else 0) else W 72 j) → (m2 = 0 → ∀ j, 0 ≤ j → j < p5 → W 72 j ≠ 0 → Y3 69 j ≠ 0) → (m2 ≠ 0 → ∃ j, 0 ≤ j ∧ j < p5 ∧ W 72 j ≠ 0 ∧ Y3 69 j = 0) → ((V 55 4 * V 55 4 - p5).toNat) < f9 → J X G 150 [vA 55, vI m2, vI p5, vU, vU] [] Z := by
                            intro f9
                            induction f9 with
                            | zero => intro m2 p5 Z _ _ _ _ _ hm; exact absurd hm (Nat.not_lt_zero _)
                            | succ f9 ih_150 =>
                              intro m2 p5 Z hp5 hs5 hZ9 hm0 hm1 hm
                              refine j_il2 hX dX12_laysCame_150 ?_
                              refine j_al0 hX dX12_laysCame_151 rfl ?_
                              refine j_getI hX hG fl_X12_145 (Or.inl rfl) (by decide) dX12_laysCame_152 ?_
                              refine j_al0 hX dX12_laysCame_155 rfl ?_
                              refine j_getI hX hG fl_X12_145 (Or.inl rfl) (by decide) dX12_laysCame_156 ?_
                              refine j_eqS (st' := [vI (V 55 4), vI (V 55 4), vI p5]) (by rw [(fr_t hs (fr_t (fr_w hs3 (by decide)) (fr_w hs5 (by decide)))) 55 4 (by decide)]) ?_
                              refine j_imul hX dX12_laysCame_159 (by omega) ?_
                              refine j_icmp_ge (tgt := 227) hX dX12_laysCame_160 (by decide) (fun h_160 => ?_) (fun h_160 => ?_)
                              · skip
                                refine j_goto (tgt := 30) hX dX12_laysCame_227 (by decide) ?_
                                refine j_fg2 ?_
                                exact ih_30 _ _ (fr_t hs (fr_t (fr_w hs3 (by decide)) (fr_w hs5 (by decide)))) (cm_M hFz hZ9 hMM) (cm_Z hFz hZ9) (fun q => cm_C hFz hZ9 (hm0 q)) (cm_d (cm_m (m := m2) hFz hZ9 hm0 hm1) (cntI_b _ _).1 hm9)
                              · skip
                                have hpl5 : p5 < V 55 4 * V 55 4 := by omega
                                have e72 : Z 72 p5 = W 72 p5 := by rw [hZ9, if_neg (by omega)]
                                have e69 : Z 69 p5 = Y3 69 p5 := hs5 69 _ (by decide)
                                have jn_190 : ∀ (z : Int), (z = if m2 ≠ 0 ∨ (W 72 p5 ≠ 0 ∧ Y3 69 p5 = 0) then 1 else 0) → J X G 190 [vA 55, vI m2, vI p5, vU, vU] [vI z] Z := by
                                  intro z hz
                                  refine j_is1 hX dX12_laysCame_190 rfl ?_
                                  have jn_220 : ∀ (z2 : Int), (z2 = if W 72 p5 ≠ 0 ∧ Y3 69 p5 = 1 then 1 else 0) → J X G 220 [vA 55, vI z, vI p5, vU, vU] [vI z2, vI p5, vA 72] Z := by
                                    intro z2 hz2
                                    refine j_zast (n := 1296) hX hG (by decide) (by omega) (by rw [hz2]; split <;> simp) dX12_laysCame_220 ?_
                                    refine j_inc2 hX dX12_laysCame_221 rfl (by omega) ?_
                                    refine j_goto (tgt := 150) hX dX12_laysCame_224 (by decide) ?_
                                    exact ih_150 _ _ _ (by omega) (fr_u hs5 (by decide)) (cm_Z9 hZ9 hp5.1 hz2) (fun q => cm_0 hm0 hz (by omega)) (fun q => cm_1 hm1 hz hp5.1 q) (by omega)
                                  refine j_al0 hX dX12_laysCame_191 rfl ?_
                                  refine j_getR (q := 72) hX hG fl_X12_63 rfl rfl (by decide) dX12_laysCame_192 ?_
                                  refine j_il2 hX dX12_laysCame_195 ?_
                                  refine j_al0 hX dX12_laysCame_196 rfl ?_
                                  refine j_getR (q := 72) hX hG fl_X12_63 rfl rfl (by decide) dX12_laysCame_197 ?_
                                  refine j_il2 hX dX12_laysCame_200 ?_
                                  refine j_zald (n := 1296) hX hG (by decide) (by omega) dX12_laysCame_201 ?_
                                  refine j_if_eq (tgt := 219) hX dX12_laysCame_202 (by decide) (fun h_202 => ?_) (fun h_202 => ?_)
                                  · skip
                                    refine j_iconst hX dX12_laysCame_219 ⟨by decide, by decide⟩ ?_
                                    exact jn_220 _ (by first | exact (if_pos (by omega)).symm | exact (if_neg (by omega)).symm)
                                  · skip
                                    refine j_al0 hX dX12_laysCame_205 rfl ?_
                                    refine j_getR (q := 69) hX hG fl_X12_54 rfl rfl (by decide) dX12_laysCame_206 ?_
                                    refine j_il2 hX dX12_laysCame_209 ?_
                                    refine j_iald (n := 1296) hX hG (by decide) (by omega) dX12_laysCame_210 ?_
                                    refine j_iconst hX dX12_laysCame_211 ⟨by decide, by decide⟩ ?_
                                    refine j_icmp_ne (tgt := 219) hX dX12_laysCame_212 (by decide) (fun h_212 => ?_) (fun h_212 => ?_)
                                    · skip
                                      refine j_iconst hX dX12_laysCame_219 ⟨by decide, by decide⟩ ?_
                                      exact jn_220 _ (by first | exact (if_pos (by omega)).symm | exact (if_neg (by omega)).symm)
                                    · skip
                                      refine j_iconst hX dX12_laysCame_215 ⟨by decide, by decide⟩ ?_
                                      refine j_goto (tgt := 220) hX dX12_laysCame_216 (by decide) ?_
                                      exact jn_220 _ (by first | exact (if_pos (by omega)).symm | exact (if_neg (by omega)).symm)
                                refine j_il1 hX dX12_laysCame_163 ?_
                                refine j_if_ne (tgt := 185) hX dX12_laysCame_164 (by decide) (fun h_164 => ?_) (fun h_164 => ?_)
                                · skip
                                  refine j_iconst hX dX12_laysCame_185 ⟨by decide, by decide⟩ ?_
                                  refine j_goto (tgt := 190) hX dX12_laysCame_186 (by decide) ?_
                                  exact jn_190 _ (by first | exact (if_pos (by omega)).symm | exact (if_neg (by omega)).symm)
                                · skip
                                  refine j_al0 hX dX12_laysCame_167 rfl ?_
                                  refine j_getR (q := 72) hX hG fl_X12_63 rfl rfl (by decide) dX12_laysCame_168 ?_
                                  refine j_il2 hX dX12_laysCame_171 ?_
                                  refine j_zald (n := 1296) hX hG (by decide) (by omega) dX12_laysCame_172 ?_
                                  refine j_if_eq (tgt := 189) hX dX12_laysCame_173 (by decide) (fun h_173 => ?_) (fun h_173 => ?_)
                                  · skip
                                    refine j_iconst hX dX12_laysCame_189 ⟨by decide, by decide⟩ ?_
                                    exact jn_190 _ (by first | exact (if_pos (by omega)).symm | exact (if_neg (by omega)).symm)
                                  · skip
                                    refine j_al0 hX dX12_laysCame_176 rfl ?_
                                    refine j_getR (q := 69) hX hG fl_X12_54 rfl rfl (by decide) dX12_laysCame_177 ?_
                                    refine j_il2 hX dX12_laysCame_180 ?_
                                    refine j_iald (n := 1296) hX hG (by decide) (by omega) dX12_laysCame_181 ?_
                                    refine j_if_ne (tgt := 189) hX dX12_laysCame_182 (by decide) (fun h_182 => ?_) (fun h_182 => ?_)
                                    · skip
                                      refine j_iconst hX dX12_laysCame_189 ⟨by decide, by decide⟩ ?_
                                      exact jn_190 _ (by first | exact (if_pos (by omega)).symm | exact (if_neg (by omega)).symm)
                                    · skip
                                      refine j_iconst hX dX12_laysCame_185 ⟨by decide, by decide⟩ ?_
                                      refine j_goto (tgt := 190) hX dX12_laysCame_186 (by decide) ?_
                                      exact jn_190 _ (by first | exact (if_pos (by omega)).symm | exact (if_neg (by omega)).symm)
                          exact lp_150 _ 0 0 _ ⟨by decide, by omega⟩ fr_0 (fun j => by rw [if_neg (by omega)]; exact hs3 72 j (by decide)) (fun _ j j0 j1 => by omega) (fun q => absurd rfl q) (Nat.lt_succ_self _)
                        · skip
                          have hpl : p3 < V 55 4 * V 55 4 := by omega
                          refine j_iconst hX dX12_laysCame_77 ⟨by decide, by decide⟩ ?_
                          refine j_is3 hX dX12_laysCame_78 rfl ?_
                          have lp_79 : ∀ (f9 : Nat) (k : Int) (Y4 : VV), (0 ≤ k ∧ k ≤ V 55 1 * V 55 1) → (fr [69] W Y4) → (FARq V W (Y4 69) p3 k) → ((V 55 1 * V 55 1 - k).toNat) < f9 → J X G 79 [vA 55, vI m, vI p3, vI k, vU] [] Y4 := by
                            intro f9
                            induction f9 with
                            | zero => intro k Y4 _ _ _ hm; exact absurd hm (Nat.not_lt_zero _)
                            | succ f9 ih_79 =>
                              intro k Y4 hk hs4 hFB hm
                              refine j_il3 hX dX12_laysCame_79 ?_
                              have hs6 : fr [69, 72] V Y4 := fr_t hs (fr_w hs4 (by decide))
                              have z58 : Y4 58 = V 58 := funext fun b => hs6 58 b (by decide)
                              have z1 : Y4 55 1 = V 55 1 := hs6 55 1 (by decide)
                              have z4 : Y4 55 4 = V 55 4 := hs6 55 4 (by decide)
                              have moZ : MO Y4 := by unfold MO; rw [z1, z4, hs6 55 2 (by decide), hs6 55 3 (by decide)]; exact hmo
                              refine j_al0 hX dX12_laysCame_80 rfl ?_
                              refine j_getI hX hG fl_X12_136 (Or.inl rfl) (by decide) dX12_laysCame_81 ?_
                              refine j_al0 hX dX12_laysCame_84 rfl ?_
                              refine j_getI hX hG fl_X12_136 (Or.inl rfl) (by decide) dX12_laysCame_85 ?_
                              refine j_eqS (st' := [vI (V 55 1), vI (V 55 1), vI k]) (by rw [z1]) ?_
                              refine j_imul hX dX12_laysCame_88 (by omega) ?_
                              refine j_icmp_ge (tgt := 140) hX dX12_laysCame_89 (by decide) (fun h_89 => ?_) (fun h_89 => ?_)
                              · skip
                                refine j_inc2 hX dX12_laysCame_140 rfl (by omega) ?_
                                refine j_goto (tgt := 64) hX dX12_laysCame_143 (by decide) ?_
                                refine j_fg3 ?_
                                exact ih_64 _ _ (by omega) hs4 (by first | exact far_R hFB (by omega) | exact far_R0 hFB ((hs4 72 _ (by decide)).symm.trans h_98)) (by omega)
                              · skip
                                have hkl : k < V 55 1 * V 55 1 := by omega
                                have q1 : 0 ≤ k / V 55 1 ∧ k / V 55 1 < V 55 1 := ⟨Int.ediv_nonneg hk.1 (by omega), Int.ediv_lt_of_lt_mul (by omega) (by omega)⟩
                                have q2 := md_b k (n := V 55 1) (by omega)
                                refine j_al0 hX dX12_laysCame_92 rfl ?_
                                refine j_getR (q := 72) hX hG fl_X12_63 rfl rfl (by decide) dX12_laysCame_93 ?_
                                refine j_il2 hX dX12_laysCame_96 ?_
                                refine j_zald (n := 1296) hX hG (by decide) (by omega) dX12_laysCame_97 ?_
                                refine j_if_eq (tgt := 140) hX dX12_laysCame_98 (by decide) (fun h_98 => ?_) (fun h_98 => ?_)
                                · skip
                                  refine j_inc2 hX dX12_laysCame_140 rfl (by omega) ?_
                                  refine j_goto (tgt := 64) hX dX12_laysCame_143 (by decide) ?_
                                  refine j_fg3 ?_
                                  exact ih_64 _ _ (by omega) hs4 (by first | exact far_R hFB (by omega) | exact far_R0 hFB ((hs4 72 _ (by decide)).symm.trans h_98)) (by omega)
                                · skip
                                  have w98 : W 72 p3 ≠ 0 := fun q => h_98 ((hs4 72 _ (by decide)).trans q)
                                  refine j_al0 hX dX12_laysCame_101 rfl ?_
                                  refine j_il2 hX dX12_laysCame_102 ?_
                                  refine j_il3 hX dX12_laysCame_103 ?_
                                  refine j_al0 hX dX12_laysCame_104 rfl ?_
                                  refine j_getI hX hG fl_X12_136 (Or.inl rfl) (by decide) dX12_laysCame_105 ?_
                                  refine j_eqS (st' := [vI (V 55 1), vI k, vI p3, vA 55]) (by rw [z1]) ?_
                                  refine j_idiv hX dX12_laysCame_108 (by omega) hk.1 ?_
                                  refine j_il3 hX dX12_laysCame_109 ?_
                                  refine j_al0 hX dX12_laysCame_110 rfl ?_
                                  refine j_getI hX hG fl_X12_136 (Or.inl rfl) (by decide) dX12_laysCame_111 ?_
                                  refine j_eqS (st' := [vI (V 55 1), vI k, vI (k / V 55 1), vI p3, vA 55]) (by rw [z1]) ?_
                                  refine j_irem hX dX12_laysCame_114 (by omega) hk.1 ?_
                                  refine j_pVI3 (ci := 12) hX hG lk_X12_334 (ok_X12_goes moZ (by rw [z4]; omega) (by rw [z1]; exact q1) (by rw [z1]; exact q2)) (by decide) rfl (Nat.le_of_ble_eq_true rfl) (Nat.le_of_ble_eq_true rfl) (Nat.le_of_ble_eq_true rfl) rfl dX12_laysCame_115 ?_
                                  refine j_eqS (st' := [vI (goF (V 58) (V 55 1) (V 55 4) p3 (k / V 55 1) (k % V 55 1))]) (by rw [z58, z1, z4]) ?_
                                  refine j_is4 hX dX12_laysCame_118 rfl ?_
                                  refine j_il4 hX dX12_laysCame_120 ?_
                                  refine j_iconst hX dX12_laysCame_122 ⟨by decide, by decide⟩ ?_
                                  refine j_icmp_eq (tgt := 134) hX dX12_laysCame_123 (by decide) (fun h_123 => ?_) (fun h_123 => ?_)
                                  · skip
                                    refine j_inc3 hX dX12_laysCame_134 rfl (by omega) ?_
                                    refine j_goto (tgt := 79) hX dX12_laysCame_137 (by decide) ?_
                                    refine j_fg4 ?_
                                    exact ih_79 _ _ (by omega) (by first | exact hs4 | exact fr_u hs4 (by decide)) (by first | exact far_S1 hmo hFB hk.1 h_123 | exact far_S2 hmo hFB hk.1 hkl hp3.1 w98) (by omega)
                                  · skip
                                    have gi := gof_b hmo ⟨hp3.1, hpl⟩ q1 q2 h_123
                                    refine j_al0 hX dX12_laysCame_126 rfl ?_
                                    refine j_getR (q := 69) hX hG fl_X12_54 rfl rfl (by decide) dX12_laysCame_127 ?_
                                    refine j_il4 hX dX12_laysCame_130 ?_
                                    refine j_iconst hX dX12_laysCame_132 ⟨by decide, by decide⟩ ?_
                                    refine j_iast (n := 1296) hX hG (by decide) gi dX12_laysCame_133 ?_
                                    refine j_inc3 hX dX12_laysCame_134 rfl (by omega) ?_
                                    refine j_goto (tgt := 79) hX dX12_laysCame_137 (by decide) ?_
                                    refine j_fg4 ?_
                                    exact ih_79 _ _ (by omega) (by first | exact hs4 | exact fr_u hs4 (by decide)) (by first | exact far_S1 hmo hFB hk.1 h_123 | exact far_S2 hmo hFB hk.1 hkl hp3.1 w98) (by omega)
                          exact lp_79 _ 0 _ ⟨by decide, by omega⟩ hs3 hFA (Nat.lt_succ_self _)
                    exact lp_64 _ 0 _ ⟨by decide, by omega⟩ hs2 (far_0 hmo (fun t t0 t1 => hF0 t t0 (by omega))) (Nat.lt_succ_self _)
                  · skip
                    refine j_al0 hX dX12_laysCame_49 rfl ?_
                    refine j_getR (q := 69) hX hG fl_X12_54 rfl rfl (by decide) dX12_laysCame_50 ?_
                    refine j_il2 hX dX12_laysCame_53 ?_
                    refine j_iconst hX dX12_laysCame_54 ⟨by decide, by decide⟩ ?_
                    refine j_iast (n := 1296) hX hG (by decide) (by omega) dX12_laysCame_55 ?_
                    refine j_inc2 hX dX12_laysCame_56 rfl (by omega) ?_
                    refine j_goto (tgt := 36) hX dX12_laysCame_59 (by decide) ?_
                    exact ih_36 _ _ (by omega) (fr_u hs2 (by decide)) (lt_stepI (fun j j0 j1 => by rw [up_n _ (by omega)]; exact hF0 j j0 j1) (up_s ..)) (by omega)
              exact lp_36 _ 0 _ (by omega) fr_0 (fun j j0 j1 => by omega) (Nat.lt_succ_self _)
        exact lp_30 _ 1 _ (fr_w hsy (by decide)) (fun B hB p h => hA9 p (hB p h).1.1 (by have := (hB p h).1.2; omega)) (fun j j0 j1 => Or.inr (hA9 j j0 (by omega))) (fun q => absurd q (by decide)) (Nat.lt_succ_self _)
      · skip
        refine j_al0 hX dX12_laysCame_15 rfl ?_
        refine j_getR (q := 72) hX hG fl_X12_63 rfl rfl (by decide) dX12_laysCame_16 ?_
        refine j_il1 hX dX12_laysCame_19 ?_
        refine j_iconst hX dX12_laysCame_20 ⟨by decide, by decide⟩ ?_
        refine j_zast (n := 1296) hX hG (by decide) (by omega) (by omega) dX12_laysCame_21 ?_
        refine j_inc1 hX dX12_laysCame_22 rfl (by omega) ?_
        refine j_goto (tgt := 2) hX dX12_laysCame_25 (by decide) ?_
        exact ih_2 _ _ (by omega) (fr_u hsy (by decide)) (lt_stepI (fun j j0 j1 => by rw [up_n _ (by omega)]; exact hA9 j j0 j1) (up_s ..)) (by omega)
  exact lp_2 _ _ _ (by omega) fr_0 (fun j j0 j1 => by omega) (Nat.lt_succ_self _)
