theorem enc_b {q : Nat} {w : Int} {d : Int × Int × Int} (h6 : 2 ≤ gO q ∧ gO q ≤ 6) (hd : VD (gO q) w d) (hw : w = 2 ∨ w = 3) : (0 ≤ encT d ∧ encT d ≤ 119) ∧ (encT d < 20 ↔ d.2.2 = 0) ∧ (d.1 = -1 → encT d % 20 = d.2.1 ∧ 0 ≤ d.2.1 ∧ d.2.1 < 10) ∧ (d.1 ≠ -1 → encT d % 20 = 10 + d.1 ∧ 0 ≤ d.1 ∧ d.1 < w) := by
  unfold VD at hd
  unfold encT
  by_cases z : d.1 = -1
  · rw [if_pos z]; omega
  · rw [if_neg z]; omega
theorem xv_b {q : Nat} {w e : Int} {d : Int × Int × Int} (hq : q < 7) (hd : VD (gO q) w d) : 0 ≤ (if d.1 = -1 then d.2.1 else dg (gO q) e (w - 1 - d.1).toNat) ∧ (if d.1 = -1 then d.2.1 else dg (gO q) e (w - 1 - d.1).toNat) < gO q := by
  have h6 := gO_le hq
  by_cases z : d.1 = -1
  · rw [if_pos z]; unfold VD at hd; omega
  · rw [if_neg z]; exact dg_b (by omega)
theorem fac_b {q : Nat} {w e : Int} {d : Int × Int × Int} (hq : q < 7) (hw : w = 2 ∨ w = 3) (hd : VD (gO q) w d) : 0 ≤ facF q (gO q) w d.1 d.2.1 d.2.2 e ∧ facF q (gO q) w d.1 d.2.1 d.2.2 e < gO q := by
  have h := xv_b (e := e) hq hd
  unfold facF
  by_cases z : d.2.2 = 0
  · rw [if_pos z]; exact h
  · rw [if_neg z]; exact gV_lt hq h
theorem tab_S {q : Nat} {w e k : Int} {ds : List (Int × Int × Int)} {d : Int × Int × Int} (hk : 0 ≤ k) (h : ds[k.toNat]? = some d) : tabF q w 0 (ds.take (k + 1).toNat) e = gM q (tabF q w 0 (ds.take k.toNat) e) (facF q (gO q) w d.1 d.2.1 d.2.2 e) := by
  have e1 : (k + 1).toNat = k.toNat + 1 := by omega
  have e2 : ds.take (k.toNat + 1) = ds.take k.toNat ++ [d] := by rw [List.take_add_one, h]; rfl
  unfold tabF
  rw [e1, e2, List.foldl_append]
  rfl
section XVAL
variable {q : Nat} {w e z : Int} {d : Int × Int × Int}
abbrev ENCB (q : Nat) (w : Int) (d : Int × Int × Int) : Prop := (0 ≤ encT d ∧ encT d ≤ 119) ∧ (encT d < 20 ↔ d.2.2 = 0) ∧ (d.1 = -1 → encT d % 20 = d.2.1 ∧ 0 ≤ d.2.1 ∧ d.2.1 < 10) ∧ (d.1 ≠ -1 → encT d % 20 = 10 + d.1 ∧ 0 ≤ d.1 ∧ d.1 < w)
theorem x_1 (h : ENCB q w d) (hd : VD (gO q) w d) (ht : encT d % 20 < 10) : encT d % 20 = (if d.1 = -1 then d.2.1 else dg (gO q) e (w - 1 - d.1).toNat) := by
  have h1 : d.1 = -1 := Classical.byContradiction fun y => by have := h.2.2.2 y; omega
  rw [if_pos h1]; exact (h.2.2.1 h1).1
theorem x_2 (hq : q < 7) (h : ENCB q w d) (hd : VD (gO q) w d) (hw : w = 2 ∨ w = 3) (he : 0 ≤ e ∧ e ≤ 216 ∧ (w = 2 → e / gO q < gO q) ∧ (w = 3 → e / gO q / gO q < gO q)) (hz : z = if w = 2 then e / gO q else e / gO q / gO q) (ht : encT d % 20 = 10) : z = (if d.1 = -1 then d.2.1 else dg (gO q) e (w - 1 - d.1).toNat) := by
  have h6 := gO_le hq
  have q1 : 0 ≤ e / gO q := Int.ediv_nonneg he.1 (by omega)
  have q2 : 0 ≤ e / gO q / gO q := Int.ediv_nonneg q1 (by omega)
  have h1 : d.1 ≠ -1 := fun y => by have := h.2.2.1 y; omega
  have h2 := h.2.2.2 h1
  have h3 : d.1 = 0 := by omega
  rw [if_neg h1, h3, hz]
  rcases hw with y | y
  · rw [if_pos y, y, show ((2 : Int) - 1 - 0).toNat = 1 from rfl, dg_1, Int.emod_eq_of_lt q1 (he.2.2.1 y)]
  · rw [if_neg (by omega), y, show ((3 : Int) - 1 - 0).toNat = 2 from rfl, dg_2 (by omega), Int.emod_eq_of_lt q2 (he.2.2.2 y)]
theorem x_3 (hq : q < 7) (h : ENCB q w d) (hd : VD (gO q) w d) (hw : w = 2 ∨ w = 3) (ht : encT d % 20 = 11) (hz : (w = 2 ∧ z = e % gO q) ∨ (¬ w = 2 ∧ z = e / gO q % gO q)) : z = (if d.1 = -1 then d.2.1 else dg (gO q) e (w - 1 - d.1).toNat) := by
  have h1 : d.1 ≠ -1 := fun y => by have := h.2.2.1 y; omega
  have h2 := h.2.2.2 h1
  have h3 : d.1 = 1 := by omega
  rw [if_neg h1, h3]
  rcases hz with ⟨y, e1⟩ | ⟨y, e1⟩
  · rw [y, show ((2 : Int) - 1 - 1).toNat = 0 from rfl, dg_0]; exact e1
  · rw [show w = 3 by omega, show ((3 : Int) - 1 - 1).toNat = 1 from rfl, dg_1]; exact e1
theorem x_4 (hq : q < 7) (h : ENCB q w d) (hd : VD (gO q) w d) (hw : w = 2 ∨ w = 3) (ht : 11 < encT d % 20) : e % gO q = (if d.1 = -1 then d.2.1 else dg (gO q) e (w - 1 - d.1).toNat) := by
  have h1 : d.1 ≠ -1 := fun y => by have := h.2.2.1 y; omega
  have h2 := h.2.2.2 h1
  have h3 : d.1 = 2 := by omega
  rw [if_neg h1, h3, show w = 3 by omega, show ((3 : Int) - 1 - 2).toNat = 0 from rfl, dg_0]
end XVAL
set_option maxHeartbeats 4000000 in
theorem ok_X12_worth {V : VV} {e : Int} {q : Nat} {ds : List (Int × Int × Int)} (hq9 : q < 7) (hg0 : V 55 10 = gO q) (htb6 : ∀ a b : Int, 0 ≤ a → a < gO q → 0 ≤ b → b < gO q → V 60 (gO q * a + b) = gM q a b) (hw : V 55 11 = 2 ∨ V 55 11 = 3) (htm : TMS V (V 55 10) (V 55 11) ds) (hl8 : ds.length ≤ 8) (he : 0 ≤ e ∧ e ≤ 216 ∧ (V 55 11 = 2 → e / gO q < gO q) ∧ (V 55 11 = 3 → e / gO q / gO q < gO q)) : Ok NA yX12_worth cX12_worth 7 (some .int) 1 22 [vA 55, vI e] V (pI (fun x9 V' => x9 = tabF q (V 55 11) 0 ds e ∧ V' = V)) := by
  refine Ok.intro (by decide +kernel) (Nat.le_of_ble_eq_true rfl) (fun X G hX hG hR hoa hoV => ?_)
  show J X G 0 [vA 55, vI e, vU, vU, vU, vU, vU] [] V
  have hq6 := gO_le hq9
  have h31 := htm.1
  have q1 : 0 ≤ e / gO q := Int.ediv_nonneg he.1 (by omega)
  have q2 : 0 ≤ e / gO q / gO q := Int.ediv_nonneg q1 (by omega)
  refine j_iconst hX dX12_worth_0 ⟨by decide, by decide⟩ ?_
  refine j_is2 hX dX12_worth_1 rfl ?_
  refine j_iconst hX dX12_worth_2 ⟨by decide, by decide⟩ ?_
  refine j_is3 hX dX12_worth_3 rfl ?_
  have lp_4 : ∀ (f9 : Nat) (v k : Int), (0 ≤ k ∧ k ≤ ds.length) → (v = tabF q (V 55 11) 0 (ds.take k.toNat) e) → (0 ≤ v ∧ v < gO q) → (((ds.length : Int) - k).toNat) < f9 → J X G 4 [vA 55, vI e, vI v, vI k, vU, vU, vU] [] V := by
    intro f9
    induction f9 with
    | zero => intro v k _ _ _ hm; exact absurd hm (Nat.not_lt_zero _)
    | succ f9 ih_4 =>
      intro v k hk hv vb hm
      refine j_il3 hX dX12_worth_4 ?_
      refine j_al0 hX dX12_worth_5 rfl ?_
      refine j_getI hX hG fl_X12_265 (Or.inl rfl) (by decide) dX12_worth_6 ?_
      refine j_icmp_ge (tgt := 159) hX dX12_worth_9 (by decide) (fun h_9 => ?_) (fun h_9 => ?_)
      · skip
        refine j_il2 hX dX12_worth_159 ?_
        exact j_retI hR dX12_worth_160 ⟨by rw [hv, show k.toNat = ds.length by omega, List.take_length], rfl⟩
      · skip
        obtain ⟨d, hd0, hdv, hd63⟩ := htm.2 k.toNat (by omega)
        rw [show ((k.toNat : Nat) : Int) = k by omega] at hd63
        have hde := enc_b hq6 (by rw [hg0] at hdv; exact hdv) hw
        rw [hg0] at hdv
        have fb := fac_b (e := e) hq9 hw hdv
        have xb := xv_b (e := e) hq9 hdv
        have ix := ix_b hq9 vb fb
        refine j_al0 hX dX12_worth_12 rfl ?_
        refine j_getR (q := 63) hX hG fl_X12_31 rfl rfl (by decide) dX12_worth_13 ?_
        refine j_il3 hX dX12_worth_16 ?_
        refine j_iald (n := 8) hX hG (by decide) (by omega) dX12_worth_17 ?_
        refine j_eqS (st' := [vI (encT d)]) (by rw [hd63]) ?_
        refine j_bipush hX dX12_worth_18 (by decide) ⟨by decide, by decide⟩ ?_
        refine j_irem hX dX12_worth_20 (by decide) (by omega) ?_
        refine j_eqS (st' := [vI (encT d % 20)]) rfl ?_
        refine j_is4 hX dX12_worth_21 rfl ?_
        have jn_51 : ∀ (z : Int), (z = if V 55 11 = 2 then e / gO q else e / gO q / gO q) → J X G 51 [vA 55, vI e, vI v, vI k, vI (encT d % 20), vU, vU] [vI z] V := by
          intro z hz
          refine j_is5 hX dX12_worth_51 rfl ?_
          have jn_116 : ∀ (x : Int), (x = (if d.1 = -1 then d.2.1 else dg (gO q) e (V 55 11 - 1 - d.1).toNat)) → J X G 116 [vA 55, vI e, vI v, vI k, vI (encT d % 20), vI z, vU] [vI x] V := by
            intro x hx
            refine j_is6 hX dX12_worth_116 rfl ?_
            have jn_150 : ∀ (y : Int), (y = (facF q (gO q) (V 55 11) d.1 d.2.1 d.2.2 e)) → J X G 150 [vA 55, vI e, vI v, vI k, vI (encT d % 20), vI z, vI x] [vI y, vI (gO q * v), vA 60] V := by
              intro y hy
              refine j_iadd hX dX12_worth_150 (by omega) ?_
              refine j_iald (n := 36) hX hG (by decide) (by omega) dX12_worth_151 ?_
              refine j_eqS (st' := [vI (gM q v (facF q (gO q) (V 55 11) d.1 d.2.1 d.2.2 e))]) (by rw [hy, htb6 v (facF q (gO q) (V 55 11) d.1 d.2.1 d.2.2 e) vb.1 vb.2 fb.1 fb.2]) ?_
              refine j_is2 hX dX12_worth_152 rfl ?_
              refine j_inc3 hX dX12_worth_153 rfl (by omega) ?_
              refine j_goto (tgt := 4) hX dX12_worth_156 (by decide) ?_
              refine j_fg4 ?_
              refine j_fg5 ?_
              refine j_fg6 ?_
              exact ih_4 _ _ (by omega) (by rw [tab_S hk.1 hd0, ← hv]) (gM_lt hq9 vb fb) (by omega)
            refine j_al0 hX dX12_worth_118 rfl ?_
            refine j_getR (q := 60) hX hG fl_X12_22 rfl rfl (by decide) dX12_worth_119 ?_
            refine j_al0 hX dX12_worth_122 rfl ?_
            refine j_getI hX hG fl_X12_110 (Or.inl rfl) (by decide) dX12_worth_123 ?_
            refine j_eqS (st' := [vI (gO q), vA 60]) (by rw [hg0]) ?_
            refine j_il2 hX dX12_worth_126 ?_
            refine j_imul hX dX12_worth_127 (by omega) ?_
            refine j_al0 hX dX12_worth_128 rfl ?_
            refine j_getR (q := 63) hX hG fl_X12_31 rfl rfl (by decide) dX12_worth_129 ?_
            refine j_il3 hX dX12_worth_132 ?_
            refine j_iald (n := 8) hX hG (by decide) (by omega) dX12_worth_133 ?_
            refine j_eqS (st' := [vI (encT d), vI (gO q * v), vA 60]) (by rw [hd63]) ?_
            refine j_bipush hX dX12_worth_134 (by decide) ⟨by decide, by decide⟩ ?_
            refine j_icmp_ge (tgt := 144) hX dX12_worth_136 (by decide) (fun h_136 => ?_) (fun h_136 => ?_)
            · skip
              refine j_al0 hX dX12_worth_144 rfl ?_
              refine j_il6 hX dX12_worth_145 ?_
              refine j_pVI1 (ci := 12) hX hG lk_X12_151 (ok_X12_inverseIn hq9 hg0 htb6 (by rw [hx]; exact xb)) (by decide) rfl (Nat.le_of_ble_eq_true rfl) (Nat.le_of_ble_eq_true rfl) (Nat.le_of_ble_eq_true rfl) rfl dX12_worth_147 ?_
              exact jn_150 _ (by unfold facF; first | (rw [if_pos (by omega)]; exact hx) | (rw [if_neg (by omega), hx]))
            · skip
              refine j_il6 hX dX12_worth_139 ?_
              refine j_goto (tgt := 150) hX dX12_worth_141 (by decide) ?_
              exact jn_150 _ (by unfold facF; first | (rw [if_pos (by omega)]; exact hx) | (rw [if_neg (by omega), hx]))
          refine j_il4 hX dX12_worth_53 ?_
          refine j_bipush hX dX12_worth_55 (by decide) ⟨by decide, by decide⟩ ?_
          refine j_icmp_ge (tgt := 65) hX dX12_worth_57 (by decide) (fun h_57 => ?_) (fun h_57 => ?_)
          · skip
            refine j_il4 hX dX12_worth_65 ?_
            refine j_bipush hX dX12_worth_67 (by decide) ⟨by decide, by decide⟩ ?_
            refine j_icmp_ne (tgt := 77) hX dX12_worth_69 (by decide) (fun h_69 => ?_) (fun h_69 => ?_)
            · skip
              refine j_il4 hX dX12_worth_77 ?_
              refine j_bipush hX dX12_worth_79 (by decide) ⟨by decide, by decide⟩ ?_
              refine j_icmp_ne (tgt := 110) hX dX12_worth_81 (by decide) (fun h_81 => ?_) (fun h_81 => ?_)
              · skip
                refine j_il1 hX dX12_worth_110 ?_
                refine j_al0 hX dX12_worth_111 rfl ?_
                refine j_getI hX hG fl_X12_110 (Or.inl rfl) (by decide) dX12_worth_112 ?_
                refine j_eqS (st' := [vI (gO q), vI e]) (by rw [hg0]) ?_
                refine j_irem hX dX12_worth_115 (by omega) he.1 ?_
                exact jn_116 _ (by first | exact x_1 hde hdv (by omega) | exact x_2 hq9 hde hdv hw he hz (by omega) | exact x_3 hq9 hde hdv hw (by omega) (by first | exact Or.inl ⟨h_89, rfl⟩ | exact Or.inr ⟨h_89, rfl⟩) | exact x_4 hq9 hde hdv hw (by omega))
              · skip
                refine j_al0 hX dX12_worth_84 rfl ?_
                refine j_getI hX hG fl_X12_113 (Or.inl rfl) (by decide) dX12_worth_85 ?_
                refine j_iconst hX dX12_worth_88 ⟨by decide, by decide⟩ ?_
                refine j_icmp_ne (tgt := 96) hX dX12_worth_89 (by decide) (fun h_89 => ?_) (fun h_89 => ?_)
                · skip
                  refine j_il1 hX dX12_worth_96 ?_
                  refine j_al0 hX dX12_worth_97 rfl ?_
                  refine j_getI hX hG fl_X12_110 (Or.inl rfl) (by decide) dX12_worth_98 ?_
                  refine j_eqS (st' := [vI (gO q), vI e]) (by rw [hg0]) ?_
                  refine j_idiv hX dX12_worth_101 (by omega) he.1 ?_
                  refine j_al0 hX dX12_worth_102 rfl ?_
                  refine j_getI hX hG fl_X12_110 (Or.inl rfl) (by decide) dX12_worth_103 ?_
                  rw [hg0]
                  refine j_irem hX dX12_worth_106 (by omega) (by first | exact he.1 | exact q1) ?_
                  refine j_goto (tgt := 116) hX dX12_worth_107 (by decide) ?_
                  exact jn_116 _ (by first | exact x_1 hde hdv (by omega) | exact x_2 hq9 hde hdv hw he hz (by omega) | exact x_3 hq9 hde hdv hw (by omega) (by first | exact Or.inl ⟨h_89, rfl⟩ | exact Or.inr ⟨h_89, rfl⟩) | exact x_4 hq9 hde hdv hw (by omega))
                · skip
                  refine j_il1 hX dX12_worth_92 ?_
                  refine j_goto (tgt := 102) hX dX12_worth_93 (by decide) ?_
                  refine j_al0 hX dX12_worth_102 rfl ?_
                  refine j_getI hX hG fl_X12_110 (Or.inl rfl) (by decide) dX12_worth_103 ?_
                  rw [hg0]
                  refine j_irem hX dX12_worth_106 (by omega) (by first | exact he.1 | exact q1) ?_
                  refine j_goto (tgt := 116) hX dX12_worth_107 (by decide) ?_
                  exact jn_116 _ (by first | exact x_1 hde hdv (by omega) | exact x_2 hq9 hde hdv hw he hz (by omega) | exact x_3 hq9 hde hdv hw (by omega) (by first | exact Or.inl ⟨h_89, rfl⟩ | exact Or.inr ⟨h_89, rfl⟩) | exact x_4 hq9 hde hdv hw (by omega))
            · skip
              refine j_il5 hX dX12_worth_72 ?_
              refine j_goto (tgt := 116) hX dX12_worth_74 (by decide) ?_
              exact jn_116 _ (by first | exact x_1 hde hdv (by omega) | exact x_2 hq9 hde hdv hw he hz (by omega) | exact x_3 hq9 hde hdv hw (by omega) (by first | exact Or.inl ⟨h_89, rfl⟩ | exact Or.inr ⟨h_89, rfl⟩) | exact x_4 hq9 hde hdv hw (by omega))
          · skip
            refine j_il4 hX dX12_worth_60 ?_
            refine j_goto (tgt := 116) hX dX12_worth_62 (by decide) ?_
            exact jn_116 _ (by first | exact x_1 hde hdv (by omega) | exact x_2 hq9 hde hdv hw he hz (by omega) | exact x_3 hq9 hde hdv hw (by omega) (by first | exact Or.inl ⟨h_89, rfl⟩ | exact Or.inr ⟨h_89, rfl⟩) | exact x_4 hq9 hde hdv hw (by omega))
        refine j_al0 hX dX12_worth_23 rfl ?_
        refine j_getI hX hG fl_X12_113 (Or.inl rfl) (by decide) dX12_worth_24 ?_
        refine j_iconst hX dX12_worth_27 ⟨by decide, by decide⟩ ?_
        refine j_icmp_ne (tgt := 40) hX dX12_worth_28 (by decide) (fun h_28 => ?_) (fun h_28 => ?_)
        · skip
          refine j_il1 hX dX12_worth_40 ?_
          refine j_al0 hX dX12_worth_41 rfl ?_
          refine j_getI hX hG fl_X12_110 (Or.inl rfl) (by decide) dX12_worth_42 ?_
          refine j_eqS (st' := [vI (gO q), vI e]) (by rw [hg0]) ?_
          refine j_idiv hX dX12_worth_45 (by omega) he.1 ?_
          refine j_al0 hX dX12_worth_46 rfl ?_
          refine j_getI hX hG fl_X12_110 (Or.inl rfl) (by decide) dX12_worth_47 ?_
          refine j_eqS (st' := [vI (gO q), vI (e / gO q)]) (by rw [hg0]) ?_
          refine j_idiv hX dX12_worth_50 (by omega) q1 ?_
          exact jn_51 _ (by first | exact (if_pos h_28).symm | exact (if_neg h_28).symm)
        · skip
          refine j_il1 hX dX12_worth_31 ?_
          refine j_al0 hX dX12_worth_32 rfl ?_
          refine j_getI hX hG fl_X12_110 (Or.inl rfl) (by decide) dX12_worth_33 ?_
          refine j_eqS (st' := [vI (gO q), vI e]) (by rw [hg0]) ?_
          refine j_idiv hX dX12_worth_36 (by omega) he.1 ?_
          refine j_goto (tgt := 51) hX dX12_worth_37 (by decide) ?_
          exact jn_51 _ (by first | exact (if_pos h_28).symm | exact (if_neg h_28).symm)
  exact lp_4 _ 0 0 (by omega) rfl (by omega) (Nat.lt_succ_self _)
