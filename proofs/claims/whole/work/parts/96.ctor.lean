/-- what stands when the class is made, and when the model is -/
def INC (V : VV) : Prop := GP V 13 0 ∧ RO V 15 ∧ V 15 3 = 2 ∧ V 15 4 = 2 ∧ V 15 7 = 3 ∧ (∀ e, 0 ≤ e → e < 216 → V 16 e = if e = 2 ∨ e = 3 then 1 else 0) ∧ V 23 1 = 1 ∧ V 24 0 = 0 ∧ V 1 6 = -1 ∧ V 38 3 = -1 ∧ V 42 1 = -1 ∧ V 44 4 = -1 ∧
  ∀ a j : Int, (a ≠ 13 ∧ a ≠ 14 ∧ a ≠ 15 ∧ a ≠ 16 ∧ a ≠ 23 ∧ a ≠ 24) → ¬ (a = 1 ∧ j = 6) → ¬ (a = 38 ∧ j = 3) → ¬ (a = 42 ∧ j = 1) → ¬ (a = 44 ∧ j = 4) → V a j = 0
def INM (V V' : VV) : Prop := MG V' 0 ∧ MO V' ∧ V' 55 2 = 2 ∧ V' 55 5 = 1 ∧ (∀ e, 0 ≤ e → e < 4 → V' 58 e = if e = 2 ∨ e = 3 then 1 else 0) ∧ V' 59 0 = 0 ∧ V' 66 0 = 0 ∧ V' 66 1 = 0 ∧ V' 55 21 = 0 ∧ V' 55 38 = 0 ∧ V' 55 45 = 0 ∧ V' 55 30 = -1 ∧ V' 55 10 = 2 ∧ (∀ b : Int, b = 0 ∨ (13 ≤ b ∧ b ≠ 21 ∧ b ≠ 30 ∧ b ≠ 38 ∧ b ≠ 45) → V' 55 b = 0) ∧
  ∀ a j : Int, (a < 55 ∨ (63 ≤ a ∧ a ≠ 66)) → V' a j = V a j
theorem oL_X11 : Cond.methodLink RX11 1 objectInit ∈ Gw := (inT1 32 (by decide +kernel) rfl)
theorem cl_X11_7 : Cond.classLink RX11 7 RX4 ∈ Gw := (inT1 35 (by decide +kernel) rfl)
theorem ln_X11_9 : lkN RX11 9 yX4_init cX4_init 1 := ⟨⟨Or.inr ⟨"GroupAutomaton", inN1 37 (by decide +kernel)⟩, (inT1 2 (by decide +kernel) rfl), (inT1 39 (by decide +kernel) rfl), by decide, by decide, by decide +kernel⟩, (inT1 38 (by decide +kernel) rfl), rfl⟩
theorem fn_X11_10 : FN9 RX11 10 11 0 := ⟨TX11, 15, tyX11, rfl, rfl, by decide, wg11, (inT2 134 (by decide +kernel) rfl), tyX11_ok, nmX11, rfl, rfl, fun _ => rfl, fun _ => rfl⟩
theorem cl_X11_16 : Cond.classLink RX11 16 RX2 ∈ Gw := (inT1 184 (by decide +kernel) rfl)
theorem ln_X11_18 : lkN RX11 18 yX2_init cX2_init 1 := ⟨⟨Or.inr ⟨"GroupAutomaton", inN1 185 (by decide +kernel)⟩, (inT1 4 (by decide +kernel) rfl), (inT1 75 (by decide +kernel) rfl), by decide, by decide, by decide +kernel⟩, (inT1 74 (by decide +kernel) rfl), rfl⟩
theorem fn_X11_19 : FN9 RX11 19 11 1 := ⟨TX11, 15, tyX11, rfl, rfl, by decide, wg11, (inT2 135 (by decide +kernel) rfl), tyX11_ok, nmX11, rfl, rfl, fun _ => rfl, fun _ => rfl⟩
theorem cl_X11_23 : Cond.classLink RX11 23 RX8 ∈ Gw := (inT1 186 (by decide +kernel) rfl)
theorem ln_X11_25 : lkN RX11 25 yX8_init cX8_init 1 := ⟨⟨Or.inr ⟨"GroupAutomaton", inN1 187 (by decide +kernel)⟩, (inT1 5 (by decide +kernel) rfl), (inT1 90 (by decide +kernel) rfl), by decide, by decide, by decide +kernel⟩, (inT1 89 (by decide +kernel) rfl), rfl⟩
theorem fn_X11_26 : FN9 RX11 26 11 2 := ⟨TX11, 15, tyX11, rfl, rfl, by decide, wg11, (inT2 136 (by decide +kernel) rfl), tyX11_ok, nmX11, rfl, rfl, fun _ => rfl, fun _ => rfl⟩
theorem fn_X11_30 : FN9 RX11 30 11 3 := ⟨TX11, 15, tyX11, rfl, rfl, by decide, wg11, (inT2 137 (by decide +kernel) rfl), tyX11_ok, nmX11, rfl, rfl, fun _ => rfl, fun _ => rfl⟩
theorem cl_X11_33 : Cond.classLink RX11 33 RX7 ∈ Gw := (inT1 188 (by decide +kernel) rfl)
theorem ln_X11_35 : lkN RX11 35 yX7_init cX7_init 1 := ⟨⟨Or.inr ⟨"GroupAutomaton", inN1 189 (by decide +kernel)⟩, (inT1 6 (by decide +kernel) rfl), (inT1 141 (by decide +kernel) rfl), by decide, by decide, by decide +kernel⟩, (inT1 140 (by decide +kernel) rfl), rfl⟩
theorem fn_X11_36 : FN9 RX11 36 11 4 := ⟨TX11, 15, tyX11, rfl, rfl, by decide, wg11, (inT2 138 (by decide +kernel) rfl), tyX11_ok, nmX11, rfl, rfl, fun _ => rfl, fun _ => rfl⟩
theorem fn_X11_40 : FN9 RX11 40 11 5 := ⟨TX11, 15, tyX11, rfl, rfl, by decide, wg11, (inT2 139 (by decide +kernel) rfl), tyX11_ok, nmX11, rfl, rfl, fun _ => rfl, fun _ => rfl⟩
theorem fn_X11_43 : FN9 RX11 43 11 6 := ⟨TX11, 15, tyX11, rfl, rfl, by decide, wg11, (inT2 140 (by decide +kernel) rfl), tyX11_ok, nmX11, rfl, rfl, fun _ => rfl, fun _ => rfl⟩
theorem fn_X11_46 : FN9 RX11 46 11 7 := ⟨TX11, 15, tyX11, rfl, rfl, by decide, wg11, (inT2 141 (by decide +kernel) rfl), tyX11_ok, nmX11, rfl, rfl, fun _ => rfl, fun _ => rfl⟩
theorem fn_X11_49 : FN9 RX11 49 11 8 := ⟨TX11, 15, tyX11, rfl, rfl, by decide, wg11, (inT2 142 (by decide +kernel) rfl), tyX11_ok, nmX11, rfl, rfl, fun _ => rfl, fun _ => rfl⟩
theorem cl_X11_52 : Cond.classLink RX11 52 RX0 ∈ Gw := (inT1 190 (by decide +kernel) rfl)
theorem ln_X11_54 : lkN RX11 54 yX0_init cX0_init 1 := ⟨⟨Or.inr ⟨"GroupAutomaton", inN1 192 (by decide +kernel)⟩, (inT1 7 (by decide +kernel) rfl), (inT1 194 (by decide +kernel) rfl), by decide, by decide, by decide +kernel⟩, (inT1 193 (by decide +kernel) rfl), rfl⟩
theorem fn_X11_55 : FN9 RX11 55 11 9 := ⟨TX11, 15, tyX11, rfl, rfl, by decide, wg11, (inT2 143 (by decide +kernel) rfl), tyX11_ok, nmX11, rfl, rfl, fun _ => rfl, fun _ => rfl⟩
theorem cl_X11_59 : Cond.classLink RX11 59 RX6 ∈ Gw := (inT1 216 (by decide +kernel) rfl)
theorem ln_X11_61 : lkN RX11 61 yX6_init cX6_init 1 := ⟨⟨Or.inr ⟨"GroupAutomaton", inN1 218 (by decide +kernel)⟩, (inT1 8 (by decide +kernel) rfl), (inT1 220 (by decide +kernel) rfl), by decide, by decide, by decide +kernel⟩, (inT1 219 (by decide +kernel) rfl), rfl⟩
theorem fn_X11_62 : FN9 RX11 62 11 10 := ⟨TX11, 15, tyX11, rfl, rfl, by decide, wg11, (inT2 144 (by decide +kernel) rfl), tyX11_ok, nmX11, rfl, rfl, fun _ => rfl, fun _ => rfl⟩
theorem cl_X11_66 : Cond.classLink RX11 66 RX3 ∈ Gw := (inT2 3 (by decide +kernel) rfl)
theorem ln_X11_68 : lkN RX11 68 yX3_init cX3_init 1 := ⟨⟨Or.inr ⟨"GroupAutomaton", inN2 5 (by decide +kernel)⟩, (inT1 9 (by decide +kernel) rfl), (inT2 7 (by decide +kernel) rfl), by decide, by decide, by decide +kernel⟩, (inT2 6 (by decide +kernel) rfl), rfl⟩
theorem fn_X11_69 : FN9 RX11 69 11 11 := ⟨TX11, 15, tyX11, rfl, rfl, by decide, wg11, (inT2 145 (by decide +kernel) rfl), tyX11_ok, nmX11, rfl, rfl, fun _ => rfl, fun _ => rfl⟩
theorem cl_X11_73 : Cond.classLink RX11 73 RX1 ∈ Gw := (inT2 33 (by decide +kernel) rfl)
theorem ln_X11_75 : lkN RX11 75 yX1_init cX1_init 1 := ⟨⟨Or.inr ⟨"GroupAutomaton", inN2 35 (by decide +kernel)⟩, (inT1 10 (by decide +kernel) rfl), (inT2 37 (by decide +kernel) rfl), by decide, by decide, by decide +kernel⟩, (inT2 36 (by decide +kernel) rfl), rfl⟩
theorem fn_X11_76 : FN9 RX11 76 11 12 := ⟨TX11, 15, tyX11, rfl, rfl, by decide, wg11, (inT2 146 (by decide +kernel) rfl), tyX11_ok, nmX11, rfl, rfl, fun _ => rfl, fun _ => rfl⟩
theorem cl_X11_80 : Cond.classLink RX11 80 RX10 ∈ Gw := (inT2 62 (by decide +kernel) rfl)
theorem ln_X11_82 : lkN RX11 82 yX10_init cX10_init 1 := ⟨⟨Or.inr ⟨"GroupAutomaton", inN2 64 (by decide +kernel)⟩, (inT1 11 (by decide +kernel) rfl), (inT2 66 (by decide +kernel) rfl), by decide, by decide, by decide +kernel⟩, (inT2 65 (by decide +kernel) rfl), rfl⟩
theorem fn_X11_83 : FN9 RX11 83 11 13 := ⟨TX11, 15, tyX11, rfl, rfl, by decide, wg11, (inT2 147 (by decide +kernel) rfl), tyX11_ok, nmX11, rfl, rfl, fun _ => rfl, fun _ => rfl⟩
theorem cl_X11_87 : Cond.classLink RX11 87 RX5 ∈ Gw := (inT2 78 (by decide +kernel) rfl)
theorem ln_X11_89 : lkN RX11 89 yX5_init cX5_init 1 := ⟨⟨Or.inr ⟨"GroupAutomaton", inN2 80 (by decide +kernel)⟩, (inT1 12 (by decide +kernel) rfl), (inT2 82 (by decide +kernel) rfl), by decide, by decide, by decide +kernel⟩, (inT2 81 (by decide +kernel) rfl), rfl⟩
theorem fn_X11_90 : FN9 RX11 90 11 14 := ⟨TX11, 15, tyX11, rfl, rfl, by decide, wg11, (inT2 148 (by decide +kernel) rfl), tyX11_ok, nmX11, rfl, rfl, fun _ => rfl, fun _ => rfl⟩
set_option maxHeartbeats 4000000 in
theorem okn_0 {V : VV} (hz0 : ∀ a j, V a j = 0) : OkN yX11_init cX11_init 1 3 100 0 55 54 12191 V INC := by
  have hz : ∀ a : Int, 0 < a → ∀ j, V a j = 0 := fun a _ j => hz0 a j
  refine OkN.intro (by decide +kernel) rfl (by decide) (fun X R hX hI hb hcl9 hsl9 hR hoV => ?_)
  show J X (1, mx 0 [] R, 0, 0) 0 [vA 0] [] V
  refine j_al0 hX dX11_init_0 rfl ?_
  refine j_objI hX oL_X11 rfl (by decide) (by decide) rfl dX11_init_1 ?_
  refine j_al0 hX dX11_init_4 rfl ?_
  refine j_new (n := 1) (ci := 4) (N := 7) (ty := tyX4) hX (by decide) rfl rfl rfl wg4 tyX4_ok dv_X4 cl_X11_7 in_X4 ii_X4 (fun j => by exact hz 1 (by decide) j) (mx_new (by decide) (by decide)) (by rw [hcl9]; decide) (by rw [hsl9]; decide) dX11_init_5 ?_
  show J X (2, mx 0 [] R, 1, 7) 8 [vA 0] [vA 1, vA 0] V
  refine j_dup hX dX11_init_8 rfl ?_
  refine j_callM (k := 1) (n2 := 13) (mc := 11) (ms := 1434) hX ln_X11_9 (okn_1 (fun a ha j => by exact hz a (by omega) j)) (by decide) (by decide) (by decide) (by decide) (by decide) (Nat.le_of_ble_eq_true rfl) rfl ⟨by rw [hcl9]; decide, by rw [hsl9]; decide⟩ dX11_init_9 (fun V_9 h_9 => ?_)
  rw [h_9]
  show J X (13, mx 0 [(1, 13, -1)] R, 12, 1441) 12 [vA 0] [vA 1, vA 0] (up V 1 6 (-1))
  refine j_putM (k0 := 0) hX ⟨by decide, by decide⟩ (by decide) rfl fn_X11_10 rfl rfl hI dX11_init_12 ?_
  show J X (13, mx 0 [(0, 1, 0), (1, 13, -1)] R, 12, 1441) 15 [vA 0] [] (up V 1 6 (-1))
  refine j_al0 hX dX11_init_15 rfl ?_
  refine j_new (n := 13) (ci := 2) (N := 2) (ty := tyX2) hX (by decide) rfl rfl rfl wg2 tyX2_ok dv_X2 cl_X11_16 in_X2 ii_X2 (fun j => by rw [up_n _ (by omega)]; exact hz 13 (by decide) j) (mx_new (by decide) (by decide)) (by rw [hcl9]; decide) (by rw [hsl9]; decide) dX11_init_16 ?_
  show J X (14, mx 0 [(0, 1, 0), (1, 13, -1)] R, 13, 1443) 19 [vA 0] [vA 13, vA 0] (up V 1 6 (-1))
  refine j_dup hX dX11_init_19 rfl ?_
  refine j_callM (k := 13) (n2 := 15) (mc := 1) (ms := 36) hX ln_X11_18 (okn_13 (fun a ha j => by rw [up_n _ (by omega)]; exact hz a (by omega) j)) (by decide) (by decide) (by decide) (by decide) (by decide) (Nat.le_of_ble_eq_true rfl) rfl ⟨by rw [hcl9]; decide, by rw [hsl9]; decide⟩ dX11_init_20 (fun V_20 h_20 => ?_)
  rw [h_20]
  show J X (15, mx 0 [(13, 15, -1), (0, 1, 0), (1, 13, -1)] R, 14, 1479) 23 [vA 0] [vA 13, vA 0] (up V 1 6 (-1))
  refine j_putM (k0 := 0) hX ⟨by decide, by decide⟩ (by decide) rfl fn_X11_19 rfl rfl hI dX11_init_23 ?_
  show J X (15, mx 0 [(0, 1, 1), (13, 15, -1), (0, 1, 0), (1, 13, -1)] R, 14, 1479) 26 [vA 0] [] (up V 1 6 (-1))
  refine j_al0 hX dX11_init_26 rfl ?_
  refine j_new (n := 15) (ci := 8) (N := 8) (ty := tyX8) hX (by decide) rfl rfl rfl wg8 tyX8_ok dv_X8 cl_X11_23 in_X8 ii_X8 (fun j => by rw [up_n _ (by omega)]; exact hz 15 (by decide) j) (mx_new (by decide) (by decide)) (by rw [hcl9]; decide) (by rw [hsl9]; decide) dX11_init_27 ?_
  show J X (16, mx 0 [(0, 1, 1), (13, 15, -1), (0, 1, 0), (1, 13, -1)] R, 15, 1487) 30 [vA 0] [vA 15, vA 0] (up V 1 6 (-1))
  refine j_dup hX dX11_init_30 rfl ?_
  refine j_callM (k := 15) (n2 := 19) (mc := 3) (ms := 648) hX ln_X11_25 (okn_15 (fun a ha j => by rw [up_n _ (by omega)]; exact hz a (by omega) j)) (by decide) (by decide) (by decide) (by decide) (by decide) (Nat.le_of_ble_eq_true rfl) rfl ⟨by rw [hcl9]; decide, by rw [hsl9]; decide⟩ dX11_init_31 (fun V_31 h_31 => ?_)
  rw [h_31]
  show J X (19, mx 0 [(15, 19, -1), (0, 1, 1), (13, 15, -1), (0, 1, 0), (1, 13, -1)] R, 18, 2135) 34 [vA 0] [vA 15, vA 0] (up V 1 6 (-1))
  refine j_putM (k0 := 0) hX ⟨by decide, by decide⟩ (by decide) rfl fn_X11_26 rfl rfl hI dX11_init_34 ?_
  show J X (19, mx 0 [(0, 1, 2), (15, 19, -1), (0, 1, 1), (13, 15, -1), (0, 1, 0), (1, 13, -1)] R, 18, 2135) 37 [vA 0] [] (up V 1 6 (-1))
  refine j_al0 hX dX11_init_37 rfl ?_
  refine j_new (n := 19) (ci := 8) (N := 8) (ty := tyX8) hX (by decide) rfl rfl rfl wg8 tyX8_ok dv_X8 cl_X11_23 in_X8 ii_X8 (fun j => by rw [up_n _ (by omega)]; exact hz 19 (by decide) j) (mx_new (by decide) (by decide)) (by rw [hcl9]; decide) (by rw [hsl9]; decide) dX11_init_38 ?_
  show J X (20, mx 0 [(0, 1, 2), (15, 19, -1), (0, 1, 1), (13, 15, -1), (0, 1, 0), (1, 13, -1)] R, 19, 2143) 41 [vA 0] [vA 19, vA 0] (up V 1 6 (-1))
  refine j_dup hX dX11_init_41 rfl ?_
  refine j_callM (k := 19) (n2 := 23) (mc := 3) (ms := 648) hX ln_X11_25 (okn_19 (fun a ha j => by rw [up_n _ (by omega)]; exact hz a (by omega) j)) (by decide) (by decide) (by decide) (by decide) (by decide) (Nat.le_of_ble_eq_true rfl) rfl ⟨by rw [hcl9]; decide, by rw [hsl9]; decide⟩ dX11_init_42 (fun V_42 h_42 => ?_)
  rw [h_42]
  show J X (23, mx 0 [(19, 23, -1), (0, 1, 2), (15, 19, -1), (0, 1, 1), (13, 15, -1), (0, 1, 0), (1, 13, -1)] R, 22, 2791) 45 [vA 0] [vA 19, vA 0] (up V 1 6 (-1))
  refine j_putM (k0 := 0) hX ⟨by decide, by decide⟩ (by decide) rfl fn_X11_30 rfl rfl hI dX11_init_45 ?_
  show J X (23, mx 0 [(0, 1, 3), (19, 23, -1), (0, 1, 2), (15, 19, -1), (0, 1, 1), (13, 15, -1), (0, 1, 0), (1, 13, -1)] R, 22, 2791) 48 [vA 0] [] (up V 1 6 (-1))
  refine j_al0 hX dX11_init_48 rfl ?_
  refine j_new (n := 23) (ci := 7) (N := 2) (ty := tyX7) hX (by decide) rfl rfl rfl wg7 tyX7_ok dv_X7 cl_X11_33 in_X7 ii_X7 (fun j => by rw [up_n _ (by omega)]; exact hz 23 (by decide) j) (mx_new (by decide) (by decide)) (by rw [hcl9]; decide) (by rw [hsl9]; decide) dX11_init_49 ?_
  show J X (24, mx 0 [(0, 1, 3), (19, 23, -1), (0, 1, 2), (15, 19, -1), (0, 1, 1), (13, 15, -1), (0, 1, 0), (1, 13, -1)] R, 23, 2793) 52 [vA 0] [vA 23, vA 0] (up V 1 6 (-1))
  refine j_dup hX dX11_init_52 rfl ?_
  refine j_callM (k := 23) (n2 := 25) (mc := 1) (ms := 16) hX ln_X11_35 (okn_23 (fun a ha j => by rw [up_n _ (by omega)]; exact hz a (by omega) j)) (by decide) (by decide) (by decide) (by decide) (by decide) (Nat.le_of_ble_eq_true rfl) rfl ⟨by rw [hcl9]; decide, by rw [hsl9]; decide⟩ dX11_init_53 (fun V_53 h_53 => ?_)
  rw [h_53]
  show J X (25, mx 0 [(23, 25, -1), (0, 1, 3), (19, 23, -1), (0, 1, 2), (15, 19, -1), (0, 1, 1), (13, 15, -1), (0, 1, 0), (1, 13, -1)] R, 24, 2809) 56 [vA 0] [vA 23, vA 0] (up V 1 6 (-1))
  refine j_putM (k0 := 0) hX ⟨by decide, by decide⟩ (by decide) rfl fn_X11_36 rfl rfl hI dX11_init_56 ?_
  show J X (25, mx 0 [(0, 1, 4), (23, 25, -1), (0, 1, 3), (19, 23, -1), (0, 1, 2), (15, 19, -1), (0, 1, 1), (13, 15, -1), (0, 1, 0), (1, 13, -1)] R, 24, 2809) 59 [vA 0] [] (up V 1 6 (-1))
  refine j_al0 hX dX11_init_59 rfl ?_
  refine j_new (n := 25) (ci := 7) (N := 2) (ty := tyX7) hX (by decide) rfl rfl rfl wg7 tyX7_ok dv_X7 cl_X11_33 in_X7 ii_X7 (fun j => by rw [up_n _ (by omega)]; exact hz 25 (by decide) j) (mx_new (by decide) (by decide)) (by rw [hcl9]; decide) (by rw [hsl9]; decide) dX11_init_60 ?_
  show J X (26, mx 0 [(0, 1, 4), (23, 25, -1), (0, 1, 3), (19, 23, -1), (0, 1, 2), (15, 19, -1), (0, 1, 1), (13, 15, -1), (0, 1, 0), (1, 13, -1)] R, 25, 2811) 63 [vA 0] [vA 25, vA 0] (up V 1 6 (-1))
  refine j_dup hX dX11_init_63 rfl ?_
  refine j_callM (k := 25) (n2 := 27) (mc := 1) (ms := 16) hX ln_X11_35 (okn_25 (fun a ha j => by rw [up_n _ (by omega)]; exact hz a (by omega) j)) (by decide) (by decide) (by decide) (by decide) (by decide) (Nat.le_of_ble_eq_true rfl) rfl ⟨by rw [hcl9]; decide, by rw [hsl9]; decide⟩ dX11_init_64 (fun V_64 h_64 => ?_)
  rw [h_64]
  show J X (27, mx 0 [(25, 27, -1), (0, 1, 4), (23, 25, -1), (0, 1, 3), (19, 23, -1), (0, 1, 2), (15, 19, -1), (0, 1, 1), (13, 15, -1), (0, 1, 0), (1, 13, -1)] R, 26, 2827) 67 [vA 0] [vA 25, vA 0] (up V 1 6 (-1))
  refine j_putM (k0 := 0) hX ⟨by decide, by decide⟩ (by decide) rfl fn_X11_40 rfl rfl hI dX11_init_67 ?_
  show J X (27, mx 0 [(0, 1, 5), (25, 27, -1), (0, 1, 4), (23, 25, -1), (0, 1, 3), (19, 23, -1), (0, 1, 2), (15, 19, -1), (0, 1, 1), (13, 15, -1), (0, 1, 0), (1, 13, -1)] R, 26, 2827) 70 [vA 0] [] (up V 1 6 (-1))
  refine j_al0 hX dX11_init_70 rfl ?_
  refine j_new (n := 27) (ci := 7) (N := 2) (ty := tyX7) hX (by decide) rfl rfl rfl wg7 tyX7_ok dv_X7 cl_X11_33 in_X7 ii_X7 (fun j => by rw [up_n _ (by omega)]; exact hz 27 (by decide) j) (mx_new (by decide) (by decide)) (by rw [hcl9]; decide) (by rw [hsl9]; decide) dX11_init_71 ?_
  show J X (28, mx 0 [(0, 1, 5), (25, 27, -1), (0, 1, 4), (23, 25, -1), (0, 1, 3), (19, 23, -1), (0, 1, 2), (15, 19, -1), (0, 1, 1), (13, 15, -1), (0, 1, 0), (1, 13, -1)] R, 27, 2829) 74 [vA 0] [vA 27, vA 0] (up V 1 6 (-1))
  refine j_dup hX dX11_init_74 rfl ?_
  refine j_callM (k := 27) (n2 := 29) (mc := 1) (ms := 16) hX ln_X11_35 (okn_27 (fun a ha j => by rw [up_n _ (by omega)]; exact hz a (by omega) j)) (by decide) (by decide) (by decide) (by decide) (by decide) (Nat.le_of_ble_eq_true rfl) rfl ⟨by rw [hcl9]; decide, by rw [hsl9]; decide⟩ dX11_init_75 (fun V_75 h_75 => ?_)
  rw [h_75]
  show J X (29, mx 0 [(27, 29, -1), (0, 1, 5), (25, 27, -1), (0, 1, 4), (23, 25, -1), (0, 1, 3), (19, 23, -1), (0, 1, 2), (15, 19, -1), (0, 1, 1), (13, 15, -1), (0, 1, 0), (1, 13, -1)] R, 28, 2845) 78 [vA 0] [vA 27, vA 0] (up V 1 6 (-1))
  refine j_putM (k0 := 0) hX ⟨by decide, by decide⟩ (by decide) rfl fn_X11_43 rfl rfl hI dX11_init_78 ?_
  show J X (29, mx 0 [(0, 1, 6), (27, 29, -1), (0, 1, 5), (25, 27, -1), (0, 1, 4), (23, 25, -1), (0, 1, 3), (19, 23, -1), (0, 1, 2), (15, 19, -1), (0, 1, 1), (13, 15, -1), (0, 1, 0), (1, 13, -1)] R, 28, 2845) 81 [vA 0] [] (up V 1 6 (-1))
  refine j_al0 hX dX11_init_81 rfl ?_
  refine j_new (n := 29) (ci := 7) (N := 2) (ty := tyX7) hX (by decide) rfl rfl rfl wg7 tyX7_ok dv_X7 cl_X11_33 in_X7 ii_X7 (fun j => by rw [up_n _ (by omega)]; exact hz 29 (by decide) j) (mx_new (by decide) (by decide)) (by rw [hcl9]; decide) (by rw [hsl9]; decide) dX11_init_82 ?_
  show J X (30, mx 0 [(0, 1, 6), (27, 29, -1), (0, 1, 5), (25, 27, -1), (0, 1, 4), (23, 25, -1), (0, 1, 3), (19, 23, -1), (0, 1, 2), (15, 19, -1), (0, 1, 1), (13, 15, -1), (0, 1, 0), (1, 13, -1)] R, 29, 2847) 85 [vA 0] [vA 29, vA 0] (up V 1 6 (-1))
  refine j_dup hX dX11_init_85 rfl ?_
  refine j_callM (k := 29) (n2 := 31) (mc := 1) (ms := 16) hX ln_X11_35 (okn_29 (fun a ha j => by rw [up_n _ (by omega)]; exact hz a (by omega) j)) (by decide) (by decide) (by decide) (by decide) (by decide) (Nat.le_of_ble_eq_true rfl) rfl ⟨by rw [hcl9]; decide, by rw [hsl9]; decide⟩ dX11_init_86 (fun V_86 h_86 => ?_)
  rw [h_86]
  show J X (31, mx 0 [(29, 31, -1), (0, 1, 6), (27, 29, -1), (0, 1, 5), (25, 27, -1), (0, 1, 4), (23, 25, -1), (0, 1, 3), (19, 23, -1), (0, 1, 2), (15, 19, -1), (0, 1, 1), (13, 15, -1), (0, 1, 0), (1, 13, -1)] R, 30, 2863) 89 [vA 0] [vA 29, vA 0] (up V 1 6 (-1))
  refine j_putM (k0 := 0) hX ⟨by decide, by decide⟩ (by decide) rfl fn_X11_46 rfl rfl hI dX11_init_89 ?_
  show J X (31, mx 0 [(0, 1, 7), (29, 31, -1), (0, 1, 6), (27, 29, -1), (0, 1, 5), (25, 27, -1), (0, 1, 4), (23, 25, -1), (0, 1, 3), (19, 23, -1), (0, 1, 2), (15, 19, -1), (0, 1, 1), (13, 15, -1), (0, 1, 0), (1, 13, -1)] R, 30, 2863) 92 [vA 0] [] (up V 1 6 (-1))
  refine j_al0 hX dX11_init_92 rfl ?_
  refine j_new (n := 31) (ci := 7) (N := 2) (ty := tyX7) hX (by decide) rfl rfl rfl wg7 tyX7_ok dv_X7 cl_X11_33 in_X7 ii_X7 (fun j => by rw [up_n _ (by omega)]; exact hz 31 (by decide) j) (mx_new (by decide) (by decide)) (by rw [hcl9]; decide) (by rw [hsl9]; decide) dX11_init_93 ?_
  show J X (32, mx 0 [(0, 1, 7), (29, 31, -1), (0, 1, 6), (27, 29, -1), (0, 1, 5), (25, 27, -1), (0, 1, 4), (23, 25, -1), (0, 1, 3), (19, 23, -1), (0, 1, 2), (15, 19, -1), (0, 1, 1), (13, 15, -1), (0, 1, 0), (1, 13, -1)] R, 31, 2865) 96 [vA 0] [vA 31, vA 0] (up V 1 6 (-1))
  refine j_dup hX dX11_init_96 rfl ?_
  refine j_callM (k := 31) (n2 := 33) (mc := 1) (ms := 16) hX ln_X11_35 (okn_31 (fun a ha j => by rw [up_n _ (by omega)]; exact hz a (by omega) j)) (by decide) (by decide) (by decide) (by decide) (by decide) (Nat.le_of_ble_eq_true rfl) rfl ⟨by rw [hcl9]; decide, by rw [hsl9]; decide⟩ dX11_init_97 (fun V_97 h_97 => ?_)
  rw [h_97]
  show J X (33, mx 0 [(31, 33, -1), (0, 1, 7), (29, 31, -1), (0, 1, 6), (27, 29, -1), (0, 1, 5), (25, 27, -1), (0, 1, 4), (23, 25, -1), (0, 1, 3), (19, 23, -1), (0, 1, 2), (15, 19, -1), (0, 1, 1), (13, 15, -1), (0, 1, 0), (1, 13, -1)] R, 32, 2881) 100 [vA 0] [vA 31, vA 0] (up V 1 6 (-1))
  refine j_putM (k0 := 0) hX ⟨by decide, by decide⟩ (by decide) rfl fn_X11_49 rfl rfl hI dX11_init_100 ?_
  show J X (33, mx 0 [(0, 1, 8), (31, 33, -1), (0, 1, 7), (29, 31, -1), (0, 1, 6), (27, 29, -1), (0, 1, 5), (25, 27, -1), (0, 1, 4), (23, 25, -1), (0, 1, 3), (19, 23, -1), (0, 1, 2), (15, 19, -1), (0, 1, 1), (13, 15, -1), (0, 1, 0), (1, 13, -1)] R, 32, 2881) 103 [vA 0] [] (up V 1 6 (-1))
  refine j_al0 hX dX11_init_103 rfl ?_
  refine j_new (n := 33) (ci := 0) (N := 6) (ty := tyX0) hX (by decide) rfl rfl rfl wg0 tyX0_ok dv_X0 cl_X11_52 in_X0 ii_X0 (fun j => by rw [up_n _ (by omega)]; exact hz 33 (by decide) j) (mx_new (by decide) (by decide)) (by rw [hcl9]; decide) (by rw [hsl9]; decide) dX11_init_104 ?_
  show J X (34, mx 0 [(0, 1, 8), (31, 33, -1), (0, 1, 7), (29, 31, -1), (0, 1, 6), (27, 29, -1), (0, 1, 5), (25, 27, -1), (0, 1, 4), (23, 25, -1), (0, 1, 3), (19, 23, -1), (0, 1, 2), (15, 19, -1), (0, 1, 1), (13, 15, -1), (0, 1, 0), (1, 13, -1)] R, 33, 2887) 107 [vA 0] [vA 33, vA 0] (up V 1 6 (-1))
  refine j_dup hX dX11_init_107 rfl ?_
  refine j_callM (k := 33) (n2 := 38) (mc := 4) (ms := 190) hX ln_X11_54 (okn_33 (fun a ha j => by rw [up_n _ (by omega)]; exact hz a (by omega) j)) (by decide) (by decide) (by decide) (by decide) (by decide) (Nat.le_of_ble_eq_true rfl) rfl ⟨by rw [hcl9]; decide, by rw [hsl9]; decide⟩ dX11_init_108 (fun V_108 h_108 => ?_)
  rw [h_108]
  show J X (38, mx 0 [(33, 38, -1), (0, 1, 8), (31, 33, -1), (0, 1, 7), (29, 31, -1), (0, 1, 6), (27, 29, -1), (0, 1, 5), (25, 27, -1), (0, 1, 4), (23, 25, -1), (0, 1, 3), (19, 23, -1), (0, 1, 2), (15, 19, -1), (0, 1, 1), (13, 15, -1), (0, 1, 0), (1, 13, -1)] R, 37, 3077) 111 [vA 0] [vA 33, vA 0] (up V 1 6 (-1))
  refine j_putM (k0 := 0) hX ⟨by decide, by decide⟩ (by decide) rfl fn_X11_55 rfl rfl hI dX11_init_111 ?_
  show J X (38, mx 0 [(0, 1, 9), (33, 38, -1), (0, 1, 8), (31, 33, -1), (0, 1, 7), (29, 31, -1), (0, 1, 6), (27, 29, -1), (0, 1, 5), (25, 27, -1), (0, 1, 4), (23, 25, -1), (0, 1, 3), (19, 23, -1), (0, 1, 2), (15, 19, -1), (0, 1, 1), (13, 15, -1), (0, 1, 0), (1, 13, -1)] R, 37, 3077) 114 [vA 0] [] (up V 1 6 (-1))
  refine j_al0 hX dX11_init_114 rfl ?_
  refine j_new (n := 38) (ci := 6) (N := 6) (ty := tyX6) hX (by decide) rfl rfl rfl wg6 tyX6_ok dv_X6 cl_X11_59 in_X6 ii_X6 (fun j => by rw [up_n _ (by omega)]; exact hz 38 (by decide) j) (mx_new (by decide) (by decide)) (by rw [hcl9]; decide) (by rw [hsl9]; decide) dX11_init_115 ?_
  show J X (39, mx 0 [(0, 1, 9), (33, 38, -1), (0, 1, 8), (31, 33, -1), (0, 1, 7), (29, 31, -1), (0, 1, 6), (27, 29, -1), (0, 1, 5), (25, 27, -1), (0, 1, 4), (23, 25, -1), (0, 1, 3), (19, 23, -1), (0, 1, 2), (15, 19, -1), (0, 1, 1), (13, 15, -1), (0, 1, 0), (1, 13, -1)] R, 38, 3083) 118 [vA 0] [vA 38, vA 0] (up V 1 6 (-1))
  refine j_dup hX dX11_init_118 rfl ?_
  refine j_callM (k := 38) (n2 := 42) (mc := 3) (ms := 108) hX ln_X11_61 (okn_38 (fun a ha j => by rw [up_n _ (by omega)]; exact hz a (by omega) j)) (by decide) (by decide) (by decide) (by decide) (by decide) (Nat.le_of_ble_eq_true rfl) rfl ⟨by rw [hcl9]; decide, by rw [hsl9]; decide⟩ dX11_init_119 (fun V_119 h_119 => ?_)
  rw [h_119]
  show J X (42, mx 0 [(38, 42, -1), (0, 1, 9), (33, 38, -1), (0, 1, 8), (31, 33, -1), (0, 1, 7), (29, 31, -1), (0, 1, 6), (27, 29, -1), (0, 1, 5), (25, 27, -1), (0, 1, 4), (23, 25, -1), (0, 1, 3), (19, 23, -1), (0, 1, 2), (15, 19, -1), (0, 1, 1), (13, 15, -1), (0, 1, 0), (1, 13, -1)] R, 41, 3191) 122 [vA 0] [vA 38, vA 0] (up (up V 1 6 (-1)) 38 3 (-1))
  refine j_putM (k0 := 0) hX ⟨by decide, by decide⟩ (by decide) rfl fn_X11_62 rfl rfl hI dX11_init_122 ?_
  show J X (42, mx 0 [(0, 1, 10), (38, 42, -1), (0, 1, 9), (33, 38, -1), (0, 1, 8), (31, 33, -1), (0, 1, 7), (29, 31, -1), (0, 1, 6), (27, 29, -1), (0, 1, 5), (25, 27, -1), (0, 1, 4), (23, 25, -1), (0, 1, 3), (19, 23, -1), (0, 1, 2), (15, 19, -1), (0, 1, 1), (13, 15, -1), (0, 1, 0), (1, 13, -1)] R, 41, 3191) 125 [vA 0] [] (up (up V 1 6 (-1)) 38 3 (-1))
  refine j_al0 hX dX11_init_125 rfl ?_
  refine j_new (n := 42) (ci := 3) (N := 7) (ty := tyX3) hX (by decide) rfl rfl rfl wg3 tyX3_ok dv_X3 cl_X11_66 in_X3 ii_X3 (fun j => by rw [up_n _ (by omega), up_n _ (by omega)]; exact hz 42 (by decide) j) (mx_new (by decide) (by decide)) (by rw [hcl9]; decide) (by rw [hsl9]; decide) dX11_init_126 ?_
  show J X (43, mx 0 [(0, 1, 10), (38, 42, -1), (0, 1, 9), (33, 38, -1), (0, 1, 8), (31, 33, -1), (0, 1, 7), (29, 31, -1), (0, 1, 6), (27, 29, -1), (0, 1, 5), (25, 27, -1), (0, 1, 4), (23, 25, -1), (0, 1, 3), (19, 23, -1), (0, 1, 2), (15, 19, -1), (0, 1, 1), (13, 15, -1), (0, 1, 0), (1, 13, -1)] R, 42, 3198) 129 [vA 0] [vA 42, vA 0] (up (up V 1 6 (-1)) 38 3 (-1))
  refine j_dup hX dX11_init_129 rfl ?_
  refine j_callM (k := 42) (n2 := 44) (mc := 1) (ms := 7776) hX ln_X11_68 (okn_42 (fun a ha j => by rw [up_n _ (by omega), up_n _ (by omega)]; exact hz a (by omega) j)) (by decide) (by decide) (by decide) (by decide) (by decide) (Nat.le_of_ble_eq_true rfl) rfl ⟨by rw [hcl9]; decide, by rw [hsl9]; decide⟩ dX11_init_130 (fun V_130 h_130 => ?_)
  rw [h_130]
  show J X (44, mx 0 [(42, 44, -1), (0, 1, 10), (38, 42, -1), (0, 1, 9), (33, 38, -1), (0, 1, 8), (31, 33, -1), (0, 1, 7), (29, 31, -1), (0, 1, 6), (27, 29, -1), (0, 1, 5), (25, 27, -1), (0, 1, 4), (23, 25, -1), (0, 1, 3), (19, 23, -1), (0, 1, 2), (15, 19, -1), (0, 1, 1), (13, 15, -1), (0, 1, 0), (1, 13, -1)] R, 43, 10974) 133 [vA 0] [vA 42, vA 0] (up (up (up V 1 6 (-1)) 38 3 (-1)) 42 1 (-1))
  refine j_putM (k0 := 0) hX ⟨by decide, by decide⟩ (by decide) rfl fn_X11_69 rfl rfl hI dX11_init_133 ?_
  show J X (44, mx 0 [(0, 1, 11), (42, 44, -1), (0, 1, 10), (38, 42, -1), (0, 1, 9), (33, 38, -1), (0, 1, 8), (31, 33, -1), (0, 1, 7), (29, 31, -1), (0, 1, 6), (27, 29, -1), (0, 1, 5), (25, 27, -1), (0, 1, 4), (23, 25, -1), (0, 1, 3), (19, 23, -1), (0, 1, 2), (15, 19, -1), (0, 1, 1), (13, 15, -1), (0, 1, 0), (1, 13, -1)] R, 43, 10974) 136 [vA 0] [] (up (up (up V 1 6 (-1)) 38 3 (-1)) 42 1 (-1))
  refine j_al0 hX dX11_init_136 rfl ?_
  refine j_new (n := 44) (ci := 1) (N := 7) (ty := tyX1) hX (by decide) rfl rfl rfl wg1 tyX1_ok dv_X1 cl_X11_73 in_X1 ii_X1 (fun j => by rw [up_n _ (by omega), up_n _ (by omega), up_n _ (by omega)]; exact hz 44 (by decide) j) (mx_new (by decide) (by decide)) (by rw [hcl9]; decide) (by rw [hsl9]; decide) dX11_init_137 ?_
  show J X (45, mx 0 [(0, 1, 11), (42, 44, -1), (0, 1, 10), (38, 42, -1), (0, 1, 9), (33, 38, -1), (0, 1, 8), (31, 33, -1), (0, 1, 7), (29, 31, -1), (0, 1, 6), (27, 29, -1), (0, 1, 5), (25, 27, -1), (0, 1, 4), (23, 25, -1), (0, 1, 3), (19, 23, -1), (0, 1, 2), (15, 19, -1), (0, 1, 1), (13, 15, -1), (0, 1, 0), (1, 13, -1)] R, 44, 10981) 140 [vA 0] [vA 44, vA 0] (up (up (up V 1 6 (-1)) 38 3 (-1)) 42 1 (-1))
  refine j_dup hX dX11_init_140 rfl ?_
  refine j_callM (k := 44) (n2 := 49) (mc := 4) (ms := 114) hX ln_X11_75 (okn_44 (fun a ha j => by rw [up_n _ (by omega), up_n _ (by omega), up_n _ (by omega)]; exact hz a (by omega) j)) (by decide) (by decide) (by decide) (by decide) (by decide) (Nat.le_of_ble_eq_true rfl) rfl ⟨by rw [hcl9]; decide, by rw [hsl9]; decide⟩ dX11_init_141 (fun V_141 h_141 => ?_)
  rw [h_141]
  show J X (49, mx 0 [(44, 49, -1), (0, 1, 11), (42, 44, -1), (0, 1, 10), (38, 42, -1), (0, 1, 9), (33, 38, -1), (0, 1, 8), (31, 33, -1), (0, 1, 7), (29, 31, -1), (0, 1, 6), (27, 29, -1), (0, 1, 5), (25, 27, -1), (0, 1, 4), (23, 25, -1), (0, 1, 3), (19, 23, -1), (0, 1, 2), (15, 19, -1), (0, 1, 1), (13, 15, -1), (0, 1, 0), (1, 13, -1)] R, 48, 11095) 144 [vA 0] [vA 44, vA 0] (up (up (up (up V 1 6 (-1)) 38 3 (-1)) 42 1 (-1)) 44 4 (-1))
  refine j_putM (k0 := 0) hX ⟨by decide, by decide⟩ (by decide) rfl fn_X11_76 rfl rfl hI dX11_init_144 ?_
  show J X (49, mx 0 [(0, 1, 12), (44, 49, -1), (0, 1, 11), (42, 44, -1), (0, 1, 10), (38, 42, -1), (0, 1, 9), (33, 38, -1), (0, 1, 8), (31, 33, -1), (0, 1, 7), (29, 31, -1), (0, 1, 6), (27, 29, -1), (0, 1, 5), (25, 27, -1), (0, 1, 4), (23, 25, -1), (0, 1, 3), (19, 23, -1), (0, 1, 2), (15, 19, -1), (0, 1, 1), (13, 15, -1), (0, 1, 0), (1, 13, -1)] R, 48, 11095) 147 [vA 0] [] (up (up (up (up V 1 6 (-1)) 38 3 (-1)) 42 1 (-1)) 44 4 (-1))
  refine j_al0 hX dX11_init_147 rfl ?_
  refine j_new (n := 49) (ci := 10) (N := 3) (ty := tyX10) hX (by decide) rfl rfl rfl wg10 tyX10_ok dv_X10 cl_X11_80 in_X10 ii_X10 (fun j => by rw [up_n _ (by omega), up_n _ (by omega), up_n _ (by omega), up_n _ (by omega)]; exact hz 49 (by decide) j) (mx_new (by decide) (by decide)) (by rw [hcl9]; decide) (by rw [hsl9]; decide) dX11_init_148 ?_
  show J X (50, mx 0 [(0, 1, 12), (44, 49, -1), (0, 1, 11), (42, 44, -1), (0, 1, 10), (38, 42, -1), (0, 1, 9), (33, 38, -1), (0, 1, 8), (31, 33, -1), (0, 1, 7), (29, 31, -1), (0, 1, 6), (27, 29, -1), (0, 1, 5), (25, 27, -1), (0, 1, 4), (23, 25, -1), (0, 1, 3), (19, 23, -1), (0, 1, 2), (15, 19, -1), (0, 1, 1), (13, 15, -1), (0, 1, 0), (1, 13, -1)] R, 49, 11098) 151 [vA 0] [vA 49, vA 0] (up (up (up (up V 1 6 (-1)) 38 3 (-1)) 42 1 (-1)) 44 4 (-1))
  refine j_dup hX dX11_init_151 rfl ?_
  refine j_callM (k := 49) (n2 := 53) (mc := 3) (ms := 89) hX ln_X11_82 (okn_49 (fun a ha j => by rw [up_n _ (by omega), up_n _ (by omega), up_n _ (by omega), up_n _ (by omega)]; exact hz a (by omega) j)) (by decide) (by decide) (by decide) (by decide) (by decide) (Nat.le_of_ble_eq_true rfl) rfl ⟨by rw [hcl9]; decide, by rw [hsl9]; decide⟩ dX11_init_152 (fun V_152 h_152 => ?_)
  rw [h_152]
  show J X (53, mx 0 [(49, 53, -1), (0, 1, 12), (44, 49, -1), (0, 1, 11), (42, 44, -1), (0, 1, 10), (38, 42, -1), (0, 1, 9), (33, 38, -1), (0, 1, 8), (31, 33, -1), (0, 1, 7), (29, 31, -1), (0, 1, 6), (27, 29, -1), (0, 1, 5), (25, 27, -1), (0, 1, 4), (23, 25, -1), (0, 1, 3), (19, 23, -1), (0, 1, 2), (15, 19, -1), (0, 1, 1), (13, 15, -1), (0, 1, 0), (1, 13, -1)] R, 52, 11187) 155 [vA 0] [vA 49, vA 0] (up (up (up (up V 1 6 (-1)) 38 3 (-1)) 42 1 (-1)) 44 4 (-1))
  refine j_putM (k0 := 0) hX ⟨by decide, by decide⟩ (by decide) rfl fn_X11_83 rfl rfl hI dX11_init_155 ?_
  show J X (53, mx 0 [(0, 1, 13), (49, 53, -1), (0, 1, 12), (44, 49, -1), (0, 1, 11), (42, 44, -1), (0, 1, 10), (38, 42, -1), (0, 1, 9), (33, 38, -1), (0, 1, 8), (31, 33, -1), (0, 1, 7), (29, 31, -1), (0, 1, 6), (27, 29, -1), (0, 1, 5), (25, 27, -1), (0, 1, 4), (23, 25, -1), (0, 1, 3), (19, 23, -1), (0, 1, 2), (15, 19, -1), (0, 1, 1), (13, 15, -1), (0, 1, 0), (1, 13, -1)] R, 52, 11187) 158 [vA 0] [] (up (up (up (up V 1 6 (-1)) 38 3 (-1)) 42 1 (-1)) 44 4 (-1))
  refine j_al0 hX dX11_init_158 rfl ?_
  refine j_new (n := 53) (ci := 5) (N := 3) (ty := tyX5) hX (by decide) rfl rfl rfl wg5 tyX5_ok dv_X5 cl_X11_87 in_X5 ii_X5 (fun j => by rw [up_n _ (by omega), up_n _ (by omega), up_n _ (by omega), up_n _ (by omega)]; exact hz 53 (by decide) j) (mx_new (by decide) (by decide)) (by rw [hcl9]; decide) (by rw [hsl9]; decide) dX11_init_159 ?_
  show J X (54, mx 0 [(0, 1, 13), (49, 53, -1), (0, 1, 12), (44, 49, -1), (0, 1, 11), (42, 44, -1), (0, 1, 10), (38, 42, -1), (0, 1, 9), (33, 38, -1), (0, 1, 8), (31, 33, -1), (0, 1, 7), (29, 31, -1), (0, 1, 6), (27, 29, -1), (0, 1, 5), (25, 27, -1), (0, 1, 4), (23, 25, -1), (0, 1, 3), (19, 23, -1), (0, 1, 2), (15, 19, -1), (0, 1, 1), (13, 15, -1), (0, 1, 0), (1, 13, -1)] R, 53, 11190) 162 [vA 0] [vA 53, vA 0] (up (up (up (up V 1 6 (-1)) 38 3 (-1)) 42 1 (-1)) 44 4 (-1))
  refine j_dup hX dX11_init_162 rfl ?_
  refine j_callM (k := 53) (n2 := 55) (mc := 1) (ms := 1001) hX ln_X11_89 (okn_53 (fun a ha j => by rw [up_n _ (by omega), up_n _ (by omega), up_n _ (by omega), up_n _ (by omega)]; exact hz a (by omega) j)) (by decide) (by decide) (by decide) (by decide) (by decide) (Nat.le_of_ble_eq_true rfl) rfl ⟨by rw [hcl9]; decide, by rw [hsl9]; decide⟩ dX11_init_163 (fun V_163 h_163 => ?_)
  rw [h_163]
  show J X (55, mx 0 [(53, 55, -1), (0, 1, 13), (49, 53, -1), (0, 1, 12), (44, 49, -1), (0, 1, 11), (42, 44, -1), (0, 1, 10), (38, 42, -1), (0, 1, 9), (33, 38, -1), (0, 1, 8), (31, 33, -1), (0, 1, 7), (29, 31, -1), (0, 1, 6), (27, 29, -1), (0, 1, 5), (25, 27, -1), (0, 1, 4), (23, 25, -1), (0, 1, 3), (19, 23, -1), (0, 1, 2), (15, 19, -1), (0, 1, 1), (13, 15, -1), (0, 1, 0), (1, 13, -1)] R, 54, 12191) 166 [vA 0] [vA 53, vA 0] (up (up (up (up V 1 6 (-1)) 38 3 (-1)) 42 1 (-1)) 44 4 (-1))
  refine j_putM (k0 := 0) hX ⟨by decide, by decide⟩ (by decide) rfl fn_X11_90 rfl rfl hI dX11_init_166 ?_
  show J X (55, mx 0 [(0, 1, 14), (53, 55, -1), (0, 1, 13), (49, 53, -1), (0, 1, 12), (44, 49, -1), (0, 1, 11), (42, 44, -1), (0, 1, 10), (38, 42, -1), (0, 1, 9), (33, 38, -1), (0, 1, 8), (31, 33, -1), (0, 1, 7), (29, 31, -1), (0, 1, 6), (27, 29, -1), (0, 1, 5), (25, 27, -1), (0, 1, 4), (23, 25, -1), (0, 1, 3), (19, 23, -1), (0, 1, 2), (15, 19, -1), (0, 1, 1), (13, 15, -1), (0, 1, 0), (1, 13, -1)] R, 54, 12191) 169 [vA 0] [] (up (up (up (up V 1 6 (-1)) 38 3 (-1)) 42 1 (-1)) 44 4 (-1))
  refine j_end (k := 0) (by decide +kernel) ?_
  generalize hV0 : (up (up (up (up V 1 6 (-1)) 38 3 (-1)) 42 1 (-1)) 44 4 (-1)) = V0
  have v1 : V0 1 6 = -1 := by rw [← hV0, up_n _ (by omega), up_n _ (by omega), up_n _ (by omega), up_s]
  have v2 : V0 38 3 = -1 := by rw [← hV0, up_n _ (by omega), up_n _ (by omega), up_s]
  have v3 : V0 42 1 = -1 := by rw [← hV0, up_n _ (by omega), up_s]
  have v4 : V0 44 4 = -1 := by rw [← hV0, up_s]
  have vz : ∀ a j : Int, ¬ (a = 1 ∧ j = 6) → ¬ (a = 38 ∧ j = 3) → ¬ (a = 42 ∧ j = 1) → ¬ (a = 44 ∧ j = 4) → V0 a j = 0 := fun a j h1 h2 h3 h4 => by rw [← hV0, up_n _ h4, up_n _ h3, up_n _ h2, up_n _ h1]; exact hz0 a j
  clear hV0
  have hG : gOK NC (55, sT R 0 55, 54, 12191) := ⟨Nat.le_refl _, fun k j h1 h2 => if_pos ⟨h1, h2⟩⟩
  refine j_al0 hX dX11_init_169 rfl ?_
  refine j_getR (q := 13) hX hG fl_X11_19 rfl rfl (by decide) dX11_init_170 ?_
  refine j_iconst hX dX11_init_173 ⟨by decide, by decide⟩ ?_
  refine j_cVV1 (ci := 2) hX hG lk_X11_94 (ok_X2_becomeCyclic (r := 13) (Or.inr rfl) (by decide)) (by decide) rfl (Nat.le_of_ble_eq_true rfl) (Nat.le_of_ble_eq_true rfl) (Nat.le_of_ble_eq_true rfl) rfl dX11_init_174 (fun V1 h1 => ?_)
  obtain ⟨g1, f1⟩ := h1
  have p7 : V1 15 7 = 0 := (f1 15 7 (by decide) (by decide)).trans (vz _ _ (by omega) (by omega) (by omega) (by omega))
  refine j_al0 hX dX11_init_177 rfl ?_
  refine j_getR (q := 15) hX hG fl_X11_26 rfl rfl (by decide) dX11_init_178 ?_
  refine j_iconst hX dX11_init_181 ⟨by decide, by decide⟩ ?_
  refine j_iconst hX dX11_init_182 ⟨by decide, by decide⟩ ?_
  refine j_cVV2 (ci := 8) hX hG lk_X11_98 (ok_X8_restart (r := 15) (Or.inr (Or.inl rfl)) (by decide) (by decide) (by omega)) (by decide) rfl (Nat.le_of_ble_eq_true rfl) (Nat.le_of_ble_eq_true rfl) (Nat.le_of_ble_eq_true rfl) rfl dX11_init_183 (fun V2 h2 => ?_)
  obtain ⟨r1, r3, r4, r7, rz, f2⟩ := h2
  refine j_al0 hX dX11_init_186 rfl ?_
  refine j_getR (q := 15) hX hG fl_X11_26 rfl rfl (by decide) dX11_init_187 ?_
  refine j_iconst hX dX11_init_190 ⟨by decide, by decide⟩ ?_
  refine j_iconst hX dX11_init_191 ⟨by decide, by decide⟩ ?_
  refine j_cVV2 (ci := 8) hX hG lk_X11_102 (ok_X8_give (r := 15) (Or.inr (Or.inl rfl)) (by decide) (by omega)) (by decide) rfl (Nat.le_of_ble_eq_true rfl) (Nat.le_of_ble_eq_true rfl) (Nat.le_of_ble_eq_true rfl) rfl dX11_init_192 (fun V3 h3 => ?_)
  have q7 : V3 15 7 = 2 := by rw [h3, up_s]; omega
  refine j_al0 hX dX11_init_195 rfl ?_
  refine j_getR (q := 15) hX hG fl_X11_26 rfl rfl (by decide) dX11_init_196 ?_
  refine j_iconst hX dX11_init_199 ⟨by decide, by decide⟩ ?_
  refine j_iconst hX dX11_init_200 ⟨by decide, by decide⟩ ?_
  refine j_cVV2 (ci := 8) hX hG lk_X11_102 (ok_X8_give (r := 15) (Or.inr (Or.inl rfl)) (by decide) (by omega)) (by decide) rfl (Nat.le_of_ble_eq_true rfl) (Nat.le_of_ble_eq_true rfl) (Nat.le_of_ble_eq_true rfl) rfl dX11_init_201 (fun V4 h4 => ?_)
  have e23 : V4 23 1 = 0 := by rw [h4, up_n _ (by omega), up_n _ (by omega), h3, up_n _ (by omega), up_n _ (by omega), f2 23 1 (by decide) (by decide), f1 23 1 (by decide) (by decide)]; exact vz _ _ (by omega) (by omega) (by omega) (by omega)
  refine j_al0 hX dX11_init_204 rfl ?_
  refine j_getR (q := 23) hX hG fl_X11_36 rfl rfl (by decide) dX11_init_205 ?_
  refine j_iconst hX dX11_init_208 ⟨by decide, by decide⟩ ?_
  refine j_cVV1 (ci := 7) hX hG lk_X11_105 (ok_X7_add (r := 23) (by decide) (by omega)) (by decide) rfl (Nat.le_of_ble_eq_true rfl) (Nat.le_of_ble_eq_true rfl) (Nat.le_of_ble_eq_true rfl) rfl dX11_init_209 (fun V5 h5 => ?_)
  have k5 : ∀ a j : Int, a ≠ 15 → a ≠ 16 → a ≠ 23 → a ≠ 24 → V5 a j = V2 a j := fun a j z1 z2 z3 z4 => by rw [h5, up_n _ (by omega), up_n _ (by omega), h4, up_n _ (by omega), up_n _ (by omega), h3, up_n _ (by omega), up_n _ (by omega)]
  have k7 : ∀ j : Int, j ≠ 7 → V5 15 j = V2 15 j := fun j z => by rw [h5, up_n _ (by omega), up_n _ (by omega), h4, up_n _ (by omega), up_n _ (by omega), h3, up_n _ (by omega), up_n _ (by omega)]
  have kz : ∀ a j : Int, (a ≠ 13 ∧ a ≠ 14 ∧ a ≠ 15 ∧ a ≠ 16 ∧ a ≠ 23 ∧ a ≠ 24) → V5 a j = V0 a j := fun a j z => by rw [k5 a j z.2.2.1 z.2.2.2.1 z.2.2.2.2.1 z.2.2.2.2.2, f2 a j z.2.2.1 z.2.2.2.1, f1 a j z.1 z.2.1]
  refine j_ret hR dX11_init_212 ⟨(g1.sm (fun b => f2 _ b (by decide) (by decide)) (fun b => f2 _ b (by decide) (by decide))).sm (fun b => k5 _ b (by decide) (by decide) (by decide) (by decide)) (fun b => k5 _ b (by decide) (by decide) (by decide) (by decide)), ?_, (k7 3 (by decide)).trans r3, (k7 4 (by decide)).trans r4, ?_, fun e e0 e1 => ?_, ?_, ?_, (kz 1 6 (by decide)).trans v1, (kz 38 3 (by decide)).trans v2, (kz 42 1 (by decide)).trans v3, (kz 44 4 (by decide)).trans v4, fun a j za z1 z2 z3 z4 => (kz a j za).trans (vz a j z1 z2 z3 z4)⟩
  · unfold RO at r1 ⊢
    rw [k7 3 (by decide), k7 4 (by decide), k7 5 (by decide), k7 6 (by decide)]
    exact r1
  · rw [h5, up_n _ (by omega), up_n _ (by omega), h4, up_s, q7]
    rfl
  · rw [h5, up_n _ (by omega), up_n _ (by omega), h4, up_n _ (by omega)]
    by_cases e3 : e = 3
    · subst e3
      rw [if_pos (Or.inr rfl)]
      exact up_s ..
    · rw [up_n _ (by omega), h3, up_n _ (by omega)]
      by_cases e2 : e = 2
      · subst e2
        rw [if_pos (Or.inl rfl)]
        exact up_s ..
      · rw [up_n _ (by omega), if_neg (by omega)]
        exact rz e e0 e1
  · rw [h5, up_s, e23]
    rfl
  · rw [h5, up_n _ (by omega), e23]
    exact up_s ..
theorem oL_X12 : Cond.methodLink RX12 1 objectInit ∈ Gw := (inT7 7 (by decide +kernel) rfl)
theorem fn_X12_7 : FN9 RX12 7 12 6 := ⟨TX12, 55, tyX12, rfl, rfl, by decide, wg12, (inT7 33 (by decide +kernel) rfl), tyX12_ok, nmX12, rfl, rfl, fun _ => rfl, fun _ => rfl⟩
theorem fn_X12_13 : FN9 RX12 13 12 7 := ⟨TX12, 55, tyX12, rfl, rfl, by decide, wg12, (inT7 34 (by decide +kernel) rfl), tyX12_ok, nmX12, rfl, rfl, fun _ => rfl, fun _ => rfl⟩
theorem fn_X12_16 : FN9 RX12 16 12 8 := ⟨TX12, 55, tyX12, rfl, rfl, by decide, wg12, (inT7 35 (by decide +kernel) rfl), tyX12_ok, nmX12, rfl, rfl, fun _ => rfl, fun _ => rfl⟩
theorem fn_X12_19 : FN9 RX12 19 12 9 := ⟨TX12, 55, tyX12, rfl, rfl, by decide, wg12, (inT7 36 (by decide +kernel) rfl), tyX12_ok, nmX12, rfl, rfl, fun _ => rfl, fun _ => rfl⟩
theorem fn_X12_22 : FN9 RX12 22 12 13 := ⟨TX12, 55, tyX12, rfl, rfl, by decide, wg12, (inT7 40 (by decide +kernel) rfl), tyX12_ok, nmX12, rfl, rfl, fun _ => rfl, fun _ => rfl⟩
theorem fn_X12_25 : FN9 RX12 25 12 14 := ⟨TX12, 55, tyX12, rfl, rfl, by decide, wg12, (inT7 41 (by decide +kernel) rfl), tyX12_ok, nmX12, rfl, rfl, fun _ => rfl, fun _ => rfl⟩
theorem fn_X12_28 : FN9 RX12 28 12 15 := ⟨TX12, 55, tyX12, rfl, rfl, by decide, wg12, (inT7 42 (by decide +kernel) rfl), tyX12_ok, nmX12, rfl, rfl, fun _ => rfl, fun _ => rfl⟩
theorem fn_X12_31 : FN9 RX12 31 12 16 := ⟨TX12, 55, tyX12, rfl, rfl, by decide, wg12, (inT7 43 (by decide +kernel) rfl), tyX12_ok, nmX12, rfl, rfl, fun _ => rfl, fun _ => rfl⟩
theorem fn_X12_34 : FN9 RX12 34 12 17 := ⟨TX12, 55, tyX12, rfl, rfl, by decide, wg12, (inT7 44 (by decide +kernel) rfl), tyX12_ok, nmX12, rfl, rfl, fun _ => rfl, fun _ => rfl⟩
theorem fn_X12_38 : FN9 RX12 38 12 18 := ⟨TX12, 55, tyX12, rfl, rfl, by decide, wg12, (inT7 45 (by decide +kernel) rfl), tyX12_ok, nmX12, rfl, rfl, fun _ => rfl, fun _ => rfl⟩
theorem fn_X12_41 : FN9 RX12 41 12 19 := ⟨TX12, 55, tyX12, rfl, rfl, by decide, wg12, (inT7 46 (by decide +kernel) rfl), tyX12_ok, nmX12, rfl, rfl, fun _ => rfl, fun _ => rfl⟩
theorem fn_X12_44 : FN9 RX12 44 12 20 := ⟨TX12, 55, tyX12, rfl, rfl, by decide, wg12, (inT7 47 (by decide +kernel) rfl), tyX12_ok, nmX12, rfl, rfl, fun _ => rfl, fun _ => rfl⟩
theorem fn_X12_47 : FN9 RX12 47 12 22 := ⟨TX12, 55, tyX12, rfl, rfl, by decide, wg12, (inT7 49 (by decide +kernel) rfl), tyX12_ok, nmX12, rfl, rfl, fun _ => rfl, fun _ => rfl⟩
theorem fn_X12_54 : FN9 RX12 54 12 32 := ⟨TX12, 55, tyX12, rfl, rfl, by decide, wg12, (inT7 59 (by decide +kernel) rfl), tyX12_ok, nmX12, rfl, rfl, fun _ => rfl, fun _ => rfl⟩
theorem fn_X12_57 : FN9 RX12 57 12 33 := ⟨TX12, 55, tyX12, rfl, rfl, by decide, wg12, (inT7 60 (by decide +kernel) rfl), tyX12_ok, nmX12, rfl, rfl, fun _ => rfl, fun _ => rfl⟩
theorem fn_X12_60 : FN9 RX12 60 12 34 := ⟨TX12, 55, tyX12, rfl, rfl, by decide, wg12, (inT7 61 (by decide +kernel) rfl), tyX12_ok, nmX12, rfl, rfl, fun _ => rfl, fun _ => rfl⟩
theorem fn_X12_63 : FN9 RX12 63 12 35 := ⟨TX12, 55, tyX12, rfl, rfl, by decide, wg12, (inT7 62 (by decide +kernel) rfl), tyX12_ok, nmX12, rfl, rfl, fun _ => rfl, fun _ => rfl⟩
theorem fn_X12_67 : FN9 RX12 67 12 36 := ⟨TX12, 55, tyX12, rfl, rfl, by decide, wg12, (inT7 63 (by decide +kernel) rfl), tyX12_ok, nmX12, rfl, rfl, fun _ => rfl, fun _ => rfl⟩
theorem fn_X12_70 : FN9 RX12 70 12 37 := ⟨TX12, 55, tyX12, rfl, rfl, by decide, wg12, (inT7 64 (by decide +kernel) rfl), tyX12_ok, nmX12, rfl, rfl, fun _ => rfl, fun _ => rfl⟩
theorem fn_X12_73 : FN9 RX12 73 12 41 := ⟨TX12, 55, tyX12, rfl, rfl, by decide, wg12, (inT7 68 (by decide +kernel) rfl), tyX12_ok, nmX12, rfl, rfl, fun _ => rfl, fun _ => rfl⟩
theorem fn_X12_77 : FN9 RX12 77 12 42 := ⟨TX12, 55, tyX12, rfl, rfl, by decide, wg12, (inT7 69 (by decide +kernel) rfl), tyX12_ok, nmX12, rfl, rfl, fun _ => rfl, fun _ => rfl⟩
theorem fn_X12_80 : FN9 RX12 80 12 43 := ⟨TX12, 55, tyX12, rfl, rfl, by decide, wg12, (inT7 70 (by decide +kernel) rfl), tyX12_ok, nmX12, rfl, rfl, fun _ => rfl, fun _ => rfl⟩
theorem fn_X12_83 : FN9 RX12 83 12 44 := ⟨TX12, 55, tyX12, rfl, rfl, by decide, wg12, (inT7 71 (by decide +kernel) rfl), tyX12_ok, nmX12, rfl, rfl, fun _ => rfl, fun _ => rfl⟩
theorem fn_X12_86 : FN9 RX12 86 12 47 := ⟨TX12, 55, tyX12, rfl, rfl, by decide, wg12, (inT7 74 (by decide +kernel) rfl), tyX12_ok, nmX12, rfl, rfl, fun _ => rfl, fun _ => rfl⟩
theorem fn_X12_89 : FN9 RX12 89 12 48 := ⟨TX12, 55, tyX12, rfl, rfl, by decide, wg12, (inT7 75 (by decide +kernel) rfl), tyX12_ok, nmX12, rfl, rfl, fun _ => rfl, fun _ => rfl⟩
theorem fn_X12_92 : FN9 RX12 92 12 49 := ⟨TX12, 55, tyX12, rfl, rfl, by decide, wg12, (inT7 76 (by decide +kernel) rfl), tyX12_ok, nmX12, rfl, rfl, fun _ => rfl, fun _ => rfl⟩
theorem fn_X12_95 : FN9 RX12 95 12 50 := ⟨TX12, 55, tyX12, rfl, rfl, by decide, wg12, (inT7 77 (by decide +kernel) rfl), tyX12_ok, nmX12, rfl, rfl, fun _ => rfl, fun _ => rfl⟩
theorem fn_X12_98 : FN9 RX12 98 12 51 := ⟨TX12, 55, tyX12, rfl, rfl, by decide, wg12, (inT7 78 (by decide +kernel) rfl), tyX12_ok, nmX12, rfl, rfl, fun _ => rfl, fun _ => rfl⟩
theorem fn_X12_101 : FN9 RX12 101 12 52 := ⟨TX12, 55, tyX12, rfl, rfl, by decide, wg12, (inT7 79 (by decide +kernel) rfl), tyX12_ok, nmX12, rfl, rfl, fun _ => rfl, fun _ => rfl⟩
theorem fn_X12_104 : FN9 RX12 104 12 53 := ⟨TX12, 55, tyX12, rfl, rfl, by decide, wg12, (inT7 80 (by decide +kernel) rfl), tyX12_ok, nmX12, rfl, rfl, fun _ => rfl, fun _ => rfl⟩
theorem fn_X12_107 : FN9 RX12 107 12 54 := ⟨TX12, 55, tyX12, rfl, rfl, by decide, wg12, (inT7 81 (by decide +kernel) rfl), tyX12_ok, nmX12, rfl, rfl, fun _ => rfl, fun _ => rfl⟩
set_option maxHeartbeats 4000000 in
theorem okn_55 {V : VV} (hz : ∀ a : Int, 55 ≤ a → ∀ j, V a j = 0) : OkN yX12_init cX12_init 2 3 100 55 87 31 67913 V (INM V) := by
  refine OkN.intro (by decide +kernel) rfl (by decide) (fun X R hX hI hb hcl9 hsl9 hR hoV => ?_)
  show J X (56, mx 55 [] R, 0, 0) 0 [vA 55, vU] [] V
  refine j_al0 hX dX12_init_0 rfl ?_
  refine j_objI hX oL_X12 rfl (by decide) (by decide) rfl dX12_init_1 ?_
  refine j_al0 hX dX12_init_4 rfl ?_
  refine j_bipush hX dX12_init_5 (by decide) ⟨by decide, by decide⟩ ?_
  refine j_newarr (n := 56) (t := 1) (len := 36) (ty := .int) hX (by decide) rfl rfl ac_int (Or.inl ⟨rfl, rfl⟩) rfl (by decide) (fun j => by exact hz 56 (by decide) j) (by rw [hcl9]; decide) (by rw [hsl9]; decide) dX12_init_7 ?_
  show J X (57, mx 55 [] R, 1, 36) 9 [vA 55, vU] [vA 56, vA 55] V
  refine j_putM (k0 := 55) hX ⟨by decide, by decide⟩ (by decide) rfl fn_X12_7 rfl rfl hI dX12_init_9 ?_
  show J X (57, mx 55 [(55, 56, 6)] R, 1, 36) 12 [vA 55, vU] [] V
  refine j_al0 hX dX12_init_12 rfl ?_
  refine j_bipush hX dX12_init_13 (by decide) ⟨by decide, by decide⟩ ?_
  refine j_newarr (n := 57) (t := 1) (len := 6) (ty := .int) hX (by decide) rfl rfl ac_int (Or.inl ⟨rfl, rfl⟩) rfl (by decide) (fun j => by exact hz 57 (by decide) j) (by rw [hcl9]; decide) (by rw [hsl9]; decide) dX12_init_15 ?_
  show J X (58, mx 55 [(55, 56, 6)] R, 2, 42) 17 [vA 55, vU] [vA 57, vA 55] V
  refine j_putM (k0 := 55) hX ⟨by decide, by decide⟩ (by decide) rfl fn_X12_13 rfl rfl hI dX12_init_17 ?_
  show J X (58, mx 55 [(55, 56, 7), (55, 56, 6)] R, 2, 42) 20 [vA 55, vU] [] V
  refine j_al0 hX dX12_init_20 rfl ?_
  refine j_sipush hX dX12_init_21 (by decide) ⟨by decide, by decide⟩ ?_
  refine j_newarr (n := 58) (t := 1) (len := 216) (ty := .int) hX (by decide) rfl rfl ac_int (Or.inl ⟨rfl, rfl⟩) rfl (by decide) (fun j => by exact hz 58 (by decide) j) (by rw [hcl9]; decide) (by rw [hsl9]; decide) dX12_init_24 ?_
  show J X (59, mx 55 [(55, 56, 7), (55, 56, 6)] R, 3, 258) 26 [vA 55, vU] [vA 58, vA 55] V
  refine j_putM (k0 := 55) hX ⟨by decide, by decide⟩ (by decide) rfl fn_X12_16 rfl rfl hI dX12_init_26 ?_
  show J X (59, mx 55 [(55, 56, 8), (55, 56, 7), (55, 56, 6)] R, 3, 258) 29 [vA 55, vU] [] V
  refine j_al0 hX dX12_init_29 rfl ?_
  refine j_bipush hX dX12_init_30 (by decide) ⟨by decide, by decide⟩ ?_
  refine j_newarr (n := 59) (t := 1) (len := 16) (ty := .int) hX (by decide) rfl rfl ac_int (Or.inl ⟨rfl, rfl⟩) rfl (by decide) (fun j => by exact hz 59 (by decide) j) (by rw [hcl9]; decide) (by rw [hsl9]; decide) dX12_init_32 ?_
  show J X (60, mx 55 [(55, 56, 8), (55, 56, 7), (55, 56, 6)] R, 4, 274) 34 [vA 55, vU] [vA 59, vA 55] V
  refine j_putM (k0 := 55) hX ⟨by decide, by decide⟩ (by decide) rfl fn_X12_19 rfl rfl hI dX12_init_34 ?_
  show J X (60, mx 55 [(55, 56, 9), (55, 56, 8), (55, 56, 7), (55, 56, 6)] R, 4, 274) 37 [vA 55, vU] [] V
  refine j_al0 hX dX12_init_37 rfl ?_
  refine j_bipush hX dX12_init_38 (by decide) ⟨by decide, by decide⟩ ?_
  refine j_newarr (n := 60) (t := 1) (len := 36) (ty := .int) hX (by decide) rfl rfl ac_int (Or.inl ⟨rfl, rfl⟩) rfl (by decide) (fun j => by exact hz 60 (by decide) j) (by rw [hcl9]; decide) (by rw [hsl9]; decide) dX12_init_40 ?_
  show J X (61, mx 55 [(55, 56, 9), (55, 56, 8), (55, 56, 7), (55, 56, 6)] R, 5, 310) 42 [vA 55, vU] [vA 60, vA 55] V
  refine j_putM (k0 := 55) hX ⟨by decide, by decide⟩ (by decide) rfl fn_X12_22 rfl rfl hI dX12_init_42 ?_
  show J X (61, mx 55 [(55, 56, 13), (55, 56, 9), (55, 56, 8), (55, 56, 7), (55, 56, 6)] R, 5, 310) 45 [vA 55, vU] [] V
  refine j_al0 hX dX12_init_45 rfl ?_
  refine j_sipush hX dX12_init_46 (by decide) ⟨by decide, by decide⟩ ?_
  refine j_newarr (n := 61) (t := 1) (len := 216) (ty := .int) hX (by decide) rfl rfl ac_int (Or.inl ⟨rfl, rfl⟩) rfl (by decide) (fun j => by exact hz 61 (by decide) j) (by rw [hcl9]; decide) (by rw [hsl9]; decide) dX12_init_49 ?_
  show J X (62, mx 55 [(55, 56, 13), (55, 56, 9), (55, 56, 8), (55, 56, 7), (55, 56, 6)] R, 6, 526) 51 [vA 55, vU] [vA 61, vA 55] V
  refine j_putM (k0 := 55) hX ⟨by decide, by decide⟩ (by decide) rfl fn_X12_25 rfl rfl hI dX12_init_51 ?_
  show J X (62, mx 55 [(55, 56, 14), (55, 56, 13), (55, 56, 9), (55, 56, 8), (55, 56, 7), (55, 56, 6)] R, 6, 526) 54 [vA 55, vU] [] V
  refine j_al0 hX dX12_init_54 rfl ?_
  refine j_bipush hX dX12_init_55 (by decide) ⟨by decide, by decide⟩ ?_
  refine j_newarr (n := 62) (t := 1) (len := 16) (ty := .int) hX (by decide) rfl rfl ac_int (Or.inl ⟨rfl, rfl⟩) rfl (by decide) (fun j => by exact hz 62 (by decide) j) (by rw [hcl9]; decide) (by rw [hsl9]; decide) dX12_init_57 ?_
  show J X (63, mx 55 [(55, 56, 14), (55, 56, 13), (55, 56, 9), (55, 56, 8), (55, 56, 7), (55, 56, 6)] R, 7, 542) 59 [vA 55, vU] [vA 62, vA 55] V
  refine j_putM (k0 := 55) hX ⟨by decide, by decide⟩ (by decide) rfl fn_X12_28 rfl rfl hI dX12_init_59 ?_
  show J X (63, mx 55 [(55, 56, 15), (55, 56, 14), (55, 56, 13), (55, 56, 9), (55, 56, 8), (55, 56, 7), (55, 56, 6)] R, 7, 542) 62 [vA 55, vU] [] V
  refine j_al0 hX dX12_init_62 rfl ?_
  refine j_bipush hX dX12_init_63 (by decide) ⟨by decide, by decide⟩ ?_
  refine j_newarr (n := 63) (t := 1) (len := 8) (ty := .int) hX (by decide) rfl rfl ac_int (Or.inl ⟨rfl, rfl⟩) rfl (by decide) (fun j => by exact hz 63 (by decide) j) (by rw [hcl9]; decide) (by rw [hsl9]; decide) dX12_init_65 ?_
  show J X (64, mx 55 [(55, 56, 15), (55, 56, 14), (55, 56, 13), (55, 56, 9), (55, 56, 8), (55, 56, 7), (55, 56, 6)] R, 8, 550) 67 [vA 55, vU] [vA 63, vA 55] V
  refine j_putM (k0 := 55) hX ⟨by decide, by decide⟩ (by decide) rfl fn_X12_31 rfl rfl hI dX12_init_67 ?_
  show J X (64, mx 55 [(55, 56, 16), (55, 56, 15), (55, 56, 14), (55, 56, 13), (55, 56, 9), (55, 56, 8), (55, 56, 7), (55, 56, 6)] R, 8, 550) 70 [vA 55, vU] [] V
  refine j_al0 hX dX12_init_70 rfl ?_
  refine j_sipush hX dX12_init_71 (by decide) ⟨by decide, by decide⟩ ?_
  refine j_newarr (n := 64) (t := 3) (len := 216) (ty := .boolean) hX (by decide) rfl rfl ac_boolean (Or.inr (Or.inr ⟨rfl, rfl⟩)) rfl (by decide) (fun j => by exact hz 64 (by decide) j) (by rw [hcl9]; decide) (by rw [hsl9]; decide) dX12_init_74 ?_
  show J X (65, mx 55 [(55, 56, 16), (55, 56, 15), (55, 56, 14), (55, 56, 13), (55, 56, 9), (55, 56, 8), (55, 56, 7), (55, 56, 6)] R, 9, 766) 76 [vA 55, vU] [vA 64, vA 55] V
  refine j_putM (k0 := 55) hX ⟨by decide, by decide⟩ (by decide) rfl fn_X12_34 rfl rfl hI dX12_init_76 ?_
  show J X (65, mx 55 [(55, 56, 17), (55, 56, 16), (55, 56, 15), (55, 56, 14), (55, 56, 13), (55, 56, 9), (55, 56, 8), (55, 56, 7), (55, 56, 6)] R, 9, 766) 79 [vA 55, vU] [] V
  refine j_al0 hX dX12_init_79 rfl ?_
  refine j_bipush hX dX12_init_80 (by decide) ⟨by decide, by decide⟩ ?_
  refine j_newarr (n := 65) (t := 1) (len := 32) (ty := .int) hX (by decide) rfl rfl ac_int (Or.inl ⟨rfl, rfl⟩) rfl (by decide) (fun j => by exact hz 65 (by decide) j) (by rw [hcl9]; decide) (by rw [hsl9]; decide) dX12_init_82 ?_
  show J X (66, mx 55 [(55, 56, 17), (55, 56, 16), (55, 56, 15), (55, 56, 14), (55, 56, 13), (55, 56, 9), (55, 56, 8), (55, 56, 7), (55, 56, 6)] R, 10, 798) 84 [vA 55, vU] [vA 65, vA 55] V
  refine j_putM (k0 := 55) hX ⟨by decide, by decide⟩ (by decide) rfl fn_X12_38 rfl rfl hI dX12_init_84 ?_
  show J X (66, mx 55 [(55, 56, 18), (55, 56, 17), (55, 56, 16), (55, 56, 15), (55, 56, 14), (55, 56, 13), (55, 56, 9), (55, 56, 8), (55, 56, 7), (55, 56, 6)] R, 10, 798) 87 [vA 55, vU] [] V
  refine j_al0 hX dX12_init_87 rfl ?_
  refine j_iconst hX dX12_init_88 ⟨by decide, by decide⟩ ?_
  refine j_newarr (n := 66) (t := 1) (len := 2) (ty := .int) hX (by decide) rfl rfl ac_int (Or.inl ⟨rfl, rfl⟩) rfl (by decide) (fun j => by exact hz 66 (by decide) j) (by rw [hcl9]; decide) (by rw [hsl9]; decide) dX12_init_89 ?_
  show J X (67, mx 55 [(55, 56, 18), (55, 56, 17), (55, 56, 16), (55, 56, 15), (55, 56, 14), (55, 56, 13), (55, 56, 9), (55, 56, 8), (55, 56, 7), (55, 56, 6)] R, 11, 800) 91 [vA 55, vU] [vA 66, vA 55] V
  refine j_putM (k0 := 55) hX ⟨by decide, by decide⟩ (by decide) rfl fn_X12_41 rfl rfl hI dX12_init_91 ?_
  show J X (67, mx 55 [(55, 56, 19), (55, 56, 18), (55, 56, 17), (55, 56, 16), (55, 56, 15), (55, 56, 14), (55, 56, 13), (55, 56, 9), (55, 56, 8), (55, 56, 7), (55, 56, 6)] R, 11, 800) 94 [vA 55, vU] [] V
  refine j_al0 hX dX12_init_94 rfl ?_
  refine j_sipush hX dX12_init_95 (by decide) ⟨by decide, by decide⟩ ?_
  refine j_newarr (n := 67) (t := 1) (len := 2340) (ty := .int) hX (by decide) rfl rfl ac_int (Or.inl ⟨rfl, rfl⟩) rfl (by decide) (fun j => by exact hz 67 (by decide) j) (by rw [hcl9]; decide) (by rw [hsl9]; decide) dX12_init_98 ?_
  show J X (68, mx 55 [(55, 56, 19), (55, 56, 18), (55, 56, 17), (55, 56, 16), (55, 56, 15), (55, 56, 14), (55, 56, 13), (55, 56, 9), (55, 56, 8), (55, 56, 7), (55, 56, 6)] R, 12, 3140) 100 [vA 55, vU] [vA 67, vA 55] V
  refine j_putM (k0 := 55) hX ⟨by decide, by decide⟩ (by decide) rfl fn_X12_44 rfl rfl hI dX12_init_100 ?_
  show J X (68, mx 55 [(55, 56, 20), (55, 56, 19), (55, 56, 18), (55, 56, 17), (55, 56, 16), (55, 56, 15), (55, 56, 14), (55, 56, 13), (55, 56, 9), (55, 56, 8), (55, 56, 7), (55, 56, 6)] R, 12, 3140) 103 [vA 55, vU] [] V
  refine j_al0 hX dX12_init_103 rfl ?_
  refine j_sipush hX dX12_init_104 (by decide) ⟨by decide, by decide⟩ ?_
  refine j_newarr (n := 68) (t := 1) (len := 500) (ty := .int) hX (by decide) rfl rfl ac_int (Or.inl ⟨rfl, rfl⟩) rfl (by decide) (fun j => by exact hz 68 (by decide) j) (by rw [hcl9]; decide) (by rw [hsl9]; decide) dX12_init_107 ?_
  show J X (69, mx 55 [(55, 56, 20), (55, 56, 19), (55, 56, 18), (55, 56, 17), (55, 56, 16), (55, 56, 15), (55, 56, 14), (55, 56, 13), (55, 56, 9), (55, 56, 8), (55, 56, 7), (55, 56, 6)] R, 13, 3640) 109 [vA 55, vU] [vA 68, vA 55] V
  refine j_putM (k0 := 55) hX ⟨by decide, by decide⟩ (by decide) rfl fn_X12_47 rfl rfl hI dX12_init_109 ?_
  show J X (69, mx 55 [(55, 56, 22), (55, 56, 20), (55, 56, 19), (55, 56, 18), (55, 56, 17), (55, 56, 16), (55, 56, 15), (55, 56, 14), (55, 56, 13), (55, 56, 9), (55, 56, 8), (55, 56, 7), (55, 56, 6)] R, 13, 3640) 112 [vA 55, vU] [] V
  refine j_al0 hX dX12_init_112 rfl ?_
  refine j_iconst hX dX12_init_113 ⟨by decide, by decide⟩ ?_
  refine j_putN hX fp_X12_50 rfl ⟨by decide, by decide⟩ rfl dX12_init_114 ?_
  show J X (69, mx 55 [(55, 56, 22), (55, 56, 20), (55, 56, 19), (55, 56, 18), (55, 56, 17), (55, 56, 16), (55, 56, 15), (55, 56, 14), (55, 56, 13), (55, 56, 9), (55, 56, 8), (55, 56, 7), (55, 56, 6)] R, 13, 3640) 117 [vA 55, vU] [] (up V 55 30 (-1))
  refine j_al0 hX dX12_init_117 rfl ?_
  refine j_sipush hX dX12_init_118 (by decide) ⟨by decide, by decide⟩ ?_
  refine j_newarr (n := 69) (t := 1) (len := 1296) (ty := .int) hX (by decide) rfl rfl ac_int (Or.inl ⟨rfl, rfl⟩) rfl (by decide) (fun j => by rw [up_n _ (by omega)]; exact hz 69 (by decide) j) (by rw [hcl9]; decide) (by rw [hsl9]; decide) dX12_init_121 ?_
  show J X (70, mx 55 [(55, 56, 22), (55, 56, 20), (55, 56, 19), (55, 56, 18), (55, 56, 17), (55, 56, 16), (55, 56, 15), (55, 56, 14), (55, 56, 13), (55, 56, 9), (55, 56, 8), (55, 56, 7), (55, 56, 6)] R, 14, 4936) 123 [vA 55, vU] [vA 69, vA 55] (up V 55 30 (-1))
  refine j_putM (k0 := 55) hX ⟨by decide, by decide⟩ (by decide) rfl fn_X12_54 rfl rfl hI dX12_init_123 ?_
  show J X (70, mx 55 [(55, 56, 32), (55, 56, 22), (55, 56, 20), (55, 56, 19), (55, 56, 18), (55, 56, 17), (55, 56, 16), (55, 56, 15), (55, 56, 14), (55, 56, 13), (55, 56, 9), (55, 56, 8), (55, 56, 7), (55, 56, 6)] R, 14, 4936) 126 [vA 55, vU] [] (up V 55 30 (-1))
  refine j_al0 hX dX12_init_126 rfl ?_
  refine j_sipush hX dX12_init_127 (by decide) ⟨by decide, by decide⟩ ?_
  refine j_newarr (n := 70) (t := 1) (len := 1296) (ty := .int) hX (by decide) rfl rfl ac_int (Or.inl ⟨rfl, rfl⟩) rfl (by decide) (fun j => by rw [up_n _ (by omega)]; exact hz 70 (by decide) j) (by rw [hcl9]; decide) (by rw [hsl9]; decide) dX12_init_130 ?_
  show J X (71, mx 55 [(55, 56, 32), (55, 56, 22), (55, 56, 20), (55, 56, 19), (55, 56, 18), (55, 56, 17), (55, 56, 16), (55, 56, 15), (55, 56, 14), (55, 56, 13), (55, 56, 9), (55, 56, 8), (55, 56, 7), (55, 56, 6)] R, 15, 6232) 132 [vA 55, vU] [vA 70, vA 55] (up V 55 30 (-1))
  refine j_putM (k0 := 55) hX ⟨by decide, by decide⟩ (by decide) rfl fn_X12_57 rfl rfl hI dX12_init_132 ?_
  show J X (71, mx 55 [(55, 56, 33), (55, 56, 32), (55, 56, 22), (55, 56, 20), (55, 56, 19), (55, 56, 18), (55, 56, 17), (55, 56, 16), (55, 56, 15), (55, 56, 14), (55, 56, 13), (55, 56, 9), (55, 56, 8), (55, 56, 7), (55, 56, 6)] R, 15, 6232) 135 [vA 55, vU] [] (up V 55 30 (-1))
  refine j_al0 hX dX12_init_135 rfl ?_
  refine j_sipush hX dX12_init_136 (by decide) ⟨by decide, by decide⟩ ?_
  refine j_newarr (n := 71) (t := 3) (len := 1296) (ty := .boolean) hX (by decide) rfl rfl ac_boolean (Or.inr (Or.inr ⟨rfl, rfl⟩)) rfl (by decide) (fun j => by rw [up_n _ (by omega)]; exact hz 71 (by decide) j) (by rw [hcl9]; decide) (by rw [hsl9]; decide) dX12_init_139 ?_
  show J X (72, mx 55 [(55, 56, 33), (55, 56, 32), (55, 56, 22), (55, 56, 20), (55, 56, 19), (55, 56, 18), (55, 56, 17), (55, 56, 16), (55, 56, 15), (55, 56, 14), (55, 56, 13), (55, 56, 9), (55, 56, 8), (55, 56, 7), (55, 56, 6)] R, 16, 7528) 141 [vA 55, vU] [vA 71, vA 55] (up V 55 30 (-1))
  refine j_putM (k0 := 55) hX ⟨by decide, by decide⟩ (by decide) rfl fn_X12_60 rfl rfl hI dX12_init_141 ?_
  show J X (72, mx 55 [(55, 56, 34), (55, 56, 33), (55, 56, 32), (55, 56, 22), (55, 56, 20), (55, 56, 19), (55, 56, 18), (55, 56, 17), (55, 56, 16), (55, 56, 15), (55, 56, 14), (55, 56, 13), (55, 56, 9), (55, 56, 8), (55, 56, 7), (55, 56, 6)] R, 16, 7528) 144 [vA 55, vU] [] (up V 55 30 (-1))
  refine j_al0 hX dX12_init_144 rfl ?_
  refine j_sipush hX dX12_init_145 (by decide) ⟨by decide, by decide⟩ ?_
  refine j_newarr (n := 72) (t := 3) (len := 1296) (ty := .boolean) hX (by decide) rfl rfl ac_boolean (Or.inr (Or.inr ⟨rfl, rfl⟩)) rfl (by decide) (fun j => by rw [up_n _ (by omega)]; exact hz 72 (by decide) j) (by rw [hcl9]; decide) (by rw [hsl9]; decide) dX12_init_148 ?_
  show J X (73, mx 55 [(55, 56, 34), (55, 56, 33), (55, 56, 32), (55, 56, 22), (55, 56, 20), (55, 56, 19), (55, 56, 18), (55, 56, 17), (55, 56, 16), (55, 56, 15), (55, 56, 14), (55, 56, 13), (55, 56, 9), (55, 56, 8), (55, 56, 7), (55, 56, 6)] R, 17, 8824) 150 [vA 55, vU] [vA 72, vA 55] (up V 55 30 (-1))
  refine j_putM (k0 := 55) hX ⟨by decide, by decide⟩ (by decide) rfl fn_X12_63 rfl rfl hI dX12_init_150 ?_
  show J X (73, mx 55 [(55, 56, 35), (55, 56, 34), (55, 56, 33), (55, 56, 32), (55, 56, 22), (55, 56, 20), (55, 56, 19), (55, 56, 18), (55, 56, 17), (55, 56, 16), (55, 56, 15), (55, 56, 14), (55, 56, 13), (55, 56, 9), (55, 56, 8), (55, 56, 7), (55, 56, 6)] R, 17, 8824) 153 [vA 55, vU] [] (up V 55 30 (-1))
  refine j_al0 hX dX12_init_153 rfl ?_
  refine j_ldc (x := 50000) hX dX12_init_154 lc_X12_66 ⟨by decide, by decide⟩ ?_
  refine j_newarr (n := 73) (t := 1) (len := 50000) (ty := .int) hX (by decide) rfl rfl ac_int (Or.inl ⟨rfl, rfl⟩) rfl (by decide) (fun j => by rw [up_n _ (by omega)]; exact hz 73 (by decide) j) (by rw [hcl9]; decide) (by rw [hsl9]; decide) dX12_init_156 ?_
  show J X (74, mx 55 [(55, 56, 35), (55, 56, 34), (55, 56, 33), (55, 56, 32), (55, 56, 22), (55, 56, 20), (55, 56, 19), (55, 56, 18), (55, 56, 17), (55, 56, 16), (55, 56, 15), (55, 56, 14), (55, 56, 13), (55, 56, 9), (55, 56, 8), (55, 56, 7), (55, 56, 6)] R, 18, 58824) 158 [vA 55, vU] [vA 73, vA 55] (up V 55 30 (-1))
  refine j_putM (k0 := 55) hX ⟨by decide, by decide⟩ (by decide) rfl fn_X12_67 rfl rfl hI dX12_init_158 ?_
  show J X (74, mx 55 [(55, 56, 36), (55, 56, 35), (55, 56, 34), (55, 56, 33), (55, 56, 32), (55, 56, 22), (55, 56, 20), (55, 56, 19), (55, 56, 18), (55, 56, 17), (55, 56, 16), (55, 56, 15), (55, 56, 14), (55, 56, 13), (55, 56, 9), (55, 56, 8), (55, 56, 7), (55, 56, 6)] R, 18, 58824) 161 [vA 55, vU] [] (up V 55 30 (-1))
  refine j_al0 hX dX12_init_161 rfl ?_
  refine j_sipush hX dX12_init_162 (by decide) ⟨by decide, by decide⟩ ?_
  refine j_newarr (n := 74) (t := 1) (len := 7776) (ty := .int) hX (by decide) rfl rfl ac_int (Or.inl ⟨rfl, rfl⟩) rfl (by decide) (fun j => by rw [up_n _ (by omega)]; exact hz 74 (by decide) j) (by rw [hcl9]; decide) (by rw [hsl9]; decide) dX12_init_165 ?_
  show J X (75, mx 55 [(55, 56, 36), (55, 56, 35), (55, 56, 34), (55, 56, 33), (55, 56, 32), (55, 56, 22), (55, 56, 20), (55, 56, 19), (55, 56, 18), (55, 56, 17), (55, 56, 16), (55, 56, 15), (55, 56, 14), (55, 56, 13), (55, 56, 9), (55, 56, 8), (55, 56, 7), (55, 56, 6)] R, 19, 66600) 167 [vA 55, vU] [vA 74, vA 55] (up V 55 30 (-1))
  refine j_putM (k0 := 55) hX ⟨by decide, by decide⟩ (by decide) rfl fn_X12_70 rfl rfl hI dX12_init_167 ?_
  show J X (75, mx 55 [(55, 56, 37), (55, 56, 36), (55, 56, 35), (55, 56, 34), (55, 56, 33), (55, 56, 32), (55, 56, 22), (55, 56, 20), (55, 56, 19), (55, 56, 18), (55, 56, 17), (55, 56, 16), (55, 56, 15), (55, 56, 14), (55, 56, 13), (55, 56, 9), (55, 56, 8), (55, 56, 7), (55, 56, 6)] R, 19, 66600) 170 [vA 55, vU] [] (up V 55 30 (-1))
  refine j_al0 hX dX12_init_170 rfl ?_
  refine j_bipush hX dX12_init_171 (by decide) ⟨by decide, by decide⟩ ?_
  refine j_newarr (n := 75) (t := 2) (len := 6) (ty := .long) hX (by decide) rfl rfl ac_long (Or.inr (Or.inl ⟨rfl, rfl⟩)) rfl (by decide) (fun j => by rw [up_n _ (by omega)]; exact hz 75 (by decide) j) (by rw [hcl9]; decide) (by rw [hsl9]; decide) dX12_init_173 ?_
  show J X (76, mx 55 [(55, 56, 37), (55, 56, 36), (55, 56, 35), (55, 56, 34), (55, 56, 33), (55, 56, 32), (55, 56, 22), (55, 56, 20), (55, 56, 19), (55, 56, 18), (55, 56, 17), (55, 56, 16), (55, 56, 15), (55, 56, 14), (55, 56, 13), (55, 56, 9), (55, 56, 8), (55, 56, 7), (55, 56, 6)] R, 20, 66606) 175 [vA 55, vU] [vA 75, vA 55] (up V 55 30 (-1))
  refine j_putM (k0 := 55) hX ⟨by decide, by decide⟩ (by decide) rfl fn_X12_73 rfl rfl hI dX12_init_175 ?_
  show J X (76, mx 55 [(55, 56, 41), (55, 56, 37), (55, 56, 36), (55, 56, 35), (55, 56, 34), (55, 56, 33), (55, 56, 32), (55, 56, 22), (55, 56, 20), (55, 56, 19), (55, 56, 18), (55, 56, 17), (55, 56, 16), (55, 56, 15), (55, 56, 14), (55, 56, 13), (55, 56, 9), (55, 56, 8), (55, 56, 7), (55, 56, 6)] R, 20, 66606) 178 [vA 55, vU] [] (up V 55 30 (-1))
  refine j_al0 hX dX12_init_178 rfl ?_
  refine j_bipush hX dX12_init_179 (by decide) ⟨by decide, by decide⟩ ?_
  refine j_newarr (n := 76) (t := 2) (len := 36) (ty := .long) hX (by decide) rfl rfl ac_long (Or.inr (Or.inl ⟨rfl, rfl⟩)) rfl (by decide) (fun j => by rw [up_n _ (by omega)]; exact hz 76 (by decide) j) (by rw [hcl9]; decide) (by rw [hsl9]; decide) dX12_init_181 ?_
  show J X (77, mx 55 [(55, 56, 41), (55, 56, 37), (55, 56, 36), (55, 56, 35), (55, 56, 34), (55, 56, 33), (55, 56, 32), (55, 56, 22), (55, 56, 20), (55, 56, 19), (55, 56, 18), (55, 56, 17), (55, 56, 16), (55, 56, 15), (55, 56, 14), (55, 56, 13), (55, 56, 9), (55, 56, 8), (55, 56, 7), (55, 56, 6)] R, 21, 66642) 183 [vA 55, vU] [vA 76, vA 55] (up V 55 30 (-1))
  refine j_putM (k0 := 55) hX ⟨by decide, by decide⟩ (by decide) rfl fn_X12_77 rfl rfl hI dX12_init_183 ?_
  show J X (77, mx 55 [(55, 56, 42), (55, 56, 41), (55, 56, 37), (55, 56, 36), (55, 56, 35), (55, 56, 34), (55, 56, 33), (55, 56, 32), (55, 56, 22), (55, 56, 20), (55, 56, 19), (55, 56, 18), (55, 56, 17), (55, 56, 16), (55, 56, 15), (55, 56, 14), (55, 56, 13), (55, 56, 9), (55, 56, 8), (55, 56, 7), (55, 56, 6)] R, 21, 66642) 186 [vA 55, vU] [] (up V 55 30 (-1))
  refine j_al0 hX dX12_init_186 rfl ?_
  refine j_bipush hX dX12_init_187 (by decide) ⟨by decide, by decide⟩ ?_
  refine j_newarr (n := 77) (t := 2) (len := 72) (ty := .long) hX (by decide) rfl rfl ac_long (Or.inr (Or.inl ⟨rfl, rfl⟩)) rfl (by decide) (fun j => by rw [up_n _ (by omega)]; exact hz 77 (by decide) j) (by rw [hcl9]; decide) (by rw [hsl9]; decide) dX12_init_189 ?_
  show J X (78, mx 55 [(55, 56, 42), (55, 56, 41), (55, 56, 37), (55, 56, 36), (55, 56, 35), (55, 56, 34), (55, 56, 33), (55, 56, 32), (55, 56, 22), (55, 56, 20), (55, 56, 19), (55, 56, 18), (55, 56, 17), (55, 56, 16), (55, 56, 15), (55, 56, 14), (55, 56, 13), (55, 56, 9), (55, 56, 8), (55, 56, 7), (55, 56, 6)] R, 22, 66714) 191 [vA 55, vU] [vA 77, vA 55] (up V 55 30 (-1))
  refine j_putM (k0 := 55) hX ⟨by decide, by decide⟩ (by decide) rfl fn_X12_80 rfl rfl hI dX12_init_191 ?_
  show J X (78, mx 55 [(55, 56, 43), (55, 56, 42), (55, 56, 41), (55, 56, 37), (55, 56, 36), (55, 56, 35), (55, 56, 34), (55, 56, 33), (55, 56, 32), (55, 56, 22), (55, 56, 20), (55, 56, 19), (55, 56, 18), (55, 56, 17), (55, 56, 16), (55, 56, 15), (55, 56, 14), (55, 56, 13), (55, 56, 9), (55, 56, 8), (55, 56, 7), (55, 56, 6)] R, 22, 66714) 194 [vA 55, vU] [] (up V 55 30 (-1))
  refine j_al0 hX dX12_init_194 rfl ?_
  refine j_bipush hX dX12_init_195 (by decide) ⟨by decide, by decide⟩ ?_
  refine j_newarr (n := 78) (t := 3) (len := 6) (ty := .boolean) hX (by decide) rfl rfl ac_boolean (Or.inr (Or.inr ⟨rfl, rfl⟩)) rfl (by decide) (fun j => by rw [up_n _ (by omega)]; exact hz 78 (by decide) j) (by rw [hcl9]; decide) (by rw [hsl9]; decide) dX12_init_197 ?_
  show J X (79, mx 55 [(55, 56, 43), (55, 56, 42), (55, 56, 41), (55, 56, 37), (55, 56, 36), (55, 56, 35), (55, 56, 34), (55, 56, 33), (55, 56, 32), (55, 56, 22), (55, 56, 20), (55, 56, 19), (55, 56, 18), (55, 56, 17), (55, 56, 16), (55, 56, 15), (55, 56, 14), (55, 56, 13), (55, 56, 9), (55, 56, 8), (55, 56, 7), (55, 56, 6)] R, 23, 66720) 199 [vA 55, vU] [vA 78, vA 55] (up V 55 30 (-1))
  refine j_putM (k0 := 55) hX ⟨by decide, by decide⟩ (by decide) rfl fn_X12_83 rfl rfl hI dX12_init_199 ?_
  show J X (79, mx 55 [(55, 56, 44), (55, 56, 43), (55, 56, 42), (55, 56, 41), (55, 56, 37), (55, 56, 36), (55, 56, 35), (55, 56, 34), (55, 56, 33), (55, 56, 32), (55, 56, 22), (55, 56, 20), (55, 56, 19), (55, 56, 18), (55, 56, 17), (55, 56, 16), (55, 56, 15), (55, 56, 14), (55, 56, 13), (55, 56, 9), (55, 56, 8), (55, 56, 7), (55, 56, 6)] R, 23, 66720) 202 [vA 55, vU] [] (up V 55 30 (-1))
  refine j_al0 hX dX12_init_202 rfl ?_
  refine j_bipush hX dX12_init_203 (by decide) ⟨by decide, by decide⟩ ?_
  refine j_newarr (n := 79) (t := 2) (len := 36) (ty := .long) hX (by decide) rfl rfl ac_long (Or.inr (Or.inl ⟨rfl, rfl⟩)) rfl (by decide) (fun j => by rw [up_n _ (by omega)]; exact hz 79 (by decide) j) (by rw [hcl9]; decide) (by rw [hsl9]; decide) dX12_init_205 ?_
  show J X (80, mx 55 [(55, 56, 44), (55, 56, 43), (55, 56, 42), (55, 56, 41), (55, 56, 37), (55, 56, 36), (55, 56, 35), (55, 56, 34), (55, 56, 33), (55, 56, 32), (55, 56, 22), (55, 56, 20), (55, 56, 19), (55, 56, 18), (55, 56, 17), (55, 56, 16), (55, 56, 15), (55, 56, 14), (55, 56, 13), (55, 56, 9), (55, 56, 8), (55, 56, 7), (55, 56, 6)] R, 24, 66756) 207 [vA 55, vU] [vA 79, vA 55] (up V 55 30 (-1))
  refine j_putM (k0 := 55) hX ⟨by decide, by decide⟩ (by decide) rfl fn_X12_86 rfl rfl hI dX12_init_207 ?_
  show J X (80, mx 55 [(55, 56, 47), (55, 56, 44), (55, 56, 43), (55, 56, 42), (55, 56, 41), (55, 56, 37), (55, 56, 36), (55, 56, 35), (55, 56, 34), (55, 56, 33), (55, 56, 32), (55, 56, 22), (55, 56, 20), (55, 56, 19), (55, 56, 18), (55, 56, 17), (55, 56, 16), (55, 56, 15), (55, 56, 14), (55, 56, 13), (55, 56, 9), (55, 56, 8), (55, 56, 7), (55, 56, 6)] R, 24, 66756) 210 [vA 55, vU] [] (up V 55 30 (-1))
  refine j_al0 hX dX12_init_210 rfl ?_
  refine j_bipush hX dX12_init_211 (by decide) ⟨by decide, by decide⟩ ?_
  refine j_newarr (n := 80) (t := 2) (len := 36) (ty := .long) hX (by decide) rfl rfl ac_long (Or.inr (Or.inl ⟨rfl, rfl⟩)) rfl (by decide) (fun j => by rw [up_n _ (by omega)]; exact hz 80 (by decide) j) (by rw [hcl9]; decide) (by rw [hsl9]; decide) dX12_init_213 ?_
  show J X (81, mx 55 [(55, 56, 47), (55, 56, 44), (55, 56, 43), (55, 56, 42), (55, 56, 41), (55, 56, 37), (55, 56, 36), (55, 56, 35), (55, 56, 34), (55, 56, 33), (55, 56, 32), (55, 56, 22), (55, 56, 20), (55, 56, 19), (55, 56, 18), (55, 56, 17), (55, 56, 16), (55, 56, 15), (55, 56, 14), (55, 56, 13), (55, 56, 9), (55, 56, 8), (55, 56, 7), (55, 56, 6)] R, 25, 66792) 215 [vA 55, vU] [vA 80, vA 55] (up V 55 30 (-1))
  refine j_putM (k0 := 55) hX ⟨by decide, by decide⟩ (by decide) rfl fn_X12_89 rfl rfl hI dX12_init_215 ?_
  show J X (81, mx 55 [(55, 56, 48), (55, 56, 47), (55, 56, 44), (55, 56, 43), (55, 56, 42), (55, 56, 41), (55, 56, 37), (55, 56, 36), (55, 56, 35), (55, 56, 34), (55, 56, 33), (55, 56, 32), (55, 56, 22), (55, 56, 20), (55, 56, 19), (55, 56, 18), (55, 56, 17), (55, 56, 16), (55, 56, 15), (55, 56, 14), (55, 56, 13), (55, 56, 9), (55, 56, 8), (55, 56, 7), (55, 56, 6)] R, 25, 66792) 218 [vA 55, vU] [] (up V 55 30 (-1))
  refine j_al0 hX dX12_init_218 rfl ?_
  refine j_bipush hX dX12_init_219 (by decide) ⟨by decide, by decide⟩ ?_
  refine j_newarr (n := 81) (t := 1) (len := 16) (ty := .int) hX (by decide) rfl rfl ac_int (Or.inl ⟨rfl, rfl⟩) rfl (by decide) (fun j => by rw [up_n _ (by omega)]; exact hz 81 (by decide) j) (by rw [hcl9]; decide) (by rw [hsl9]; decide) dX12_init_221 ?_
  show J X (82, mx 55 [(55, 56, 48), (55, 56, 47), (55, 56, 44), (55, 56, 43), (55, 56, 42), (55, 56, 41), (55, 56, 37), (55, 56, 36), (55, 56, 35), (55, 56, 34), (55, 56, 33), (55, 56, 32), (55, 56, 22), (55, 56, 20), (55, 56, 19), (55, 56, 18), (55, 56, 17), (55, 56, 16), (55, 56, 15), (55, 56, 14), (55, 56, 13), (55, 56, 9), (55, 56, 8), (55, 56, 7), (55, 56, 6)] R, 26, 66808) 223 [vA 55, vU] [vA 81, vA 55] (up V 55 30 (-1))
  refine j_putM (k0 := 55) hX ⟨by decide, by decide⟩ (by decide) rfl fn_X12_92 rfl rfl hI dX12_init_223 ?_
  show J X (82, mx 55 [(55, 56, 49), (55, 56, 48), (55, 56, 47), (55, 56, 44), (55, 56, 43), (55, 56, 42), (55, 56, 41), (55, 56, 37), (55, 56, 36), (55, 56, 35), (55, 56, 34), (55, 56, 33), (55, 56, 32), (55, 56, 22), (55, 56, 20), (55, 56, 19), (55, 56, 18), (55, 56, 17), (55, 56, 16), (55, 56, 15), (55, 56, 14), (55, 56, 13), (55, 56, 9), (55, 56, 8), (55, 56, 7), (55, 56, 6)] R, 26, 66808) 226 [vA 55, vU] [] (up V 55 30 (-1))
  refine j_al0 hX dX12_init_226 rfl ?_
  refine j_bipush hX dX12_init_227 (by decide) ⟨by decide, by decide⟩ ?_
  refine j_newarr (n := 82) (t := 3) (len := 36) (ty := .boolean) hX (by decide) rfl rfl ac_boolean (Or.inr (Or.inr ⟨rfl, rfl⟩)) rfl (by decide) (fun j => by rw [up_n _ (by omega)]; exact hz 82 (by decide) j) (by rw [hcl9]; decide) (by rw [hsl9]; decide) dX12_init_229 ?_
  show J X (83, mx 55 [(55, 56, 49), (55, 56, 48), (55, 56, 47), (55, 56, 44), (55, 56, 43), (55, 56, 42), (55, 56, 41), (55, 56, 37), (55, 56, 36), (55, 56, 35), (55, 56, 34), (55, 56, 33), (55, 56, 32), (55, 56, 22), (55, 56, 20), (55, 56, 19), (55, 56, 18), (55, 56, 17), (55, 56, 16), (55, 56, 15), (55, 56, 14), (55, 56, 13), (55, 56, 9), (55, 56, 8), (55, 56, 7), (55, 56, 6)] R, 27, 66844) 231 [vA 55, vU] [vA 82, vA 55] (up V 55 30 (-1))
  refine j_putM (k0 := 55) hX ⟨by decide, by decide⟩ (by decide) rfl fn_X12_95 rfl rfl hI dX12_init_231 ?_
  show J X (83, mx 55 [(55, 56, 50), (55, 56, 49), (55, 56, 48), (55, 56, 47), (55, 56, 44), (55, 56, 43), (55, 56, 42), (55, 56, 41), (55, 56, 37), (55, 56, 36), (55, 56, 35), (55, 56, 34), (55, 56, 33), (55, 56, 32), (55, 56, 22), (55, 56, 20), (55, 56, 19), (55, 56, 18), (55, 56, 17), (55, 56, 16), (55, 56, 15), (55, 56, 14), (55, 56, 13), (55, 56, 9), (55, 56, 8), (55, 56, 7), (55, 56, 6)] R, 27, 66844) 234 [vA 55, vU] [] (up V 55 30 (-1))
  refine j_al0 hX dX12_init_234 rfl ?_
  refine j_bipush hX dX12_init_235 (by decide) ⟨by decide, by decide⟩ ?_
  refine j_newarr (n := 83) (t := 3) (len := 36) (ty := .boolean) hX (by decide) rfl rfl ac_boolean (Or.inr (Or.inr ⟨rfl, rfl⟩)) rfl (by decide) (fun j => by rw [up_n _ (by omega)]; exact hz 83 (by decide) j) (by rw [hcl9]; decide) (by rw [hsl9]; decide) dX12_init_237 ?_
  show J X (84, mx 55 [(55, 56, 50), (55, 56, 49), (55, 56, 48), (55, 56, 47), (55, 56, 44), (55, 56, 43), (55, 56, 42), (55, 56, 41), (55, 56, 37), (55, 56, 36), (55, 56, 35), (55, 56, 34), (55, 56, 33), (55, 56, 32), (55, 56, 22), (55, 56, 20), (55, 56, 19), (55, 56, 18), (55, 56, 17), (55, 56, 16), (55, 56, 15), (55, 56, 14), (55, 56, 13), (55, 56, 9), (55, 56, 8), (55, 56, 7), (55, 56, 6)] R, 28, 66880) 239 [vA 55, vU] [vA 83, vA 55] (up V 55 30 (-1))
  refine j_putM (k0 := 55) hX ⟨by decide, by decide⟩ (by decide) rfl fn_X12_98 rfl rfl hI dX12_init_239 ?_
  show J X (84, mx 55 [(55, 56, 51), (55, 56, 50), (55, 56, 49), (55, 56, 48), (55, 56, 47), (55, 56, 44), (55, 56, 43), (55, 56, 42), (55, 56, 41), (55, 56, 37), (55, 56, 36), (55, 56, 35), (55, 56, 34), (55, 56, 33), (55, 56, 32), (55, 56, 22), (55, 56, 20), (55, 56, 19), (55, 56, 18), (55, 56, 17), (55, 56, 16), (55, 56, 15), (55, 56, 14), (55, 56, 13), (55, 56, 9), (55, 56, 8), (55, 56, 7), (55, 56, 6)] R, 28, 66880) 242 [vA 55, vU] [] (up V 55 30 (-1))
  refine j_al0 hX dX12_init_242 rfl ?_
  refine j_bipush hX dX12_init_243 (by decide) ⟨by decide, by decide⟩ ?_
  refine j_newarr (n := 84) (t := 1) (len := 16) (ty := .int) hX (by decide) rfl rfl ac_int (Or.inl ⟨rfl, rfl⟩) rfl (by decide) (fun j => by rw [up_n _ (by omega)]; exact hz 84 (by decide) j) (by rw [hcl9]; decide) (by rw [hsl9]; decide) dX12_init_245 ?_
  show J X (85, mx 55 [(55, 56, 51), (55, 56, 50), (55, 56, 49), (55, 56, 48), (55, 56, 47), (55, 56, 44), (55, 56, 43), (55, 56, 42), (55, 56, 41), (55, 56, 37), (55, 56, 36), (55, 56, 35), (55, 56, 34), (55, 56, 33), (55, 56, 32), (55, 56, 22), (55, 56, 20), (55, 56, 19), (55, 56, 18), (55, 56, 17), (55, 56, 16), (55, 56, 15), (55, 56, 14), (55, 56, 13), (55, 56, 9), (55, 56, 8), (55, 56, 7), (55, 56, 6)] R, 29, 66896) 247 [vA 55, vU] [vA 84, vA 55] (up V 55 30 (-1))
  refine j_putM (k0 := 55) hX ⟨by decide, by decide⟩ (by decide) rfl fn_X12_101 rfl rfl hI dX12_init_247 ?_
  show J X (85, mx 55 [(55, 56, 52), (55, 56, 51), (55, 56, 50), (55, 56, 49), (55, 56, 48), (55, 56, 47), (55, 56, 44), (55, 56, 43), (55, 56, 42), (55, 56, 41), (55, 56, 37), (55, 56, 36), (55, 56, 35), (55, 56, 34), (55, 56, 33), (55, 56, 32), (55, 56, 22), (55, 56, 20), (55, 56, 19), (55, 56, 18), (55, 56, 17), (55, 56, 16), (55, 56, 15), (55, 56, 14), (55, 56, 13), (55, 56, 9), (55, 56, 8), (55, 56, 7), (55, 56, 6)] R, 29, 66896) 250 [vA 55, vU] [] (up V 55 30 (-1))
  refine j_al0 hX dX12_init_250 rfl ?_
  refine j_sipush hX dX12_init_251 (by decide) ⟨by decide, by decide⟩ ?_
  refine j_newarr (n := 85) (t := 2) (len := 1001) (ty := .long) hX (by decide) rfl rfl ac_long (Or.inr (Or.inl ⟨rfl, rfl⟩)) rfl (by decide) (fun j => by rw [up_n _ (by omega)]; exact hz 85 (by decide) j) (by rw [hcl9]; decide) (by rw [hsl9]; decide) dX12_init_254 ?_
  show J X (86, mx 55 [(55, 56, 52), (55, 56, 51), (55, 56, 50), (55, 56, 49), (55, 56, 48), (55, 56, 47), (55, 56, 44), (55, 56, 43), (55, 56, 42), (55, 56, 41), (55, 56, 37), (55, 56, 36), (55, 56, 35), (55, 56, 34), (55, 56, 33), (55, 56, 32), (55, 56, 22), (55, 56, 20), (55, 56, 19), (55, 56, 18), (55, 56, 17), (55, 56, 16), (55, 56, 15), (55, 56, 14), (55, 56, 13), (55, 56, 9), (55, 56, 8), (55, 56, 7), (55, 56, 6)] R, 30, 67897) 256 [vA 55, vU] [vA 85, vA 55] (up V 55 30 (-1))
  refine j_putM (k0 := 55) hX ⟨by decide, by decide⟩ (by decide) rfl fn_X12_104 rfl rfl hI dX12_init_256 ?_
  show J X (86, mx 55 [(55, 56, 53), (55, 56, 52), (55, 56, 51), (55, 56, 50), (55, 56, 49), (55, 56, 48), (55, 56, 47), (55, 56, 44), (55, 56, 43), (55, 56, 42), (55, 56, 41), (55, 56, 37), (55, 56, 36), (55, 56, 35), (55, 56, 34), (55, 56, 33), (55, 56, 32), (55, 56, 22), (55, 56, 20), (55, 56, 19), (55, 56, 18), (55, 56, 17), (55, 56, 16), (55, 56, 15), (55, 56, 14), (55, 56, 13), (55, 56, 9), (55, 56, 8), (55, 56, 7), (55, 56, 6)] R, 30, 67897) 259 [vA 55, vU] [] (up V 55 30 (-1))
  refine j_al0 hX dX12_init_259 rfl ?_
  refine j_bipush hX dX12_init_260 (by decide) ⟨by decide, by decide⟩ ?_
  refine j_newarr (n := 86) (t := 1) (len := 16) (ty := .int) hX (by decide) rfl rfl ac_int (Or.inl ⟨rfl, rfl⟩) rfl (by decide) (fun j => by rw [up_n _ (by omega)]; exact hz 86 (by decide) j) (by rw [hcl9]; decide) (by rw [hsl9]; decide) dX12_init_262 ?_
  show J X (87, mx 55 [(55, 56, 53), (55, 56, 52), (55, 56, 51), (55, 56, 50), (55, 56, 49), (55, 56, 48), (55, 56, 47), (55, 56, 44), (55, 56, 43), (55, 56, 42), (55, 56, 41), (55, 56, 37), (55, 56, 36), (55, 56, 35), (55, 56, 34), (55, 56, 33), (55, 56, 32), (55, 56, 22), (55, 56, 20), (55, 56, 19), (55, 56, 18), (55, 56, 17), (55, 56, 16), (55, 56, 15), (55, 56, 14), (55, 56, 13), (55, 56, 9), (55, 56, 8), (55, 56, 7), (55, 56, 6)] R, 31, 67913) 264 [vA 55, vU] [vA 86, vA 55] (up V 55 30 (-1))
  refine j_putM (k0 := 55) hX ⟨by decide, by decide⟩ (by decide) rfl fn_X12_107 rfl rfl hI dX12_init_264 ?_
  show J X (87, mx 55 [(55, 56, 54), (55, 56, 53), (55, 56, 52), (55, 56, 51), (55, 56, 50), (55, 56, 49), (55, 56, 48), (55, 56, 47), (55, 56, 44), (55, 56, 43), (55, 56, 42), (55, 56, 41), (55, 56, 37), (55, 56, 36), (55, 56, 35), (55, 56, 34), (55, 56, 33), (55, 56, 32), (55, 56, 22), (55, 56, 20), (55, 56, 19), (55, 56, 18), (55, 56, 17), (55, 56, 16), (55, 56, 15), (55, 56, 14), (55, 56, 13), (55, 56, 9), (55, 56, 8), (55, 56, 7), (55, 56, 6)] R, 31, 67913) 267 [vA 55, vU] [] (up V 55 30 (-1))
  refine j_al0 hX dX12_init_267 rfl ?_
  refine j_iconst hX dX12_init_268 ⟨by decide, by decide⟩ ?_
  refine j_putN hX fp_X12_110 rfl ⟨by decide, by decide⟩ rfl dX12_init_269 ?_
  show J X (87, mx 55 [(55, 56, 54), (55, 56, 53), (55, 56, 52), (55, 56, 51), (55, 56, 50), (55, 56, 49), (55, 56, 48), (55, 56, 47), (55, 56, 44), (55, 56, 43), (55, 56, 42), (55, 56, 41), (55, 56, 37), (55, 56, 36), (55, 56, 35), (55, 56, 34), (55, 56, 33), (55, 56, 32), (55, 56, 22), (55, 56, 20), (55, 56, 19), (55, 56, 18), (55, 56, 17), (55, 56, 16), (55, 56, 15), (55, 56, 14), (55, 56, 13), (55, 56, 9), (55, 56, 8), (55, 56, 7), (55, 56, 6)] R, 31, 67913) 272 [vA 55, vU] [] (up (up V 55 30 (-1)) 55 10 (2))
  refine j_al0 hX dX12_init_272 rfl ?_
  refine j_iconst hX dX12_init_273 ⟨by decide, by decide⟩ ?_
  refine j_putN hX fp_X12_113 rfl ⟨by decide, by decide⟩ rfl dX12_init_274 ?_
  show J X (87, mx 55 [(55, 56, 54), (55, 56, 53), (55, 56, 52), (55, 56, 51), (55, 56, 50), (55, 56, 49), (55, 56, 48), (55, 56, 47), (55, 56, 44), (55, 56, 43), (55, 56, 42), (55, 56, 41), (55, 56, 37), (55, 56, 36), (55, 56, 35), (55, 56, 34), (55, 56, 33), (55, 56, 32), (55, 56, 22), (55, 56, 20), (55, 56, 19), (55, 56, 18), (55, 56, 17), (55, 56, 16), (55, 56, 15), (55, 56, 14), (55, 56, 13), (55, 56, 9), (55, 56, 8), (55, 56, 7), (55, 56, 6)] R, 31, 67913) 277 [vA 55, vU] [] (up (up (up V 55 30 (-1)) 55 10 (2)) 55 11 (2))
  refine j_al0 hX dX12_init_277 rfl ?_
  refine j_iconst hX dX12_init_278 ⟨by decide, by decide⟩ ?_
  refine j_putN hX fp_X12_116 rfl ⟨by decide, by decide⟩ rfl dX12_init_279 ?_
  show J X (87, mx 55 [(55, 56, 54), (55, 56, 53), (55, 56, 52), (55, 56, 51), (55, 56, 50), (55, 56, 49), (55, 56, 48), (55, 56, 47), (55, 56, 44), (55, 56, 43), (55, 56, 42), (55, 56, 41), (55, 56, 37), (55, 56, 36), (55, 56, 35), (55, 56, 34), (55, 56, 33), (55, 56, 32), (55, 56, 22), (55, 56, 20), (55, 56, 19), (55, 56, 18), (55, 56, 17), (55, 56, 16), (55, 56, 15), (55, 56, 14), (55, 56, 13), (55, 56, 9), (55, 56, 8), (55, 56, 7), (55, 56, 6)] R, 31, 67913) 282 [vA 55, vU] [] (up (up (up (up V 55 30 (-1)) 55 10 (2)) 55 11 (2)) 55 12 (1))
  refine j_end (k := 55) (by decide +kernel) ?_
  generalize hV0 : (up (up (up (up V 55 30 (-1)) 55 10 (2)) 55 11 (2)) 55 12 (1)) = V0
  have w30 : V0 55 30 = -1 := by rw [← hV0]; simp [up]
  have w10 : V0 55 10 = 2 := by rw [← hV0]; simp [up]
  have w11 : V0 55 11 = 2 := by rw [← hV0]; simp [up]
  have w12 : V0 55 12 = 1 := by rw [← hV0]; simp [up]
  have wz : ∀ a j : Int, ¬ (a = 55 ∧ (j = 30 ∨ j = 10 ∨ j = 11 ∨ j = 12)) → V0 a j = V a j := fun a j z => by rw [← hV0, up_n _ (by omega), up_n _ (by omega), up_n _ (by omega), up_n _ (by omega)]
  clear hV0
  have hG : gOK NM (87, sT R 55 87, 31, 67913) := ⟨Nat.le_refl _, fun k j h1 h2 => by
    show sT R 55 87 k j = true
    unfold sT
    by_cases e : (55 : Int) ≤ k ∧ k < 87
    · rw [if_pos e]
    · rw [if_neg e]
      have h3 : k < 87 := h2
      exact hb rfl k j h1 (by omega)⟩
  refine j_al0 hX dX12_init_282 rfl ?_
  refine j_iconst hX dX12_init_283 ⟨by decide, by decide⟩ ?_
  refine j_cVV1 (ci := 12) hX hG lk_X12_119 (ok_X12_laysGroup_M (q := 0) (by decide) (by rw [w10]; rfl) ⟨rfl, by decide⟩) (by decide) rfl (Nat.le_of_ble_eq_true rfl) (Nat.le_of_ble_eq_true rfl) (Nat.le_of_ble_eq_true rfl) rfl dX12_init_284 (fun V1 h1 => ?_)
  obtain ⟨t1, f1⟩ := h1
  refine j_iconst hX dX12_init_287 ⟨by decide, by decide⟩ ?_
  refine j_is1 hX dX12_init_288 rfl ?_
  refine j_il1 hX dX12_init_289 ?_
  refine j_iconst hX dX12_init_290 ⟨by decide, by decide⟩ ?_
  refine j_icmp_ge (tgt := 309) hX dX12_init_291 (by decide) (fun h9 => absurd h9 (by decide)) (fun _ => ?_)
  refine j_al0 hX dX12_init_294 rfl ?_
  refine j_getR (q := 61) hX hG fl_X12_25 rfl rfl (by decide) dX12_init_295 ?_
  refine j_il1 hX dX12_init_298 ?_
  refine j_il1 hX dX12_init_299 ?_
  refine j_iconst hX dX12_init_300 ⟨by decide, by decide⟩ ?_
  refine j_idiv hX dX12_init_301 (by decide) (by decide) ?_
  refine j_iast (n := 216) hX hG (by decide) (by decide) dX12_init_302 ?_
  refine j_inc1 hX dX12_init_303 rfl (by decide) ?_
  refine j_goto (tgt := 289) hX dX12_init_306 (by decide) ?_
  show J X (87, sT R 55 87, 31, 67913) 289 [vA 55, vI 1] [] (up V1 61 0 0)
  refine j_il1 hX dX12_init_289 ?_
  refine j_iconst hX dX12_init_290 ⟨by decide, by decide⟩ ?_
  refine j_icmp_ge (tgt := 309) hX dX12_init_291 (by decide) (fun h9 => absurd h9 (by decide)) (fun _ => ?_)
  refine j_al0 hX dX12_init_294 rfl ?_
  refine j_getR (q := 61) hX hG fl_X12_25 rfl rfl (by decide) dX12_init_295 ?_
  refine j_il1 hX dX12_init_298 ?_
  refine j_il1 hX dX12_init_299 ?_
  refine j_iconst hX dX12_init_300 ⟨by decide, by decide⟩ ?_
  refine j_idiv hX dX12_init_301 (by decide) (by decide) ?_
  refine j_iast (n := 216) hX hG (by decide) (by decide) dX12_init_302 ?_
  refine j_inc1 hX dX12_init_303 rfl (by decide) ?_
  refine j_goto (tgt := 289) hX dX12_init_306 (by decide) ?_
  show J X (87, sT R 55 87, 31, 67913) 289 [vA 55, vI 2] [] (up (up V1 61 0 0) 61 1 0)
  refine j_il1 hX dX12_init_289 ?_
  refine j_iconst hX dX12_init_290 ⟨by decide, by decide⟩ ?_
  refine j_icmp_ge (tgt := 309) hX dX12_init_291 (by decide) (fun h9 => absurd h9 (by decide)) (fun _ => ?_)
  refine j_al0 hX dX12_init_294 rfl ?_
  refine j_getR (q := 61) hX hG fl_X12_25 rfl rfl (by decide) dX12_init_295 ?_
  refine j_il1 hX dX12_init_298 ?_
  refine j_il1 hX dX12_init_299 ?_
  refine j_iconst hX dX12_init_300 ⟨by decide, by decide⟩ ?_
  refine j_idiv hX dX12_init_301 (by decide) (by decide) ?_
  refine j_iast (n := 216) hX hG (by decide) (by decide) dX12_init_302 ?_
  refine j_inc1 hX dX12_init_303 rfl (by decide) ?_
  refine j_goto (tgt := 289) hX dX12_init_306 (by decide) ?_
  show J X (87, sT R 55 87, 31, 67913) 289 [vA 55, vI 3] [] (up (up (up V1 61 0 0) 61 1 0) 61 2 1)
  refine j_il1 hX dX12_init_289 ?_
  refine j_iconst hX dX12_init_290 ⟨by decide, by decide⟩ ?_
  refine j_icmp_ge (tgt := 309) hX dX12_init_291 (by decide) (fun h9 => absurd h9 (by decide)) (fun _ => ?_)
  refine j_al0 hX dX12_init_294 rfl ?_
  refine j_getR (q := 61) hX hG fl_X12_25 rfl rfl (by decide) dX12_init_295 ?_
  refine j_il1 hX dX12_init_298 ?_
  refine j_il1 hX dX12_init_299 ?_
  refine j_iconst hX dX12_init_300 ⟨by decide, by decide⟩ ?_
  refine j_idiv hX dX12_init_301 (by decide) (by decide) ?_
  refine j_iast (n := 216) hX hG (by decide) (by decide) dX12_init_302 ?_
  refine j_inc1 hX dX12_init_303 rfl (by decide) ?_
  refine j_goto (tgt := 289) hX dX12_init_306 (by decide) ?_
  show J X (87, sT R 55 87, 31, 67913) 289 [vA 55, vI 4] [] (up (up (up (up V1 61 0 0) 61 1 0) 61 2 1) 61 3 1)
  refine j_il1 hX dX12_init_289 ?_
  refine j_iconst hX dX12_init_290 ⟨by decide, by decide⟩ ?_
  refine j_icmp_ge (tgt := 309) hX dX12_init_291 (by decide) (fun _ => ?_) (fun h9 => absurd (by decide) h9)
  generalize hV2 : (up (up (up (up V1 61 0 0) 61 1 0) 61 2 1) 61 3 1) = V2
  have y : ∀ a j : Int, a ≠ 61 → V2 a j = V1 a j := fun a j z => by rw [← hV2, up_n _ (by omega), up_n _ (by omega), up_n _ (by omega), up_n _ (by omega)]
  have yr : ∀ e : Int, 0 ≤ e → e < 4 → V2 61 e = if e = 2 ∨ e = 3 then 1 else 0 := fun e e0 e1 => by
    rcases (by omega : e = 0 ∨ e = 1 ∨ e = 2 ∨ e = 3) with rfl | rfl | rfl | rfl <;> rw [← hV2] <;> simp [up]
  clear hV2
  have f55 : ∀ b, V2 55 b = V0 55 b := fun b => (y 55 b (by decide)).trans (f1 55 b (by decide))
  have hg0 : V2 55 10 = gO 0 := by rw [f55, w10]; rfl
  refine j_al0 hX dX12_init_309 rfl ?_
  refine j_cVV0 (ci := 12) hX hG lk_X12_123 (ok_X12_takes_M (q := 0) (by decide) hg0 (fun a b a0 a1 b0 b1 => (y 60 _ (by decide)).trans (t1 a b a0 a1 b0 b1)) (Or.inl (by rw [f55, w11])) (by rw [f55, w12]; decide)) (by decide) rfl (Nat.le_of_ble_eq_true rfl) (Nat.le_of_ble_eq_true rfl) (Nat.le_of_ble_eq_true rfl) rfl dX12_init_310 (fun V3 h3 => ?_)
  obtain ⟨m1, m2, m3, m4, m5, m6, ⟨m7, m8, m9, m10, m11⟩, m12, m13⟩ := h3
  have z1 : V3 55 1 = 2 := m1.2.1
  have z3 : V3 55 3 = 4 := by
    have h1 := m2.2.2
    rcases m2.2.1 with ⟨_, h2⟩ | ⟨h2, _⟩
    · rw [h1, h2, z1]
      rfl
    · rw [m3, f55, w11] at h2
      exact absurd h2 (by decide)
  refine j_ret hR dX12_init_313 ⟨m1, m2, by rw [m3, f55, w11], by rw [m4, f55, w12], fun e e0 e1 => (m5 e e0 (by omega)).trans (yr e e0 e1), ?_, m7, m8, m9, m10, m11, ?_, ?_, fun b hb => ?_, fun a j ha => ?_⟩
  · rw [m6 0 (by decide) (by rw [f55, w12]; decide), y 62 0 (by decide), f1 62 0 (by decide), wz 62 0 (by omega)]
    exact hz 62 (by decide) 0
  · rw [m12 30 (by decide), f55, w30]
  · rw [m12 10 (by decide), f55, w10]
  · rw [m12 b (by omega), f55, wz 55 b (by omega)]
    exact hz 55 (by decide) b
  · rw [m13 a j (by simp; omega), y a j (by omega), f1 a j (by simp; omega), wz a j (by omega)]
