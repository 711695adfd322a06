theorem mx_new {k0 : Int} {L : List (Int × Int × Int)} {R : Int → Nat → Bool} {n : Nat} (h0 : k0 ≤ n) (hL9 : L.all (fun q => decide (q.2.1 ≤ (n : Int))) = true) (j : Nat) : mx k0 L R n j = false := by
  unfold mx
  rw [if_pos h0]
  unfold pB
  refine Bool.eq_false_iff.mpr fun h => ?_
  obtain ⟨q, q1, q2⟩ := List.any_eq_true.mp h
  have := List.all_eq_true.mp hL9 q q1
  rw [decide_eq_true_eq] at this
  rw [Bool.and_eq_true, Bool.and_eq_true, decide_eq_true_eq, decide_eq_true_eq] at q2
  omega
section PUTN
variable {X : Cx} {own : String} {cc : ByteArray} {nL fr lo : Nat} {n c s : Nat} {R : Int → Nat → Bool} {pc : Nat} {ls st : List MV} {V : VV}
theorem j_putN {idx ci j : Nat} {ji k x : Int} (hX : Good X own cc nL fr lo) (hf : FP9 own idx ci j ji .int) (ht : ft ci j = 0) (hk : 0 ≤ k ∧ k < n) (hkd : kd k = (0, ci)) (hd : decode cc pc = .ok (.putfield idx, 3))
    (kk : J X (n, R, c, s) (pc + 3) ls st (up V k ji x)) : J X (n, R, c, s) pc ls (vI x :: vA k :: st) V := fun h1 h2 h3 H locs lsr hW hS hL => by
  obtain ⟨rfl, C, T, N, ty, hc, hN, hj, hin, hlink, hty, hnm, htj, hfin⟩ := hf
  have hat := hW.1.2.2 k.toNat (show k.toNat < n by omega)
  rw [show ((k.toNat : Nat) : Int) = k by omega, cel_ob hkd] at hat
  have hap := va_apart (own := own) hX.ts hin ty hty hnm hX.k hc
  obtain ⟨r, g1, cell, q1, q2, q3, q4⟩ := hat
  have hr : r = (C, T, N) := Option.some.inj (g1.symm.trans hc)
  subst hr
  obtain ⟨hSl, hfc, kC, hkC, hkind⟩ := hX.k.1 ci _ hc
  obtain ⟨cf, kf, fi, f, hi, hsl⟩ := hSl j hj
  have hlay := hX.ts _ (hin _ (u_in_lay hj))
  unfold u_lay at hlay
  rw [if_neg (by rw [hfin]; decide)] at hlay
  have hst := (u_facts hfc hkC (u_lays hX.ts hin hj) hi).1
  have h6 := u_store (v := .int (Int32.ofInt x)) hfc hkC hkind hlay hi (by rw [hty j hj, htj]) rfl rfl
  have hadr : yz (cY X) + k.toNat = adr (cY X) k := rfl
  rw [hadr] at q1
  refine W.putK hX.1 hX.2.1 (f := f) ⟨hX.own, hX.ts _ hlink, ⟨_, _, _, hi⟩, hst⟩ (by rw [q2]; exact h6) q1 q3 (by rw [hsl]; exact k2_hasslot (q4 j hj)) rfl rfl hd fun H' e1 e2 e3 => ?_
  rw [hsl] at e1 ⊢
  have hrx := okIr (okl_hd h2)
  refine kk h1 (okl_tl (okl_tl h2)) (ok_up h3 (by rw [cty_ob hkd, ht]; exact ⟨fun _ => hrx, fun q => absurd q (by decide), fun q => absurd q (by decide)⟩)) H' _ lsr ⟨hW.1.upd hk.1 e2 e3 ?_, hW.2⟩ (hS.put e2 e3 (adr_z _ _)) hL
  rw [cel_up_ob hkd (by rw [hN]; exact hj) (by rw [ht]; decide)]
  exact ⟨_, hc, t_OB.to (V := updV (vp_V _) j (.int (Int32.ofInt x))) ⟨_, e1, q2, q3, t_set q4 hap hj _⟩ (fun i _ => vp_updV_set (by rw [List.length_map, List.length_range, hN]; exact hj) _ i)⟩
end PUTN
theorem ac_int : Cond.arrayClass .int ∈ Gw := (inT1 70 (by decide +kernel) rfl)
theorem ac_long : Cond.arrayClass .long ∈ Gw := (inT1 136 (by decide +kernel) rfl)
theorem ac_boolean : Cond.arrayClass .boolean ∈ Gw := (inT7 193 (by decide +kernel) rfl)
theorem in_X9 : Cond.instantiable RX9 6 ∈ Gw := (inT1 42 (by decide +kernel) rfl)
theorem ii_X9 : Cond.initialized RX9 ∈ Gw := (inT1 3 (by decide +kernel) rfl)
theorem dv_X9 : ∀ j, j < 6 → defaultValue (tyX9 j) = if ft 9 j = 2 then .null else .int 0 := by decide +kernel
theorem in_X2 : Cond.instantiable RX2 2 ∈ Gw := (inT1 72 (by decide +kernel) rfl)
theorem ii_X2 : Cond.initialized RX2 ∈ Gw := (inT1 4 (by decide +kernel) rfl)
theorem dv_X2 : ∀ j, j < 2 → defaultValue (tyX2 j) = if ft 2 j = 2 then .null else .int 0 := by decide +kernel
theorem in_X8 : Cond.instantiable RX8 8 ∈ Gw := (inT1 87 (by decide +kernel) rfl)
theorem ii_X8 : Cond.initialized RX8 ∈ Gw := (inT1 5 (by decide +kernel) rfl)
theorem dv_X8 : ∀ j, j < 8 → defaultValue (tyX8 j) = if ft 8 j = 2 then .null else .int 0 := by decide +kernel
theorem in_X7 : Cond.instantiable RX7 2 ∈ Gw := (inT1 138 (by decide +kernel) rfl)
theorem ii_X7 : Cond.initialized RX7 ∈ Gw := (inT1 6 (by decide +kernel) rfl)
theorem dv_X7 : ∀ j, j < 2 → defaultValue (tyX7 j) = if ft 7 j = 2 then .null else .int 0 := by decide +kernel
theorem in_X4 : Cond.instantiable RX4 7 ∈ Gw := (inT1 36 (by decide +kernel) rfl)
theorem ii_X4 : Cond.initialized RX4 ∈ Gw := (inT1 2 (by decide +kernel) rfl)
theorem dv_X4 : ∀ j, j < 7 → defaultValue (tyX4 j) = if ft 4 j = 2 then .null else .int 0 := by decide +kernel
theorem in_X0 : Cond.instantiable RX0 6 ∈ Gw := (inT1 191 (by decide +kernel) rfl)
theorem ii_X0 : Cond.initialized RX0 ∈ Gw := (inT1 7 (by decide +kernel) rfl)
theorem dv_X0 : ∀ j, j < 6 → defaultValue (tyX0 j) = if ft 0 j = 2 then .null else .int 0 := by decide +kernel
theorem in_X6 : Cond.instantiable RX6 6 ∈ Gw := (inT1 217 (by decide +kernel) rfl)
theorem ii_X6 : Cond.initialized RX6 ∈ Gw := (inT1 8 (by decide +kernel) rfl)
theorem dv_X6 : ∀ j, j < 6 → defaultValue (tyX6 j) = if ft 6 j = 2 then .null else .int 0 := by decide +kernel
theorem in_X3 : Cond.instantiable RX3 7 ∈ Gw := (inT2 4 (by decide +kernel) rfl)
theorem ii_X3 : Cond.initialized RX3 ∈ Gw := (inT1 9 (by decide +kernel) rfl)
theorem dv_X3 : ∀ j, j < 7 → defaultValue (tyX3 j) = if ft 3 j = 2 then .null else .int 0 := by decide +kernel
theorem in_X1 : Cond.instantiable RX1 7 ∈ Gw := (inT2 34 (by decide +kernel) rfl)
theorem ii_X1 : Cond.initialized RX1 ∈ Gw := (inT1 10 (by decide +kernel) rfl)
theorem dv_X1 : ∀ j, j < 7 → defaultValue (tyX1 j) = if ft 1 j = 2 then .null else .int 0 := by decide +kernel
theorem in_X10 : Cond.instantiable RX10 3 ∈ Gw := (inT2 63 (by decide +kernel) rfl)
theorem ii_X10 : Cond.initialized RX10 ∈ Gw := (inT1 11 (by decide +kernel) rfl)
theorem dv_X10 : ∀ j, j < 3 → defaultValue (tyX10 j) = if ft 10 j = 2 then .null else .int 0 := by decide +kernel
theorem in_X5 : Cond.instantiable RX5 3 ∈ Gw := (inT2 79 (by decide +kernel) rfl)
theorem ii_X5 : Cond.initialized RX5 ∈ Gw := (inT1 12 (by decide +kernel) rfl)
theorem dv_X5 : ∀ j, j < 3 → defaultValue (tyX5 j) = if ft 5 j = 2 then .null else .int 0 := by decide +kernel
theorem in_X11 : Cond.instantiable RX11 15 ∈ Gw := (inT1 28 (by decide +kernel) rfl)
theorem ii_X11 : Cond.initialized RX11 ∈ Gw := (inT1 1 (by decide +kernel) rfl)
theorem dv_X11 : ∀ j, j < 15 → defaultValue (tyX11 j) = if ft 11 j = 2 then .null else .int 0 := by decide +kernel
theorem in_X12 : Cond.instantiable RX12 55 ∈ Gw := (inT7 3 (by decide +kernel) rfl)
theorem ii_X12 : Cond.initialized RX12 ∈ Gw := (inT1 14 (by decide +kernel) rfl)
theorem dv_X12 : ∀ j, j < 55 → defaultValue (tyX12 j) = if ft 12 j = 2 then .null else .int 0 := by decide +kernel
theorem oL_X9 : Cond.methodLink RX9 3 objectInit ∈ Gw := (inT1 46 (by decide +kernel) rfl)
theorem fn_X9_9 : FN9 RX9 9 9 0 := ⟨TX9, 6, tyX9, rfl, rfl, by decide, wg9, (inT1 47 (by decide +kernel) rfl), tyX9_ok, nmX9, rfl, rfl, fun _ => rfl, fun _ => rfl⟩
set_option maxHeartbeats 4000000 in
theorem okn_2 {V : VV} (hz : ∀ a : Int, 2 < a → ∀ j, V a j = 0) : OkN yX9_init cX9_init 1 1 20 2 4 1 500 V (fun V' => V' = V) := by
  refine OkN.intro (by decide +kernel) rfl (by decide) (fun X R hX hI hb hcl9 hsl9 hR hoV => ?_)
  show J X (3, mx 2 [] R, 0, 0) 0 [vA 2] [] V
  refine j_al0 hX dX9_init_0 rfl ?_
  refine j_objI hX oL_X9 rfl (by decide) (by decide) rfl dX9_init_1 ?_
  refine j_al0 hX dX9_init_4 rfl ?_
  refine j_sipush hX dX9_init_5 (by decide) ⟨by decide, by decide⟩ ?_
  refine j_newarr (n := 3) (t := 1) (len := 500) (ty := .int) hX (by decide) rfl rfl ac_int (Or.inl ⟨rfl, rfl⟩) rfl (by decide) (fun j => by exact hz 3 (by decide) j) (by rw [hcl9]; decide) (by rw [hsl9]; decide) dX9_init_8 ?_
  show J X (4, mx 2 [] R, 1, 500) 10 [vA 2] [vA 3, vA 2] V
  refine j_putM (k0 := 2) hX ⟨by decide, by decide⟩ (by decide) rfl fn_X9_9 rfl rfl hI dX9_init_10 ?_
  show J X (4, mx 2 [(2, 3, 0)] R, 1, 500) 13 [vA 2] [] V
  refine j_end (k := 2) (by decide +kernel) ?_
  exact j_ret hR dX9_init_13 rfl
theorem oL_X2 : Cond.methodLink RX2 3 objectInit ∈ Gw := (inT1 76 (by decide +kernel) rfl)
theorem fn_X2_9 : FN9 RX2 9 2 0 := ⟨TX2, 2, tyX2, rfl, rfl, by decide, wg2, (inT1 77 (by decide +kernel) rfl), tyX2_ok, nmX2, rfl, rfl, fun _ => rfl, fun _ => rfl⟩
set_option maxHeartbeats 4000000 in
theorem okn_4 {V : VV} (hz : ∀ a : Int, 4 < a → ∀ j, V a j = 0) : OkN yX2_init cX2_init 1 1 20 4 6 1 36 V (fun V' => V' = V) := by
  refine OkN.intro (by decide +kernel) rfl (by decide) (fun X R hX hI hb hcl9 hsl9 hR hoV => ?_)
  show J X (5, mx 4 [] R, 0, 0) 0 [vA 4] [] V
  refine j_al0 hX dX2_init_0 rfl ?_
  refine j_objI hX oL_X2 rfl (by decide) (by decide) rfl dX2_init_1 ?_
  refine j_al0 hX dX2_init_4 rfl ?_
  refine j_bipush hX dX2_init_5 (by decide) ⟨by decide, by decide⟩ ?_
  refine j_newarr (n := 5) (t := 1) (len := 36) (ty := .int) hX (by decide) rfl rfl ac_int (Or.inl ⟨rfl, rfl⟩) rfl (by decide) (fun j => by exact hz 5 (by decide) j) (by rw [hcl9]; decide) (by rw [hsl9]; decide) dX2_init_7 ?_
  show J X (6, mx 4 [] R, 1, 36) 9 [vA 4] [vA 5, vA 4] V
  refine j_putM (k0 := 4) hX ⟨by decide, by decide⟩ (by decide) rfl fn_X2_9 rfl rfl hI dX2_init_9 ?_
  show J X (6, mx 4 [(4, 5, 0)] R, 1, 36) 12 [vA 4] [] V
  refine j_end (k := 4) (by decide +kernel) ?_
  exact j_ret hR dX2_init_12 rfl
theorem oL_X8 : Cond.methodLink RX8 3 objectInit ∈ Gw := (inT1 91 (by decide +kernel) rfl)
theorem fn_X8_9 : FN9 RX8 9 8 0 := ⟨TX8, 8, tyX8, rfl, rfl, by decide, wg8, (inT1 92 (by decide +kernel) rfl), tyX8_ok, nmX8, rfl, rfl, fun _ => rfl, fun _ => rfl⟩
theorem fn_X8_15 : FN9 RX8 15 8 1 := ⟨TX8, 8, tyX8, rfl, rfl, by decide, wg8, (inT1 93 (by decide +kernel) rfl), tyX8_ok, nmX8, rfl, rfl, fun _ => rfl, fun _ => rfl⟩
theorem fn_X8_19 : FN9 RX8 19 8 2 := ⟨TX8, 8, tyX8, rfl, rfl, by decide, wg8, (inT1 94 (by decide +kernel) rfl), tyX8_ok, nmX8, rfl, rfl, fun _ => rfl, fun _ => rfl⟩
set_option maxHeartbeats 4000000 in
theorem okn_6 {V : VV} (hz : ∀ a : Int, 6 < a → ∀ j, V a j = 0) : OkN yX8_init cX8_init 1 1 20 6 10 3 648 V (fun V' => V' = V) := by
  refine OkN.intro (by decide +kernel) rfl (by decide) (fun X R hX hI hb hcl9 hsl9 hR hoV => ?_)
  show J X (7, mx 6 [] R, 0, 0) 0 [vA 6] [] V
  refine j_al0 hX dX8_init_0 rfl ?_
  refine j_objI hX oL_X8 rfl (by decide) (by decide) rfl dX8_init_1 ?_
  refine j_al0 hX dX8_init_4 rfl ?_
  refine j_sipush hX dX8_init_5 (by decide) ⟨by decide, by decide⟩ ?_
  refine j_newarr (n := 7) (t := 1) (len := 216) (ty := .int) hX (by decide) rfl rfl ac_int (Or.inl ⟨rfl, rfl⟩) rfl (by decide) (fun j => by exact hz 7 (by decide) j) (by rw [hcl9]; decide) (by rw [hsl9]; decide) dX8_init_8 ?_
  show J X (8, mx 6 [] R, 1, 216) 10 [vA 6] [vA 7, vA 6] V
  refine j_putM (k0 := 6) hX ⟨by decide, by decide⟩ (by decide) rfl fn_X8_9 rfl rfl hI dX8_init_10 ?_
  show J X (8, mx 6 [(6, 7, 0)] R, 1, 216) 13 [vA 6] [] V
  refine j_al0 hX dX8_init_13 rfl ?_
  refine j_sipush hX dX8_init_14 (by decide) ⟨by decide, by decide⟩ ?_
  refine j_newarr (n := 8) (t := 2) (len := 216) (ty := .long) hX (by decide) rfl rfl ac_long (Or.inr (Or.inl ⟨rfl, rfl⟩)) rfl (by decide) (fun j => by exact hz 8 (by decide) j) (by rw [hcl9]; decide) (by rw [hsl9]; decide) dX8_init_17 ?_
  show J X (9, mx 6 [(6, 7, 0)] R, 2, 432) 19 [vA 6] [vA 8, vA 6] V
  refine j_putM (k0 := 6) hX ⟨by decide, by decide⟩ (by decide) rfl fn_X8_15 rfl rfl hI dX8_init_19 ?_
  show J X (9, mx 6 [(6, 7, 1), (6, 7, 0)] R, 2, 432) 22 [vA 6] [] V
  refine j_al0 hX dX8_init_22 rfl ?_
  refine j_sipush hX dX8_init_23 (by decide) ⟨by decide, by decide⟩ ?_
  refine j_newarr (n := 9) (t := 2) (len := 216) (ty := .long) hX (by decide) rfl rfl ac_long (Or.inr (Or.inl ⟨rfl, rfl⟩)) rfl (by decide) (fun j => by exact hz 9 (by decide) j) (by rw [hcl9]; decide) (by rw [hsl9]; decide) dX8_init_26 ?_
  show J X (10, mx 6 [(6, 7, 1), (6, 7, 0)] R, 3, 648) 28 [vA 6] [vA 9, vA 6] V
  refine j_putM (k0 := 6) hX ⟨by decide, by decide⟩ (by decide) rfl fn_X8_19 rfl rfl hI dX8_init_28 ?_
  show J X (10, mx 6 [(6, 7, 2), (6, 7, 1), (6, 7, 0)] R, 3, 648) 31 [vA 6] [] V
  refine j_end (k := 6) (by decide +kernel) ?_
  exact j_ret hR dX8_init_31 rfl
theorem oL_X7 : Cond.methodLink RX7 3 objectInit ∈ Gw := (inT1 142 (by decide +kernel) rfl)
theorem fn_X7_9 : FN9 RX7 9 7 0 := ⟨TX7, 2, tyX7, rfl, rfl, by decide, wg7, (inT1 143 (by decide +kernel) rfl), tyX7_ok, nmX7, rfl, rfl, fun _ => rfl, fun _ => rfl⟩
set_option maxHeartbeats 4000000 in
theorem okn_10 {V : VV} (hz : ∀ a : Int, 10 < a → ∀ j, V a j = 0) : OkN yX7_init cX7_init 1 1 20 10 12 1 16 V (fun V' => V' = V) := by
  refine OkN.intro (by decide +kernel) rfl (by decide) (fun X R hX hI hb hcl9 hsl9 hR hoV => ?_)
  show J X (11, mx 10 [] R, 0, 0) 0 [vA 10] [] V
  refine j_al0 hX dX7_init_0 rfl ?_
  refine j_objI hX oL_X7 rfl (by decide) (by decide) rfl dX7_init_1 ?_
  refine j_al0 hX dX7_init_4 rfl ?_
  refine j_bipush hX dX7_init_5 (by decide) ⟨by decide, by decide⟩ ?_
  refine j_newarr (n := 11) (t := 1) (len := 16) (ty := .int) hX (by decide) rfl rfl ac_int (Or.inl ⟨rfl, rfl⟩) rfl (by decide) (fun j => by exact hz 11 (by decide) j) (by rw [hcl9]; decide) (by rw [hsl9]; decide) dX7_init_7 ?_
  show J X (12, mx 10 [] R, 1, 16) 9 [vA 10] [vA 11, vA 10] V
  refine j_putM (k0 := 10) hX ⟨by decide, by decide⟩ (by decide) rfl fn_X7_9 rfl rfl hI dX7_init_9 ?_
  show J X (12, mx 10 [(10, 11, 0)] R, 1, 16) 12 [vA 10] [] V
  refine j_end (k := 10) (by decide +kernel) ?_
  exact j_ret hR dX7_init_12 rfl
theorem oL_X4 : Cond.methodLink RX4 3 objectInit ∈ Gw := (inT1 40 (by decide +kernel) rfl)
theorem cl_X4_9 : Cond.classLink RX4 9 RX9 ∈ Gw := (inT1 41 (by decide +kernel) rfl)
theorem ln_X4_11 : lkN RX4 11 yX9_init cX9_init 1 := ⟨⟨Or.inr ⟨"GroupAutomaton", inN1 43 (by decide +kernel)⟩, (inT1 3 (by decide +kernel) rfl), (inT1 45 (by decide +kernel) rfl), by decide, by decide, by decide +kernel⟩, (inT1 44 (by decide +kernel) rfl), rfl⟩
theorem fn_X4_12 : FN9 RX4 12 4 0 := ⟨TX4, 7, tyX4, rfl, rfl, by decide, wg4, (inT1 156 (by decide +kernel) rfl), tyX4_ok, nmX4, rfl, rfl, fun _ => rfl, fun _ => rfl⟩
theorem cl_X4_18 : Cond.classLink RX4 18 RX2 ∈ Gw := (inT1 71 (by decide +kernel) rfl)
theorem ln_X4_20 : lkN RX4 20 yX2_init cX2_init 1 := ⟨⟨Or.inr ⟨"GroupAutomaton", inN1 73 (by decide +kernel)⟩, (inT1 4 (by decide +kernel) rfl), (inT1 75 (by decide +kernel) rfl), by decide, by decide, by decide +kernel⟩, (inT1 74 (by decide +kernel) rfl), rfl⟩
theorem fn_X4_21 : FN9 RX4 21 4 1 := ⟨TX4, 7, tyX4, rfl, rfl, by decide, wg4, (inT1 158 (by decide +kernel) rfl), tyX4_ok, nmX4, rfl, rfl, fun _ => rfl, fun _ => rfl⟩
theorem cl_X4_25 : Cond.classLink RX4 25 RX8 ∈ Gw := (inT1 86 (by decide +kernel) rfl)
theorem ln_X4_27 : lkN RX4 27 yX8_init cX8_init 1 := ⟨⟨Or.inr ⟨"GroupAutomaton", inN1 88 (by decide +kernel)⟩, (inT1 5 (by decide +kernel) rfl), (inT1 90 (by decide +kernel) rfl), by decide, by decide, by decide +kernel⟩, (inT1 89 (by decide +kernel) rfl), rfl⟩
theorem fn_X4_28 : FN9 RX4 28 4 2 := ⟨TX4, 7, tyX4, rfl, rfl, by decide, wg4, (inT1 160 (by decide +kernel) rfl), tyX4_ok, nmX4, rfl, rfl, fun _ => rfl, fun _ => rfl⟩
theorem cl_X4_32 : Cond.classLink RX4 32 RX7 ∈ Gw := (inT1 137 (by decide +kernel) rfl)
theorem ln_X4_34 : lkN RX4 34 yX7_init cX7_init 1 := ⟨⟨Or.inr ⟨"GroupAutomaton", inN1 139 (by decide +kernel)⟩, (inT1 6 (by decide +kernel) rfl), (inT1 141 (by decide +kernel) rfl), by decide, by decide, by decide +kernel⟩, (inT1 140 (by decide +kernel) rfl), rfl⟩
theorem fn_X4_35 : FN9 RX4 35 4 3 := ⟨TX4, 7, tyX4, rfl, rfl, by decide, wg4, (inT1 162 (by decide +kernel) rfl), tyX4_ok, nmX4, rfl, rfl, fun _ => rfl, fun _ => rfl⟩
theorem fn_X4_39 : FN9 RX4 39 4 4 := ⟨TX4, 7, tyX4, rfl, rfl, by decide, wg4, (inT1 164 (by decide +kernel) rfl), tyX4_ok, nmX4, rfl, rfl, fun _ => rfl, fun _ => rfl⟩
set_option maxHeartbeats 4000000 in
theorem okn_1 {V : VV} (hz : ∀ a : Int, 1 < a → ∀ j, V a j = 0) : OkN yX4_init cX4_init 1 2 60 1 13 11 1434 V (fun V' => V' = (up V 1 6 (-1))) := by
  refine OkN.intro (by decide +kernel) rfl (by decide) (fun X R hX hI hb hcl9 hsl9 hR hoV => ?_)
  show J X (2, mx 1 [] R, 0, 0) 0 [vA 1] [] V
  refine j_al0 hX dX4_init_0 rfl ?_
  refine j_objI hX oL_X4 rfl (by decide) (by decide) rfl dX4_init_1 ?_
  refine j_al0 hX dX4_init_4 rfl ?_
  refine j_new (n := 2) (ci := 9) (N := 6) (ty := tyX9) hX (by decide) rfl rfl rfl wg9 tyX9_ok dv_X9 cl_X4_9 in_X9 ii_X9 (fun j => by exact hz 2 (by decide) j) (mx_new (by decide) (by decide)) (by rw [hcl9]; decide) (by rw [hsl9]; decide) dX4_init_5 ?_
  show J X (3, mx 1 [] R, 1, 6) 8 [vA 1] [vA 2, vA 1] V
  refine j_dup hX dX4_init_8 rfl ?_
  refine j_callM (k := 2) (n2 := 4) (mc := 1) (ms := 500) hX ln_X4_11 (okn_2 (fun a ha j => by exact hz a (by omega) j)) (by decide) (by decide) (by decide) (by decide) (by decide) (Nat.le_of_ble_eq_true rfl) rfl ⟨by rw [hcl9]; decide, by rw [hsl9]; decide⟩ dX4_init_9 (fun V_9 h_9 => ?_)
  rw [h_9]
  show J X (4, mx 1 [(2, 4, -1)] R, 2, 506) 12 [vA 1] [vA 2, vA 1] V
  refine j_putM (k0 := 1) hX ⟨by decide, by decide⟩ (by decide) rfl fn_X4_12 rfl rfl hI dX4_init_12 ?_
  show J X (4, mx 1 [(1, 2, 0), (2, 4, -1)] R, 2, 506) 15 [vA 1] [] V
  refine j_al0 hX dX4_init_15 rfl ?_
  refine j_new (n := 4) (ci := 2) (N := 2) (ty := tyX2) hX (by decide) rfl rfl rfl wg2 tyX2_ok dv_X2 cl_X4_18 in_X2 ii_X2 (fun j => by exact hz 4 (by decide) j) (mx_new (by decide) (by decide)) (by rw [hcl9]; decide) (by rw [hsl9]; decide) dX4_init_16 ?_
  show J X (5, mx 1 [(1, 2, 0), (2, 4, -1)] R, 3, 508) 19 [vA 1] [vA 4, vA 1] V
  refine j_dup hX dX4_init_19 rfl ?_
  refine j_callM (k := 4) (n2 := 6) (mc := 1) (ms := 36) hX ln_X4_20 (okn_4 (fun a ha j => by exact hz a (by omega) j)) (by decide) (by decide) (by decide) (by decide) (by decide) (Nat.le_of_ble_eq_true rfl) rfl ⟨by rw [hcl9]; decide, by rw [hsl9]; decide⟩ dX4_init_20 (fun V_20 h_20 => ?_)
  rw [h_20]
  show J X (6, mx 1 [(4, 6, -1), (1, 2, 0), (2, 4, -1)] R, 4, 544) 23 [vA 1] [vA 4, vA 1] V
  refine j_putM (k0 := 1) hX ⟨by decide, by decide⟩ (by decide) rfl fn_X4_21 rfl rfl hI dX4_init_23 ?_
  show J X (6, mx 1 [(1, 2, 1), (4, 6, -1), (1, 2, 0), (2, 4, -1)] R, 4, 544) 26 [vA 1] [] V
  refine j_al0 hX dX4_init_26 rfl ?_
  refine j_new (n := 6) (ci := 8) (N := 8) (ty := tyX8) hX (by decide) rfl rfl rfl wg8 tyX8_ok dv_X8 cl_X4_25 in_X8 ii_X8 (fun j => by exact hz 6 (by decide) j) (mx_new (by decide) (by decide)) (by rw [hcl9]; decide) (by rw [hsl9]; decide) dX4_init_27 ?_
  show J X (7, mx 1 [(1, 2, 1), (4, 6, -1), (1, 2, 0), (2, 4, -1)] R, 5, 552) 30 [vA 1] [vA 6, vA 1] V
  refine j_dup hX dX4_init_30 rfl ?_
  refine j_callM (k := 6) (n2 := 10) (mc := 3) (ms := 648) hX ln_X4_27 (okn_6 (fun a ha j => by exact hz a (by omega) j)) (by decide) (by decide) (by decide) (by decide) (by decide) (Nat.le_of_ble_eq_true rfl) rfl ⟨by rw [hcl9]; decide, by rw [hsl9]; decide⟩ dX4_init_31 (fun V_31 h_31 => ?_)
  rw [h_31]
  show J X (10, mx 1 [(6, 10, -1), (1, 2, 1), (4, 6, -1), (1, 2, 0), (2, 4, -1)] R, 8, 1200) 34 [vA 1] [vA 6, vA 1] V
  refine j_putM (k0 := 1) hX ⟨by decide, by decide⟩ (by decide) rfl fn_X4_28 rfl rfl hI dX4_init_34 ?_
  show J X (10, mx 1 [(1, 2, 2), (6, 10, -1), (1, 2, 1), (4, 6, -1), (1, 2, 0), (2, 4, -1)] R, 8, 1200) 37 [vA 1] [] V
  refine j_al0 hX dX4_init_37 rfl ?_
  refine j_new (n := 10) (ci := 7) (N := 2) (ty := tyX7) hX (by decide) rfl rfl rfl wg7 tyX7_ok dv_X7 cl_X4_32 in_X7 ii_X7 (fun j => by exact hz 10 (by decide) j) (mx_new (by decide) (by decide)) (by rw [hcl9]; decide) (by rw [hsl9]; decide) dX4_init_38 ?_
  show J X (11, mx 1 [(1, 2, 2), (6, 10, -1), (1, 2, 1), (4, 6, -1), (1, 2, 0), (2, 4, -1)] R, 9, 1202) 41 [vA 1] [vA 10, vA 1] V
  refine j_dup hX dX4_init_41 rfl ?_
  refine j_callM (k := 10) (n2 := 12) (mc := 1) (ms := 16) hX ln_X4_34 (okn_10 (fun a ha j => by exact hz a (by omega) j)) (by decide) (by decide) (by decide) (by decide) (by decide) (Nat.le_of_ble_eq_true rfl) rfl ⟨by rw [hcl9]; decide, by rw [hsl9]; decide⟩ dX4_init_42 (fun V_42 h_42 => ?_)
  rw [h_42]
  show J X (12, mx 1 [(10, 12, -1), (1, 2, 2), (6, 10, -1), (1, 2, 1), (4, 6, -1), (1, 2, 0), (2, 4, -1)] R, 10, 1218) 45 [vA 1] [vA 10, vA 1] V
  refine j_putM (k0 := 1) hX ⟨by decide, by decide⟩ (by decide) rfl fn_X4_35 rfl rfl hI dX4_init_45 ?_
  show J X (12, mx 1 [(1, 2, 3), (10, 12, -1), (1, 2, 2), (6, 10, -1), (1, 2, 1), (4, 6, -1), (1, 2, 0), (2, 4, -1)] R, 10, 1218) 48 [vA 1] [] V
  refine j_al0 hX dX4_init_48 rfl ?_
  refine j_sipush hX dX4_init_49 (by decide) ⟨by decide, by decide⟩ ?_
  refine j_newarr (n := 12) (t := 1) (len := 216) (ty := .int) hX (by decide) rfl rfl ac_int (Or.inl ⟨rfl, rfl⟩) rfl (by decide) (fun j => by exact hz 12 (by decide) j) (by rw [hcl9]; decide) (by rw [hsl9]; decide) dX4_init_52 ?_
  show J X (13, mx 1 [(1, 2, 3), (10, 12, -1), (1, 2, 2), (6, 10, -1), (1, 2, 1), (4, 6, -1), (1, 2, 0), (2, 4, -1)] R, 11, 1434) 54 [vA 1] [vA 12, vA 1] V
  refine j_putM (k0 := 1) hX ⟨by decide, by decide⟩ (by decide) rfl fn_X4_39 rfl rfl hI dX4_init_54 ?_
  show J X (13, mx 1 [(1, 2, 4), (1, 2, 3), (10, 12, -1), (1, 2, 2), (6, 10, -1), (1, 2, 1), (4, 6, -1), (1, 2, 0), (2, 4, -1)] R, 11, 1434) 57 [vA 1] [] V
  refine j_al0 hX dX4_init_57 rfl ?_
  refine j_iconst hX dX4_init_58 ⟨by decide, by decide⟩ ?_
  refine j_putN hX fp_X4_43 rfl ⟨by decide, by decide⟩ rfl dX4_init_59 ?_
  show J X (13, mx 1 [(1, 2, 4), (1, 2, 3), (10, 12, -1), (1, 2, 2), (6, 10, -1), (1, 2, 1), (4, 6, -1), (1, 2, 0), (2, 4, -1)] R, 11, 1434) 62 [vA 1] [] (up V 1 6 (-1))
  refine j_end (k := 1) (by decide +kernel) ?_
  exact j_ret hR dX4_init_62 rfl
set_option maxHeartbeats 4000000 in
theorem okn_13 {V : VV} (hz : ∀ a : Int, 13 < a → ∀ j, V a j = 0) : OkN yX2_init cX2_init 1 1 20 13 15 1 36 V (fun V' => V' = V) := by
  refine OkN.intro (by decide +kernel) rfl (by decide) (fun X R hX hI hb hcl9 hsl9 hR hoV => ?_)
  show J X (14, mx 13 [] R, 0, 0) 0 [vA 13] [] V
  refine j_al0 hX dX2_init_0 rfl ?_
  refine j_objI hX oL_X2 rfl (by decide) (by decide) rfl dX2_init_1 ?_
  refine j_al0 hX dX2_init_4 rfl ?_
  refine j_bipush hX dX2_init_5 (by decide) ⟨by decide, by decide⟩ ?_
  refine j_newarr (n := 14) (t := 1) (len := 36) (ty := .int) hX (by decide) rfl rfl ac_int (Or.inl ⟨rfl, rfl⟩) rfl (by decide) (fun j => by exact hz 14 (by decide) j) (by rw [hcl9]; decide) (by rw [hsl9]; decide) dX2_init_7 ?_
  show J X (15, mx 13 [] R, 1, 36) 9 [vA 13] [vA 14, vA 13] V
  refine j_putM (k0 := 13) hX ⟨by decide, by decide⟩ (by decide) rfl fn_X2_9 rfl rfl hI dX2_init_9 ?_
  show J X (15, mx 13 [(13, 14, 0)] R, 1, 36) 12 [vA 13] [] V
  refine j_end (k := 13) (by decide +kernel) ?_
  exact j_ret hR dX2_init_12 rfl
set_option maxHeartbeats 4000000 in
theorem okn_15 {V : VV} (hz : ∀ a : Int, 15 < a → ∀ j, V a j = 0) : OkN yX8_init cX8_init 1 1 20 15 19 3 648 V (fun V' => V' = V) := by
  refine OkN.intro (by decide +kernel) rfl (by decide) (fun X R hX hI hb hcl9 hsl9 hR hoV => ?_)
  show J X (16, mx 15 [] R, 0, 0) 0 [vA 15] [] V
  refine j_al0 hX dX8_init_0 rfl ?_
  refine j_objI hX oL_X8 rfl (by decide) (by decide) rfl dX8_init_1 ?_
  refine j_al0 hX dX8_init_4 rfl ?_
  refine j_sipush hX dX8_init_5 (by decide) ⟨by decide, by decide⟩ ?_
  refine j_newarr (n := 16) (t := 1) (len := 216) (ty := .int) hX (by decide) rfl rfl ac_int (Or.inl ⟨rfl, rfl⟩) rfl (by decide) (fun j => by exact hz 16 (by decide) j) (by rw [hcl9]; decide) (by rw [hsl9]; decide) dX8_init_8 ?_
  show J X (17, mx 15 [] R, 1, 216) 10 [vA 15] [vA 16, vA 15] V
  refine j_putM (k0 := 15) hX ⟨by decide, by decide⟩ (by decide) rfl fn_X8_9 rfl rfl hI dX8_init_10 ?_
  show J X (17, mx 15 [(15, 16, 0)] R, 1, 216) 13 [vA 15] [] V
  refine j_al0 hX dX8_init_13 rfl ?_
  refine j_sipush hX dX8_init_14 (by decide) ⟨by decide, by decide⟩ ?_
  refine j_newarr (n := 17) (t := 2) (len := 216) (ty := .long) hX (by decide) rfl rfl ac_long (Or.inr (Or.inl ⟨rfl, rfl⟩)) rfl (by decide) (fun j => by exact hz 17 (by decide) j) (by rw [hcl9]; decide) (by rw [hsl9]; decide) dX8_init_17 ?_
  show J X (18, mx 15 [(15, 16, 0)] R, 2, 432) 19 [vA 15] [vA 17, vA 15] V
  refine j_putM (k0 := 15) hX ⟨by decide, by decide⟩ (by decide) rfl fn_X8_15 rfl rfl hI dX8_init_19 ?_
  show J X (18, mx 15 [(15, 16, 1), (15, 16, 0)] R, 2, 432) 22 [vA 15] [] V
  refine j_al0 hX dX8_init_22 rfl ?_
  refine j_sipush hX dX8_init_23 (by decide) ⟨by decide, by decide⟩ ?_
  refine j_newarr (n := 18) (t := 2) (len := 216) (ty := .long) hX (by decide) rfl rfl ac_long (Or.inr (Or.inl ⟨rfl, rfl⟩)) rfl (by decide) (fun j => by exact hz 18 (by decide) j) (by rw [hcl9]; decide) (by rw [hsl9]; decide) dX8_init_26 ?_
  show J X (19, mx 15 [(15, 16, 1), (15, 16, 0)] R, 3, 648) 28 [vA 15] [vA 18, vA 15] V
  refine j_putM (k0 := 15) hX ⟨by decide, by decide⟩ (by decide) rfl fn_X8_19 rfl rfl hI dX8_init_28 ?_
  show J X (19, mx 15 [(15, 16, 2), (15, 16, 1), (15, 16, 0)] R, 3, 648) 31 [vA 15] [] V
  refine j_end (k := 15) (by decide +kernel) ?_
  exact j_ret hR dX8_init_31 rfl
set_option maxHeartbeats 4000000 in
theorem okn_19 {V : VV} (hz : ∀ a : Int, 19 < a → ∀ j, V a j = 0) : OkN yX8_init cX8_init 1 1 20 19 23 3 648 V (fun V' => V' = V) := by
  refine OkN.intro (by decide +kernel) rfl (by decide) (fun X R hX hI hb hcl9 hsl9 hR hoV => ?_)
  show J X (20, mx 19 [] R, 0, 0) 0 [vA 19] [] V
  refine j_al0 hX dX8_init_0 rfl ?_
  refine j_objI hX oL_X8 rfl (by decide) (by decide) rfl dX8_init_1 ?_
  refine j_al0 hX dX8_init_4 rfl ?_
  refine j_sipush hX dX8_init_5 (by decide) ⟨by decide, by decide⟩ ?_
  refine j_newarr (n := 20) (t := 1) (len := 216) (ty := .int) hX (by decide) rfl rfl ac_int (Or.inl ⟨rfl, rfl⟩) rfl (by decide) (fun j => by exact hz 20 (by decide) j) (by rw [hcl9]; decide) (by rw [hsl9]; decide) dX8_init_8 ?_
  show J X (21, mx 19 [] R, 1, 216) 10 [vA 19] [vA 20, vA 19] V
  refine j_putM (k0 := 19) hX ⟨by decide, by decide⟩ (by decide) rfl fn_X8_9 rfl rfl hI dX8_init_10 ?_
  show J X (21, mx 19 [(19, 20, 0)] R, 1, 216) 13 [vA 19] [] V
  refine j_al0 hX dX8_init_13 rfl ?_
  refine j_sipush hX dX8_init_14 (by decide) ⟨by decide, by decide⟩ ?_
  refine j_newarr (n := 21) (t := 2) (len := 216) (ty := .long) hX (by decide) rfl rfl ac_long (Or.inr (Or.inl ⟨rfl, rfl⟩)) rfl (by decide) (fun j => by exact hz 21 (by decide) j) (by rw [hcl9]; decide) (by rw [hsl9]; decide) dX8_init_17 ?_
  show J X (22, mx 19 [(19, 20, 0)] R, 2, 432) 19 [vA 19] [vA 21, vA 19] V
  refine j_putM (k0 := 19) hX ⟨by decide, by decide⟩ (by decide) rfl fn_X8_15 rfl rfl hI dX8_init_19 ?_
  show J X (22, mx 19 [(19, 20, 1), (19, 20, 0)] R, 2, 432) 22 [vA 19] [] V
  refine j_al0 hX dX8_init_22 rfl ?_
  refine j_sipush hX dX8_init_23 (by decide) ⟨by decide, by decide⟩ ?_
  refine j_newarr (n := 22) (t := 2) (len := 216) (ty := .long) hX (by decide) rfl rfl ac_long (Or.inr (Or.inl ⟨rfl, rfl⟩)) rfl (by decide) (fun j => by exact hz 22 (by decide) j) (by rw [hcl9]; decide) (by rw [hsl9]; decide) dX8_init_26 ?_
  show J X (23, mx 19 [(19, 20, 1), (19, 20, 0)] R, 3, 648) 28 [vA 19] [vA 22, vA 19] V
  refine j_putM (k0 := 19) hX ⟨by decide, by decide⟩ (by decide) rfl fn_X8_19 rfl rfl hI dX8_init_28 ?_
  show J X (23, mx 19 [(19, 20, 2), (19, 20, 1), (19, 20, 0)] R, 3, 648) 31 [vA 19] [] V
  refine j_end (k := 19) (by decide +kernel) ?_
  exact j_ret hR dX8_init_31 rfl
set_option maxHeartbeats 4000000 in
theorem okn_23 {V : VV} (hz : ∀ a : Int, 23 < a → ∀ j, V a j = 0) : OkN yX7_init cX7_init 1 1 20 23 25 1 16 V (fun V' => V' = V) := by
  refine OkN.intro (by decide +kernel) rfl (by decide) (fun X R hX hI hb hcl9 hsl9 hR hoV => ?_)
  show J X (24, mx 23 [] R, 0, 0) 0 [vA 23] [] V
  refine j_al0 hX dX7_init_0 rfl ?_
  refine j_objI hX oL_X7 rfl (by decide) (by decide) rfl dX7_init_1 ?_
  refine j_al0 hX dX7_init_4 rfl ?_
  refine j_bipush hX dX7_init_5 (by decide) ⟨by decide, by decide⟩ ?_
  refine j_newarr (n := 24) (t := 1) (len := 16) (ty := .int) hX (by decide) rfl rfl ac_int (Or.inl ⟨rfl, rfl⟩) rfl (by decide) (fun j => by exact hz 24 (by decide) j) (by rw [hcl9]; decide) (by rw [hsl9]; decide) dX7_init_7 ?_
  show J X (25, mx 23 [] R, 1, 16) 9 [vA 23] [vA 24, vA 23] V
  refine j_putM (k0 := 23) hX ⟨by decide, by decide⟩ (by decide) rfl fn_X7_9 rfl rfl hI dX7_init_9 ?_
  show J X (25, mx 23 [(23, 24, 0)] R, 1, 16) 12 [vA 23] [] V
  refine j_end (k := 23) (by decide +kernel) ?_
  exact j_ret hR dX7_init_12 rfl
set_option maxHeartbeats 4000000 in
theorem okn_25 {V : VV} (hz : ∀ a : Int, 25 < a → ∀ j, V a j = 0) : OkN yX7_init cX7_init 1 1 20 25 27 1 16 V (fun V' => V' = V) := by
  refine OkN.intro (by decide +kernel) rfl (by decide) (fun X R hX hI hb hcl9 hsl9 hR hoV => ?_)
  show J X (26, mx 25 [] R, 0, 0) 0 [vA 25] [] V
  refine j_al0 hX dX7_init_0 rfl ?_
  refine j_objI hX oL_X7 rfl (by decide) (by decide) rfl dX7_init_1 ?_
  refine j_al0 hX dX7_init_4 rfl ?_
  refine j_bipush hX dX7_init_5 (by decide) ⟨by decide, by decide⟩ ?_
  refine j_newarr (n := 26) (t := 1) (len := 16) (ty := .int) hX (by decide) rfl rfl ac_int (Or.inl ⟨rfl, rfl⟩) rfl (by decide) (fun j => by exact hz 26 (by decide) j) (by rw [hcl9]; decide) (by rw [hsl9]; decide) dX7_init_7 ?_
  show J X (27, mx 25 [] R, 1, 16) 9 [vA 25] [vA 26, vA 25] V
  refine j_putM (k0 := 25) hX ⟨by decide, by decide⟩ (by decide) rfl fn_X7_9 rfl rfl hI dX7_init_9 ?_
  show J X (27, mx 25 [(25, 26, 0)] R, 1, 16) 12 [vA 25] [] V
  refine j_end (k := 25) (by decide +kernel) ?_
  exact j_ret hR dX7_init_12 rfl
set_option maxHeartbeats 4000000 in
theorem okn_27 {V : VV} (hz : ∀ a : Int, 27 < a → ∀ j, V a j = 0) : OkN yX7_init cX7_init 1 1 20 27 29 1 16 V (fun V' => V' = V) := by
  refine OkN.intro (by decide +kernel) rfl (by decide) (fun X R hX hI hb hcl9 hsl9 hR hoV => ?_)
  show J X (28, mx 27 [] R, 0, 0) 0 [vA 27] [] V
  refine j_al0 hX dX7_init_0 rfl ?_
  refine j_objI hX oL_X7 rfl (by decide) (by decide) rfl dX7_init_1 ?_
  refine j_al0 hX dX7_init_4 rfl ?_
  refine j_bipush hX dX7_init_5 (by decide) ⟨by decide, by decide⟩ ?_
  refine j_newarr (n := 28) (t := 1) (len := 16) (ty := .int) hX (by decide) rfl rfl ac_int (Or.inl ⟨rfl, rfl⟩) rfl (by decide) (fun j => by exact hz 28 (by decide) j) (by rw [hcl9]; decide) (by rw [hsl9]; decide) dX7_init_7 ?_
  show J X (29, mx 27 [] R, 1, 16) 9 [vA 27] [vA 28, vA 27] V
  refine j_putM (k0 := 27) hX ⟨by decide, by decide⟩ (by decide) rfl fn_X7_9 rfl rfl hI dX7_init_9 ?_
  show J X (29, mx 27 [(27, 28, 0)] R, 1, 16) 12 [vA 27] [] V
  refine j_end (k := 27) (by decide +kernel) ?_
  exact j_ret hR dX7_init_12 rfl
set_option maxHeartbeats 4000000 in
theorem okn_29 {V : VV} (hz : ∀ a : Int, 29 < a → ∀ j, V a j = 0) : OkN yX7_init cX7_init 1 1 20 29 31 1 16 V (fun V' => V' = V) := by
  refine OkN.intro (by decide +kernel) rfl (by decide) (fun X R hX hI hb hcl9 hsl9 hR hoV => ?_)
  show J X (30, mx 29 [] R, 0, 0) 0 [vA 29] [] V
  refine j_al0 hX dX7_init_0 rfl ?_
  refine j_objI hX oL_X7 rfl (by decide) (by decide) rfl dX7_init_1 ?_
  refine j_al0 hX dX7_init_4 rfl ?_
  refine j_bipush hX dX7_init_5 (by decide) ⟨by decide, by decide⟩ ?_
  refine j_newarr (n := 30) (t := 1) (len := 16) (ty := .int) hX (by decide) rfl rfl ac_int (Or.inl ⟨rfl, rfl⟩) rfl (by decide) (fun j => by exact hz 30 (by decide) j) (by rw [hcl9]; decide) (by rw [hsl9]; decide) dX7_init_7 ?_
  show J X (31, mx 29 [] R, 1, 16) 9 [vA 29] [vA 30, vA 29] V
  refine j_putM (k0 := 29) hX ⟨by decide, by decide⟩ (by decide) rfl fn_X7_9 rfl rfl hI dX7_init_9 ?_
  show J X (31, mx 29 [(29, 30, 0)] R, 1, 16) 12 [vA 29] [] V
  refine j_end (k := 29) (by decide +kernel) ?_
  exact j_ret hR dX7_init_12 rfl
set_option maxHeartbeats 4000000 in
theorem okn_31 {V : VV} (hz : ∀ a : Int, 31 < a → ∀ j, V a j = 0) : OkN yX7_init cX7_init 1 1 20 31 33 1 16 V (fun V' => V' = V) := by
  refine OkN.intro (by decide +kernel) rfl (by decide) (fun X R hX hI hb hcl9 hsl9 hR hoV => ?_)
  show J X (32, mx 31 [] R, 0, 0) 0 [vA 31] [] V
  refine j_al0 hX dX7_init_0 rfl ?_
  refine j_objI hX oL_X7 rfl (by decide) (by decide) rfl dX7_init_1 ?_
  refine j_al0 hX dX7_init_4 rfl ?_
  refine j_bipush hX dX7_init_5 (by decide) ⟨by decide, by decide⟩ ?_
  refine j_newarr (n := 32) (t := 1) (len := 16) (ty := .int) hX (by decide) rfl rfl ac_int (Or.inl ⟨rfl, rfl⟩) rfl (by decide) (fun j => by exact hz 32 (by decide) j) (by rw [hcl9]; decide) (by rw [hsl9]; decide) dX7_init_7 ?_
  show J X (33, mx 31 [] R, 1, 16) 9 [vA 31] [vA 32, vA 31] V
  refine j_putM (k0 := 31) hX ⟨by decide, by decide⟩ (by decide) rfl fn_X7_9 rfl rfl hI dX7_init_9 ?_
  show J X (33, mx 31 [(31, 32, 0)] R, 1, 16) 12 [vA 31] [] V
  refine j_end (k := 31) (by decide +kernel) ?_
  exact j_ret hR dX7_init_12 rfl
theorem oL_X0 : Cond.methodLink RX0 3 objectInit ∈ Gw := (inT1 195 (by decide +kernel) rfl)
theorem fn_X0_9 : FN9 RX0 9 0 0 := ⟨TX0, 6, tyX0, rfl, rfl, by decide, wg0, (inT1 196 (by decide +kernel) rfl), tyX0_ok, nmX0, rfl, rfl, fun _ => rfl, fun _ => rfl⟩
theorem fn_X0_15 : FN9 RX0 15 0 1 := ⟨TX0, 6, tyX0, rfl, rfl, by decide, wg0, (inT1 197 (by decide +kernel) rfl), tyX0_ok, nmX0, rfl, rfl, fun _ => rfl, fun _ => rfl⟩
theorem fn_X0_18 : FN9 RX0 18 0 2 := ⟨TX0, 6, tyX0, rfl, rfl, by decide, wg0, (inT1 198 (by decide +kernel) rfl), tyX0_ok, nmX0, rfl, rfl, fun _ => rfl, fun _ => rfl⟩
theorem fn_X0_21 : FN9 RX0 21 0 3 := ⟨TX0, 6, tyX0, rfl, rfl, by decide, wg0, (inT1 199 (by decide +kernel) rfl), tyX0_ok, nmX0, rfl, rfl, fun _ => rfl, fun _ => rfl⟩
set_option maxHeartbeats 4000000 in
theorem okn_33 {V : VV} (hz : ∀ a : Int, 33 < a → ∀ j, V a j = 0) : OkN yX0_init cX0_init 1 1 20 33 38 4 190 V (fun V' => V' = V) := by
  refine OkN.intro (by decide +kernel) rfl (by decide) (fun X R hX hI hb hcl9 hsl9 hR hoV => ?_)
  show J X (34, mx 33 [] R, 0, 0) 0 [vA 33] [] V
  refine j_al0 hX dX0_init_0 rfl ?_
  refine j_objI hX oL_X0 rfl (by decide) (by decide) rfl dX0_init_1 ?_
  refine j_al0 hX dX0_init_4 rfl ?_
  refine j_sipush hX dX0_init_5 (by decide) ⟨by decide, by decide⟩ ?_
  refine j_newarr (n := 34) (t := 1) (len := 160) (ty := .int) hX (by decide) rfl rfl ac_int (Or.inl ⟨rfl, rfl⟩) rfl (by decide) (fun j => by exact hz 34 (by decide) j) (by rw [hcl9]; decide) (by rw [hsl9]; decide) dX0_init_8 ?_
  show J X (35, mx 33 [] R, 1, 160) 10 [vA 33] [vA 34, vA 33] V
  refine j_putM (k0 := 33) hX ⟨by decide, by decide⟩ (by decide) rfl fn_X0_9 rfl rfl hI dX0_init_10 ?_
  show J X (35, mx 33 [(33, 34, 0)] R, 1, 160) 13 [vA 33] [] V
  refine j_al0 hX dX0_init_13 rfl ?_
  refine j_bipush hX dX0_init_14 (by decide) ⟨by decide, by decide⟩ ?_
  refine j_newarr (n := 35) (t := 1) (len := 10) (ty := .int) hX (by decide) rfl rfl ac_int (Or.inl ⟨rfl, rfl⟩) rfl (by decide) (fun j => by exact hz 35 (by decide) j) (by rw [hcl9]; decide) (by rw [hsl9]; decide) dX0_init_16 ?_
  show J X (36, mx 33 [(33, 34, 0)] R, 2, 170) 18 [vA 33] [vA 35, vA 33] V
  refine j_putM (k0 := 33) hX ⟨by decide, by decide⟩ (by decide) rfl fn_X0_15 rfl rfl hI dX0_init_18 ?_
  show J X (36, mx 33 [(33, 34, 1), (33, 34, 0)] R, 2, 170) 21 [vA 33] [] V
  refine j_al0 hX dX0_init_21 rfl ?_
  refine j_bipush hX dX0_init_22 (by decide) ⟨by decide, by decide⟩ ?_
  refine j_newarr (n := 36) (t := 1) (len := 10) (ty := .int) hX (by decide) rfl rfl ac_int (Or.inl ⟨rfl, rfl⟩) rfl (by decide) (fun j => by exact hz 36 (by decide) j) (by rw [hcl9]; decide) (by rw [hsl9]; decide) dX0_init_24 ?_
  show J X (37, mx 33 [(33, 34, 1), (33, 34, 0)] R, 3, 180) 26 [vA 33] [vA 36, vA 33] V
  refine j_putM (k0 := 33) hX ⟨by decide, by decide⟩ (by decide) rfl fn_X0_18 rfl rfl hI dX0_init_26 ?_
  show J X (37, mx 33 [(33, 34, 2), (33, 34, 1), (33, 34, 0)] R, 3, 180) 29 [vA 33] [] V
  refine j_al0 hX dX0_init_29 rfl ?_
  refine j_bipush hX dX0_init_30 (by decide) ⟨by decide, by decide⟩ ?_
  refine j_newarr (n := 37) (t := 1) (len := 10) (ty := .int) hX (by decide) rfl rfl ac_int (Or.inl ⟨rfl, rfl⟩) rfl (by decide) (fun j => by exact hz 37 (by decide) j) (by rw [hcl9]; decide) (by rw [hsl9]; decide) dX0_init_32 ?_
  show J X (38, mx 33 [(33, 34, 2), (33, 34, 1), (33, 34, 0)] R, 4, 190) 34 [vA 33] [vA 37, vA 33] V
  refine j_putM (k0 := 33) hX ⟨by decide, by decide⟩ (by decide) rfl fn_X0_21 rfl rfl hI dX0_init_34 ?_
  show J X (38, mx 33 [(33, 34, 3), (33, 34, 2), (33, 34, 1), (33, 34, 0)] R, 4, 190) 37 [vA 33] [] V
  refine j_end (k := 33) (by decide +kernel) ?_
  exact j_ret hR dX0_init_37 rfl
theorem oL_X6 : Cond.methodLink RX6 3 objectInit ∈ Gw := (inT1 221 (by decide +kernel) rfl)
theorem fn_X6_9 : FN9 RX6 9 6 0 := ⟨TX6, 6, tyX6, rfl, rfl, by decide, wg6, (inT1 222 (by decide +kernel) rfl), tyX6_ok, nmX6, rfl, rfl, fun _ => rfl, fun _ => rfl⟩
theorem fn_X6_15 : FN9 RX6 15 6 1 := ⟨TX6, 6, tyX6, rfl, rfl, by decide, wg6, (inT1 223 (by decide +kernel) rfl), tyX6_ok, nmX6, rfl, rfl, fun _ => rfl, fun _ => rfl⟩
theorem fn_X6_18 : FN9 RX6 18 6 2 := ⟨TX6, 6, tyX6, rfl, rfl, by decide, wg6, (inT1 224 (by decide +kernel) rfl), tyX6_ok, nmX6, rfl, rfl, fun _ => rfl, fun _ => rfl⟩
set_option maxHeartbeats 4000000 in
theorem okn_38 {V : VV} (hz : ∀ a : Int, 38 < a → ∀ j, V a j = 0) : OkN yX6_init cX6_init 1 1 20 38 42 3 108 V (fun V' => V' = (up V 38 3 (-1))) := by
  refine OkN.intro (by decide +kernel) rfl (by decide) (fun X R hX hI hb hcl9 hsl9 hR hoV => ?_)
  show J X (39, mx 38 [] R, 0, 0) 0 [vA 38] [] V
  refine j_al0 hX dX6_init_0 rfl ?_
  refine j_objI hX oL_X6 rfl (by decide) (by decide) rfl dX6_init_1 ?_
  refine j_al0 hX dX6_init_4 rfl ?_
  refine j_bipush hX dX6_init_5 (by decide) ⟨by decide, by decide⟩ ?_
  refine j_newarr (n := 39) (t := 2) (len := 36) (ty := .long) hX (by decide) rfl rfl ac_long (Or.inr (Or.inl ⟨rfl, rfl⟩)) rfl (by decide) (fun j => by exact hz 39 (by decide) j) (by rw [hcl9]; decide) (by rw [hsl9]; decide) dX6_init_7 ?_
  show J X (40, mx 38 [] R, 1, 36) 9 [vA 38] [vA 39, vA 38] V
  refine j_putM (k0 := 38) hX ⟨by decide, by decide⟩ (by decide) rfl fn_X6_9 rfl rfl hI dX6_init_9 ?_
  show J X (40, mx 38 [(38, 39, 0)] R, 1, 36) 12 [vA 38] [] V
  refine j_al0 hX dX6_init_12 rfl ?_
  refine j_bipush hX dX6_init_13 (by decide) ⟨by decide, by decide⟩ ?_
  refine j_newarr (n := 40) (t := 2) (len := 36) (ty := .long) hX (by decide) rfl rfl ac_long (Or.inr (Or.inl ⟨rfl, rfl⟩)) rfl (by decide) (fun j => by exact hz 40 (by decide) j) (by rw [hcl9]; decide) (by rw [hsl9]; decide) dX6_init_15 ?_
  show J X (41, mx 38 [(38, 39, 0)] R, 2, 72) 17 [vA 38] [vA 40, vA 38] V
  refine j_putM (k0 := 38) hX ⟨by decide, by decide⟩ (by decide) rfl fn_X6_15 rfl rfl hI dX6_init_17 ?_
  show J X (41, mx 38 [(38, 39, 1), (38, 39, 0)] R, 2, 72) 20 [vA 38] [] V
  refine j_al0 hX dX6_init_20 rfl ?_
  refine j_bipush hX dX6_init_21 (by decide) ⟨by decide, by decide⟩ ?_
  refine j_newarr (n := 41) (t := 2) (len := 36) (ty := .long) hX (by decide) rfl rfl ac_long (Or.inr (Or.inl ⟨rfl, rfl⟩)) rfl (by decide) (fun j => by exact hz 41 (by decide) j) (by rw [hcl9]; decide) (by rw [hsl9]; decide) dX6_init_23 ?_
  show J X (42, mx 38 [(38, 39, 1), (38, 39, 0)] R, 3, 108) 25 [vA 38] [vA 41, vA 38] V
  refine j_putM (k0 := 38) hX ⟨by decide, by decide⟩ (by decide) rfl fn_X6_18 rfl rfl hI dX6_init_25 ?_
  show J X (42, mx 38 [(38, 39, 2), (38, 39, 1), (38, 39, 0)] R, 3, 108) 28 [vA 38] [] V
  refine j_al0 hX dX6_init_28 rfl ?_
  refine j_iconst hX dX6_init_29 ⟨by decide, by decide⟩ ?_
  refine j_putN hX fp_X6_21 rfl ⟨by decide, by decide⟩ rfl dX6_init_30 ?_
  show J X (42, mx 38 [(38, 39, 2), (38, 39, 1), (38, 39, 0)] R, 3, 108) 33 [vA 38] [] (up V 38 3 (-1))
  refine j_end (k := 38) (by decide +kernel) ?_
  exact j_ret hR dX6_init_33 rfl
theorem oL_X3 : Cond.methodLink RX3 3 objectInit ∈ Gw := (inT2 8 (by decide +kernel) rfl)
theorem fn_X3_9 : FN9 RX3 9 3 0 := ⟨TX3, 7, tyX3, rfl, rfl, by decide, wg3, (inT2 9 (by decide +kernel) rfl), tyX3_ok, nmX3, rfl, rfl, fun _ => rfl, fun _ => rfl⟩
set_option maxHeartbeats 4000000 in
theorem okn_42 {V : VV} (hz : ∀ a : Int, 42 < a → ∀ j, V a j = 0) : OkN yX3_init cX3_init 1 1 20 42 44 1 7776 V (fun V' => V' = (up V 42 1 (-1))) := by
  refine OkN.intro (by decide +kernel) rfl (by decide) (fun X R hX hI hb hcl9 hsl9 hR hoV => ?_)
  show J X (43, mx 42 [] R, 0, 0) 0 [vA 42] [] V
  refine j_al0 hX dX3_init_0 rfl ?_
  refine j_objI hX oL_X3 rfl (by decide) (by decide) rfl dX3_init_1 ?_
  refine j_al0 hX dX3_init_4 rfl ?_
  refine j_sipush hX dX3_init_5 (by decide) ⟨by decide, by decide⟩ ?_
  refine j_newarr (n := 43) (t := 1) (len := 7776) (ty := .int) hX (by decide) rfl rfl ac_int (Or.inl ⟨rfl, rfl⟩) rfl (by decide) (fun j => by exact hz 43 (by decide) j) (by rw [hcl9]; decide) (by rw [hsl9]; decide) dX3_init_8 ?_
  show J X (44, mx 42 [] R, 1, 7776) 10 [vA 42] [vA 43, vA 42] V
  refine j_putM (k0 := 42) hX ⟨by decide, by decide⟩ (by decide) rfl fn_X3_9 rfl rfl hI dX3_init_10 ?_
  show J X (44, mx 42 [(42, 43, 0)] R, 1, 7776) 13 [vA 42] [] V
  refine j_al0 hX dX3_init_13 rfl ?_
  refine j_iconst hX dX3_init_14 ⟨by decide, by decide⟩ ?_
  refine j_putN hX fp_X3_15 rfl ⟨by decide, by decide⟩ rfl dX3_init_15 ?_
  show J X (44, mx 42 [(42, 43, 0)] R, 1, 7776) 18 [vA 42] [] (up V 42 1 (-1))
  refine j_end (k := 42) (by decide +kernel) ?_
  exact j_ret hR dX3_init_18 rfl
theorem oL_X1 : Cond.methodLink RX1 3 objectInit ∈ Gw := (inT2 38 (by decide +kernel) rfl)
theorem fn_X1_9 : FN9 RX1 9 1 0 := ⟨TX1, 7, tyX1, rfl, rfl, by decide, wg1, (inT2 39 (by decide +kernel) rfl), tyX1_ok, nmX1, rfl, rfl, fun _ => rfl, fun _ => rfl⟩
theorem fn_X1_15 : FN9 RX1 15 1 1 := ⟨TX1, 7, tyX1, rfl, rfl, by decide, wg1, (inT2 40 (by decide +kernel) rfl), tyX1_ok, nmX1, rfl, rfl, fun _ => rfl, fun _ => rfl⟩
theorem fn_X1_18 : FN9 RX1 18 1 2 := ⟨TX1, 7, tyX1, rfl, rfl, by decide, wg1, (inT2 41 (by decide +kernel) rfl), tyX1_ok, nmX1, rfl, rfl, fun _ => rfl, fun _ => rfl⟩
theorem fn_X1_21 : FN9 RX1 21 1 3 := ⟨TX1, 7, tyX1, rfl, rfl, by decide, wg1, (inT2 42 (by decide +kernel) rfl), tyX1_ok, nmX1, rfl, rfl, fun _ => rfl, fun _ => rfl⟩
set_option maxHeartbeats 4000000 in
theorem okn_44 {V : VV} (hz : ∀ a : Int, 44 < a → ∀ j, V a j = 0) : OkN yX1_init cX1_init 1 1 20 44 49 4 114 V (fun V' => V' = (up V 44 4 (-1))) := by
  refine OkN.intro (by decide +kernel) rfl (by decide) (fun X R hX hI hb hcl9 hsl9 hR hoV => ?_)
  show J X (45, mx 44 [] R, 0, 0) 0 [vA 44] [] V
  refine j_al0 hX dX1_init_0 rfl ?_
  refine j_objI hX oL_X1 rfl (by decide) (by decide) rfl dX1_init_1 ?_
  refine j_al0 hX dX1_init_4 rfl ?_
  refine j_bipush hX dX1_init_5 (by decide) ⟨by decide, by decide⟩ ?_
  refine j_newarr (n := 45) (t := 2) (len := 36) (ty := .long) hX (by decide) rfl rfl ac_long (Or.inr (Or.inl ⟨rfl, rfl⟩)) rfl (by decide) (fun j => by exact hz 45 (by decide) j) (by rw [hcl9]; decide) (by rw [hsl9]; decide) dX1_init_7 ?_
  show J X (46, mx 44 [] R, 1, 36) 9 [vA 44] [vA 45, vA 44] V
  refine j_putM (k0 := 44) hX ⟨by decide, by decide⟩ (by decide) rfl fn_X1_9 rfl rfl hI dX1_init_9 ?_
  show J X (46, mx 44 [(44, 45, 0)] R, 1, 36) 12 [vA 44] [] V
  refine j_al0 hX dX1_init_12 rfl ?_
  refine j_bipush hX dX1_init_13 (by decide) ⟨by decide, by decide⟩ ?_
  refine j_newarr (n := 46) (t := 2) (len := 6) (ty := .long) hX (by decide) rfl rfl ac_long (Or.inr (Or.inl ⟨rfl, rfl⟩)) rfl (by decide) (fun j => by exact hz 46 (by decide) j) (by rw [hcl9]; decide) (by rw [hsl9]; decide) dX1_init_15 ?_
  show J X (47, mx 44 [(44, 45, 0)] R, 2, 42) 17 [vA 44] [vA 46, vA 44] V
  refine j_putM (k0 := 44) hX ⟨by decide, by decide⟩ (by decide) rfl fn_X1_15 rfl rfl hI dX1_init_17 ?_
  show J X (47, mx 44 [(44, 45, 1), (44, 45, 0)] R, 2, 42) 20 [vA 44] [] V
  refine j_al0 hX dX1_init_20 rfl ?_
  refine j_bipush hX dX1_init_21 (by decide) ⟨by decide, by decide⟩ ?_
  refine j_newarr (n := 47) (t := 2) (len := 36) (ty := .long) hX (by decide) rfl rfl ac_long (Or.inr (Or.inl ⟨rfl, rfl⟩)) rfl (by decide) (fun j => by exact hz 47 (by decide) j) (by rw [hcl9]; decide) (by rw [hsl9]; decide) dX1_init_23 ?_
  show J X (48, mx 44 [(44, 45, 1), (44, 45, 0)] R, 3, 78) 25 [vA 44] [vA 47, vA 44] V
  refine j_putM (k0 := 44) hX ⟨by decide, by decide⟩ (by decide) rfl fn_X1_18 rfl rfl hI dX1_init_25 ?_
  show J X (48, mx 44 [(44, 45, 2), (44, 45, 1), (44, 45, 0)] R, 3, 78) 28 [vA 44] [] V
  refine j_al0 hX dX1_init_28 rfl ?_
  refine j_bipush hX dX1_init_29 (by decide) ⟨by decide, by decide⟩ ?_
  refine j_newarr (n := 48) (t := 2) (len := 36) (ty := .long) hX (by decide) rfl rfl ac_long (Or.inr (Or.inl ⟨rfl, rfl⟩)) rfl (by decide) (fun j => by exact hz 48 (by decide) j) (by rw [hcl9]; decide) (by rw [hsl9]; decide) dX1_init_31 ?_
  show J X (49, mx 44 [(44, 45, 2), (44, 45, 1), (44, 45, 0)] R, 4, 114) 33 [vA 44] [vA 48, vA 44] V
  refine j_putM (k0 := 44) hX ⟨by decide, by decide⟩ (by decide) rfl fn_X1_21 rfl rfl hI dX1_init_33 ?_
  show J X (49, mx 44 [(44, 45, 3), (44, 45, 2), (44, 45, 1), (44, 45, 0)] R, 4, 114) 36 [vA 44] [] V
  refine j_al0 hX dX1_init_36 rfl ?_
  refine j_iconst hX dX1_init_37 ⟨by decide, by decide⟩ ?_
  refine j_putN hX fp_X1_24 rfl ⟨by decide, by decide⟩ rfl dX1_init_38 ?_
  show J X (49, mx 44 [(44, 45, 3), (44, 45, 2), (44, 45, 1), (44, 45, 0)] R, 4, 114) 41 [vA 44] [] (up V 44 4 (-1))
  refine j_end (k := 44) (by decide +kernel) ?_
  exact j_ret hR dX1_init_41 rfl
theorem oL_X10 : Cond.methodLink RX10 3 objectInit ∈ Gw := (inT2 67 (by decide +kernel) rfl)
theorem fn_X10_9 : FN9 RX10 9 10 0 := ⟨TX10, 3, tyX10, rfl, rfl, by decide, wg10, (inT2 68 (by decide +kernel) rfl), tyX10_ok, nmX10, rfl, rfl, fun _ => rfl, fun _ => rfl⟩
theorem fn_X10_15 : FN9 RX10 15 10 1 := ⟨TX10, 3, tyX10, rfl, rfl, by decide, wg10, (inT2 69 (by decide +kernel) rfl), tyX10_ok, nmX10, rfl, rfl, fun _ => rfl, fun _ => rfl⟩
theorem fn_X10_18 : FN9 RX10 18 10 2 := ⟨TX10, 3, tyX10, rfl, rfl, by decide, wg10, (inT2 70 (by decide +kernel) rfl), tyX10_ok, nmX10, rfl, rfl, fun _ => rfl, fun _ => rfl⟩
set_option maxHeartbeats 4000000 in
theorem okn_49 {V : VV} (hz : ∀ a : Int, 49 < a → ∀ j, V a j = 0) : OkN yX10_init cX10_init 1 1 20 49 53 3 89 V (fun V' => V' = V) := by
  refine OkN.intro (by decide +kernel) rfl (by decide) (fun X R hX hI hb hcl9 hsl9 hR hoV => ?_)
  show J X (50, mx 49 [] R, 0, 0) 0 [vA 49] [] V
  refine j_al0 hX dX10_init_0 rfl ?_
  refine j_objI hX oL_X10 rfl (by decide) (by decide) rfl dX10_init_1 ?_
  refine j_al0 hX dX10_init_4 rfl ?_
  refine j_bipush hX dX10_init_5 (by decide) ⟨by decide, by decide⟩ ?_
  refine j_newarr (n := 50) (t := 2) (len := 36) (ty := .long) hX (by decide) rfl rfl ac_long (Or.inr (Or.inl ⟨rfl, rfl⟩)) rfl (by decide) (fun j => by exact hz 50 (by decide) j) (by rw [hcl9]; decide) (by rw [hsl9]; decide) dX10_init_7 ?_
  show J X (51, mx 49 [] R, 1, 36) 9 [vA 49] [vA 50, vA 49] V
  refine j_putM (k0 := 49) hX ⟨by decide, by decide⟩ (by decide) rfl fn_X10_9 rfl rfl hI dX10_init_9 ?_
  show J X (51, mx 49 [(49, 50, 0)] R, 1, 36) 12 [vA 49] [] V
  refine j_al0 hX dX10_init_12 rfl ?_
  refine j_bipush hX dX10_init_13 (by decide) ⟨by decide, by decide⟩ ?_
  refine j_newarr (n := 51) (t := 2) (len := 36) (ty := .long) hX (by decide) rfl rfl ac_long (Or.inr (Or.inl ⟨rfl, rfl⟩)) rfl (by decide) (fun j => by exact hz 51 (by decide) j) (by rw [hcl9]; decide) (by rw [hsl9]; decide) dX10_init_15 ?_
  show J X (52, mx 49 [(49, 50, 0)] R, 2, 72) 17 [vA 49] [vA 51, vA 49] V
  refine j_putM (k0 := 49) hX ⟨by decide, by decide⟩ (by decide) rfl fn_X10_15 rfl rfl hI dX10_init_17 ?_
  show J X (52, mx 49 [(49, 50, 1), (49, 50, 0)] R, 2, 72) 20 [vA 49] [] V
  refine j_al0 hX dX10_init_20 rfl ?_
  refine j_bipush hX dX10_init_21 (by decide) ⟨by decide, by decide⟩ ?_
  refine j_newarr (n := 52) (t := 2) (len := 17) (ty := .long) hX (by decide) rfl rfl ac_long (Or.inr (Or.inl ⟨rfl, rfl⟩)) rfl (by decide) (fun j => by exact hz 52 (by decide) j) (by rw [hcl9]; decide) (by rw [hsl9]; decide) dX10_init_23 ?_
  show J X (53, mx 49 [(49, 50, 1), (49, 50, 0)] R, 3, 89) 25 [vA 49] [vA 52, vA 49] V
  refine j_putM (k0 := 49) hX ⟨by decide, by decide⟩ (by decide) rfl fn_X10_18 rfl rfl hI dX10_init_25 ?_
  show J X (53, mx 49 [(49, 50, 2), (49, 50, 1), (49, 50, 0)] R, 3, 89) 28 [vA 49] [] V
  refine j_end (k := 49) (by decide +kernel) ?_
  exact j_ret hR dX10_init_28 rfl
theorem oL_X5 : Cond.methodLink RX5 3 objectInit ∈ Gw := (inT2 83 (by decide +kernel) rfl)
theorem fn_X5_9 : FN9 RX5 9 5 0 := ⟨TX5, 3, tyX5, rfl, rfl, by decide, wg5, (inT2 84 (by decide +kernel) rfl), tyX5_ok, nmX5, rfl, rfl, fun _ => rfl, fun _ => rfl⟩
set_option maxHeartbeats 4000000 in
theorem okn_53 {V : VV} (hz : ∀ a : Int, 53 < a → ∀ j, V a j = 0) : OkN yX5_init cX5_init 1 1 20 53 55 1 1001 V (fun V' => V' = V) := by
  refine OkN.intro (by decide +kernel) rfl (by decide) (fun X R hX hI hb hcl9 hsl9 hR hoV => ?_)
  show J X (54, mx 53 [] R, 0, 0) 0 [vA 53] [] V
  refine j_al0 hX dX5_init_0 rfl ?_
  refine j_objI hX oL_X5 rfl (by decide) (by decide) rfl dX5_init_1 ?_
  refine j_al0 hX dX5_init_4 rfl ?_
  refine j_sipush hX dX5_init_5 (by decide) ⟨by decide, by decide⟩ ?_
  refine j_newarr (n := 54) (t := 2) (len := 1001) (ty := .long) hX (by decide) rfl rfl ac_long (Or.inr (Or.inl ⟨rfl, rfl⟩)) rfl (by decide) (fun j => by exact hz 54 (by decide) j) (by rw [hcl9]; decide) (by rw [hsl9]; decide) dX5_init_8 ?_
  show J X (55, mx 53 [] R, 1, 1001) 10 [vA 53] [vA 54, vA 53] V
  refine j_putM (k0 := 53) hX ⟨by decide, by decide⟩ (by decide) rfl fn_X5_9 rfl rfl hI dX5_init_10 ?_
  show J X (55, mx 53 [(53, 54, 0)] R, 1, 1001) 13 [vA 53] [] V
  refine j_end (k := 53) (by decide +kernel) ?_
  exact j_ret hR dX5_init_13 rfl
