/-! the law's loop, out of an invariant; its start -/
def swT : List Nat := [224, 328, 384, 428, 441, 454, 467, 535, 603, 659, 672, 752, 765, 821, 834, 875, 888, 980, 993, 1006, 1050, 1106, 1162, 1175, 1254, 1321, 1334, 1390, 1403, 1444, 1458, 1514, 1570, 1625, 1680, 1736, 1792, 1860, 1916, 1941, 1997, 2053]
def STEP (X : Cx) (LKP : Int → VV → Prop) : Prop := ∀ (t : Int) (V : VV) (i : Int) (c s : Nat), LKP t V → 0 ≤ t → t ≤ 600 → (0 ≤ i ∧ i + 5 < yLn (cY X)) → (c + 1 ≤ (cR X).cells ∧ s + 6 ≤ (cR X).slots) →
  (∀ V', LKP (t + 1) V' → J X (GT (c + 1) (s + 6)) 2097 (ls9 i) [] V') → ∀ k : Nat, k < 42 → J X (GT c s) (swT.getD k 0) (ls9 i) [] V
theorem law_head {X : Cx} {V : VV} {i : Int} {c s : Nat} (hX : Good X RL cL_law 9 13 466) (hR9 : LX X) (hi : 0 ≤ i ∧ i ≤ 4000) (kx : J X (GT c s) 2103 (ls9 i) [] V) (kc : i + 5 < yLn (cY X) → ∀ k : Nat, k < 42 → J X (GT c s) (swT.getD k 0) (ls9 i) [] V) (kd9 : i + 5 < yLn (cY X) → J X (GT c s) 2097 (ls9 i) [] V) : J X (GT c s) 23 (ls9 i) [] V := by
  have h9 := hR9.2.2
  refine j_il4 hX dL_law_23 ?_
  refine j_al0 hX dL_law_25 rfl ?_
  refine j_slen hX dL_law_26 (by omega) ?_
  refine j_bipush hX dL_law_27 (by decide) ⟨by decide, by decide⟩ ?_
  refine j_isub hX dL_law_29 (by omega) ?_
  refine j_icmp_gt (tgt := 2103) hX dL_law_30 (by decide) (fun _ => kx) (fun h => ?_)
  have h5 : i + 5 < yLn (cY X) := by omega
  refine j_al0 hX dL_law_33 rfl ?_
  refine j_il4 hX dL_law_34 ?_
  refine j_script hX dL_law_36 (by omega) ?_
  refine j_bipush hX dL_law_37 (by decide) ⟨by decide, by decide⟩ ?_
  refine j_iand hX dL_law_39 ?_
  generalize band 32 _ 63 = z
  by_cases hz : 0 ≤ z ∧ z ≤ 41
  · obtain ⟨n, rfl⟩ : ∃ n : Nat, z = n := ⟨z.toNat, by omega⟩
    have hk := kc h5
    rcases (by omega : n = 0 ∨ n = 1 ∨ n = 2 ∨ n = 3 ∨ n = 4 ∨ n = 5 ∨ n = 6 ∨ n = 7 ∨ n = 8 ∨ n = 9 ∨ n = 10 ∨ n = 11 ∨ n = 12 ∨ n = 13 ∨ n = 14 ∨ n = 15 ∨ n = 16 ∨ n = 17 ∨ n = 18 ∨ n = 19 ∨ n = 20 ∨ n = 21 ∨ n = 22 ∨ n = 23 ∨ n = 24 ∨ n = 25 ∨ n = 26 ∨ n = 27 ∨ n = 28 ∨ n = 29 ∨ n = 30 ∨ n = 31 ∨ n = 32 ∨ n = 33 ∨ n = 34 ∨ n = 35 ∨ n = 36 ∨ n = 37 ∨ n = 38 ∨ n = 39 ∨ n = 40 ∨ n = 41) with rfl | rfl | rfl | rfl | rfl | rfl | rfl | rfl | rfl | rfl | rfl | rfl | rfl | rfl | rfl | rfl | rfl | rfl | rfl | rfl | rfl | rfl | rfl | rfl | rfl | rfl | rfl | rfl | rfl | rfl | rfl | rfl | rfl | rfl | rfl | rfl | rfl | rfl | rfl | rfl | rfl | rfl
    · exact j_tabIn (off := 184) (tgt := 224) hX dL_law_40 (by decide) rfl (by decide) (hk 0 (by decide))
    · exact j_tabIn (off := 288) (tgt := 328) hX dL_law_40 (by decide) rfl (by decide) (hk 1 (by decide))
    · exact j_tabIn (off := 344) (tgt := 384) hX dL_law_40 (by decide) rfl (by decide) (hk 2 (by decide))
    · exact j_tabIn (off := 388) (tgt := 428) hX dL_law_40 (by decide) rfl (by decide) (hk 3 (by decide))
    · exact j_tabIn (off := 401) (tgt := 441) hX dL_law_40 (by decide) rfl (by decide) (hk 4 (by decide))
    · exact j_tabIn (off := 414) (tgt := 454) hX dL_law_40 (by decide) rfl (by decide) (hk 5 (by decide))
    · exact j_tabIn (off := 427) (tgt := 467) hX dL_law_40 (by decide) rfl (by decide) (hk 6 (by decide))
    · exact j_tabIn (off := 495) (tgt := 535) hX dL_law_40 (by decide) rfl (by decide) (hk 7 (by decide))
    · exact j_tabIn (off := 563) (tgt := 603) hX dL_law_40 (by decide) rfl (by decide) (hk 8 (by decide))
    · exact j_tabIn (off := 619) (tgt := 659) hX dL_law_40 (by decide) rfl (by decide) (hk 9 (by decide))
    · exact j_tabIn (off := 632) (tgt := 672) hX dL_law_40 (by decide) rfl (by decide) (hk 10 (by decide))
    · exact j_tabIn (off := 712) (tgt := 752) hX dL_law_40 (by decide) rfl (by decide) (hk 11 (by decide))
    · exact j_tabIn (off := 725) (tgt := 765) hX dL_law_40 (by decide) rfl (by decide) (hk 12 (by decide))
    · exact j_tabIn (off := 781) (tgt := 821) hX dL_law_40 (by decide) rfl (by decide) (hk 13 (by decide))
    · exact j_tabIn (off := 794) (tgt := 834) hX dL_law_40 (by decide) rfl (by decide) (hk 14 (by decide))
    · exact j_tabIn (off := 835) (tgt := 875) hX dL_law_40 (by decide) rfl (by decide) (hk 15 (by decide))
    · exact j_tabIn (off := 848) (tgt := 888) hX dL_law_40 (by decide) rfl (by decide) (hk 16 (by decide))
    · exact j_tabIn (off := 940) (tgt := 980) hX dL_law_40 (by decide) rfl (by decide) (hk 17 (by decide))
    · exact j_tabIn (off := 953) (tgt := 993) hX dL_law_40 (by decide) rfl (by decide) (hk 18 (by decide))
    · exact j_tabIn (off := 966) (tgt := 1006) hX dL_law_40 (by decide) rfl (by decide) (hk 19 (by decide))
    · exact j_tabIn (off := 1010) (tgt := 1050) hX dL_law_40 (by decide) rfl (by decide) (hk 20 (by decide))
    · exact j_tabIn (off := 1066) (tgt := 1106) hX dL_law_40 (by decide) rfl (by decide) (hk 21 (by decide))
    · exact j_tabIn (off := 1122) (tgt := 1162) hX dL_law_40 (by decide) rfl (by decide) (hk 22 (by decide))
    · exact j_tabIn (off := 1135) (tgt := 1175) hX dL_law_40 (by decide) rfl (by decide) (hk 23 (by decide))
    · exact j_tabIn (off := 1214) (tgt := 1254) hX dL_law_40 (by decide) rfl (by decide) (hk 24 (by decide))
    · exact j_tabIn (off := 1281) (tgt := 1321) hX dL_law_40 (by decide) rfl (by decide) (hk 25 (by decide))
    · exact j_tabIn (off := 1294) (tgt := 1334) hX dL_law_40 (by decide) rfl (by decide) (hk 26 (by decide))
    · exact j_tabIn (off := 1350) (tgt := 1390) hX dL_law_40 (by decide) rfl (by decide) (hk 27 (by decide))
    · exact j_tabIn (off := 1363) (tgt := 1403) hX dL_law_40 (by decide) rfl (by decide) (hk 28 (by decide))
    · exact j_tabIn (off := 1404) (tgt := 1444) hX dL_law_40 (by decide) rfl (by decide) (hk 29 (by decide))
    · exact j_tabIn (off := 1418) (tgt := 1458) hX dL_law_40 (by decide) rfl (by decide) (hk 30 (by decide))
    · exact j_tabIn (off := 1474) (tgt := 1514) hX dL_law_40 (by decide) rfl (by decide) (hk 31 (by decide))
    · exact j_tabIn (off := 1530) (tgt := 1570) hX dL_law_40 (by decide) rfl (by decide) (hk 32 (by decide))
    · exact j_tabIn (off := 1585) (tgt := 1625) hX dL_law_40 (by decide) rfl (by decide) (hk 33 (by decide))
    · exact j_tabIn (off := 1640) (tgt := 1680) hX dL_law_40 (by decide) rfl (by decide) (hk 34 (by decide))
    · exact j_tabIn (off := 1696) (tgt := 1736) hX dL_law_40 (by decide) rfl (by decide) (hk 35 (by decide))
    · exact j_tabIn (off := 1752) (tgt := 1792) hX dL_law_40 (by decide) rfl (by decide) (hk 36 (by decide))
    · exact j_tabIn (off := 1820) (tgt := 1860) hX dL_law_40 (by decide) rfl (by decide) (hk 37 (by decide))
    · exact j_tabIn (off := 1876) (tgt := 1916) hX dL_law_40 (by decide) rfl (by decide) (hk 38 (by decide))
    · exact j_tabIn (off := 1901) (tgt := 1941) hX dL_law_40 (by decide) rfl (by decide) (hk 39 (by decide))
    · exact j_tabIn (off := 1957) (tgt := 1997) hX dL_law_40 (by decide) rfl (by decide) (hk 40 (by decide))
    · exact j_tabIn (off := 2013) (tgt := 2053) hX dL_law_40 (by decide) rfl (by decide) (hk 41 (by decide))
  · exact j_tabOut (tgt := 2097) hX dL_law_40 (by omega) (by decide) (kd9 h5)
theorem law_loop {X : Cx} {LKP : Int → VV → Prop} (hX : Good X RL cL_law 9 13 466) (hR9 : LX X) (hmono : ∀ t V, LKP t V → LKP (t + 1) V) (hstep : STEP X LKP) (kx : ∀ (V : VV) (i : Int) (c s : Nat), J X (GT c s) 2103 (ls9 i) [] V) :
    ∀ (f : Nat) (t : Int) (V : VV) (i : Int) (c s : Nat), LKP t V → 0 ≤ t → t + f ≤ 600 → 0 ≤ i → i ≤ 3078 → yLn (cY X) < i + 6 * f → (c + f ≤ (cR X).cells ∧ s + 6 * f ≤ (cR X).slots) → J X (GT c s) 23 (ls9 i) [] V := by
  intro f
  induction f with
  | zero =>
    intro t V i c s _ _ _ i0 i1 h _
    exact law_head hX hR9 ⟨i0, by omega⟩ (kx V i c s) (fun h5 => by omega) (fun h5 => by omega)
  | succ f ih =>
    intro t V i c s hL t0 t1 i0 i1 h hr
    have go : i + 5 < yLn (cY X) → ∀ V', LKP (t + 1) V' → J X (GT (c + 1) (s + 6)) 2097 (ls9 i) [] V' := fun h5 V' hV => by
      have h9 := hR9.2.2
      refine j_inc4 hX dL_law_2097 rfl (by omega) ?_
      refine j_goto (tgt := 23) hX dL_law_2100 (by decide) ?_
      exact ih (t + 1) V' (i + 6) (c + 1) (s + 6) hV (by omega) (by omega) (by omega) (by omega) (by omega) (by omega)
    refine law_head hX hR9 ⟨i0, by omega⟩ (kx V i c s) (fun h5 => hstep t V i c s hL t0 (by omega) ⟨i0, h5⟩ (by omega) (go h5)) (fun h5 => ?_)
    exact j_wid (by omega) (by omega) (by omega) (go h5 V (hmono t V hL))
theorem cl_L_8 : Cond.classLink RL 8 RX11 ∈ Gw := (inT1 27 (by decide +kernel) rfl)
theorem cl_L_105 : Cond.classLink RL 105 RX12 ∈ Gw := (inT7 2 (by decide +kernel) rfl)
theorem ln_L_104 : lkN RL 104 yX11_init cX11_init 1 := ⟨⟨Or.inl (inT1 29 (by decide +kernel) rfl), (inT1 1 (by decide +kernel) rfl), (inT1 31 (by decide +kernel) rfl), by decide, by decide, by decide +kernel⟩, (inT1 30 (by decide +kernel) rfl), rfl⟩
theorem ln_L_107 : lkN RL 107 yX12_init cX12_init 2 := ⟨⟨Or.inl (inT7 4 (by decide +kernel) rfl), (inT1 14 (by decide +kernel) rfl), (inT7 6 (by decide +kernel) rfl), by decide, by decide, by decide +kernel⟩, (inT7 5 (by decide +kernel) rfl), rfl⟩
abbrev V00 : VV := fun _ _ => 0
theorem okV00 : okV V00 := fun k j => ⟨fun _ => (show r32 0 by decide), fun _ => (show r64 0 by decide), fun _ => Or.inl rfl⟩
theorem sT_n {R : Int → Nat → Bool} {k n a : Int} {j : Nat} (h : ¬ (k ≤ a ∧ a < n)) (h2 : R a j = false) : sT R k n a j = false := by unfold sT; rw [if_neg h]; exact h2
theorem sT_y {R : Int → Nat → Bool} {k n a : Int} {j : Nat} (h : k ≤ a ∧ a < n) : sT R k n a j = true := by unfold sT; rw [if_pos h]
set_option maxHeartbeats 4000000 in
theorem law_walk0 {X : Cx} {LKP : Int → VV → Prop} (hX : Good X RL cL_law 9 13 466) (hR9 : LX X) (hrm : (cR X).cells = 601024 ∧ (cR X).slots = 7293034) (hmono : ∀ t V, LKP t V → LKP (t + 1) V) (hstep : STEP X LKP) (h0 : ∀ V1 V2, INC V1 → INM V1 V2 → LKP 0 V2) (kx : ∀ (V : VV) (i : Int) (c s : Nat), J X (GT c s) 2103 (ls9 i) [] V) :
    J X (0, fun _ _ => false, 0, 0) 0 [vP, vU, vU, vU, vU, vU, vU, vU, vU] [] V00 := by
  refine j_new (n := 0) (ci := 11) (N := 15) (ty := tyX11) hX (by decide) rfl rfl rfl wg11 tyX11_ok dv_X11 cl_L_8 in_X11 ii_X11 (fun _ => rfl) (fun _ => rfl) (by rw [hrm.1]; decide) (by rw [hrm.2]; decide) dL_law_0 ?_
  show J X (1, fun _ _ => false, 1, 15) 3 [vP, vU, vU, vU, vU, vU, vU, vU, vU] [vA 0] V00
  refine j_dup hX dL_law_3 rfl ?_
  refine j_callN (k := 0) (n2 := 55) (mc := 54) (ms := 12191) hX ln_L_104 (okn_0 (fun _ _ => rfl)) ⟨fun _ _ _ => rfl, fun e => absurd e (by decide)⟩ (by decide) (by decide) (Nat.le_of_ble_eq_true rfl) rfl ⟨by rw [hrm.1]; decide, by rw [hrm.2]; decide⟩ dL_law_4 (fun V1 h1 => ?_)
  have z1 : ∀ a : Int, 55 ≤ a → ∀ j, V1 a j = 0 := fun a ha j => h1.2.2.2.2.2.2.2.2.2.2.2.2 a j (by omega) (by omega) (by omega) (by omega) (by omega)
  show J X (55, sT (fun _ _ => false) 0 55, 55, 12206) 7 [vP, vU, vU, vU, vU, vU, vU, vU, vU] [vA 0] V1
  refine j_as1 hX dL_law_7 rfl rfl ?_
  refine j_new (n := 55) (ci := 12) (N := 55) (ty := tyX12) hX (by decide) rfl rfl rfl wg12 tyX12_ok dv_X12 cl_L_105 in_X12 ii_X12 (z1 55 (by decide)) (fun j => sT_n (by decide) rfl) (by rw [hrm.1]; decide) (by rw [hrm.2]; decide) dL_law_8 ?_
  show J X (56, sT (fun _ _ => false) 0 55, 56, 12261) 11 [vP, vA 0, vU, vU, vU, vU, vU, vU, vU] [vA 55] V1
  refine j_dup hX dL_law_11 rfl ?_
  refine j_callN (k := 55) (n2 := 87) (mc := 31) (ms := 67913) hX ln_L_107 (okn_55 z1) ⟨fun a j ha => sT_n (by have : (55 : Int) ≤ a := ha; omega) rfl, fun _ a j ha hb => sT_y ⟨ha, hb⟩⟩ (by decide) (by decide) (Nat.le_of_ble_eq_true rfl) rfl ⟨by rw [hrm.1]; decide, by rw [hrm.2]; decide⟩ dL_law_12 (fun V2 h2 => ?_)
  have z2 : ∀ j, V2 87 j = 0 := fun j => (h2.2.2.2.2.2.2.2.2.2.2.2.2.2.2 87 j (by decide)).trans (z1 87 (by decide) j)
  show J X (87, sT (sT (fun _ _ => false) 0 55) 55 87, 87, 80174) 15 [vP, vA 0, vU, vU, vU, vU, vU, vU, vU] [vA 55] V2
  refine j_as2 hX dL_law_15 rfl rfl ?_
  refine j_iconst hX dL_law_16 ⟨by decide, by decide⟩ ?_
  refine j_newarr (n := 87) (t := 2) (len := 1) (ty := .long) hX (by decide) rfl rfl ac_long (Or.inr (Or.inl ⟨rfl, rfl⟩)) rfl (by decide) z2 (by rw [hrm.1]; decide) (by rw [hrm.2]; decide) dL_law_17 ?_
  show J X (88, sT (sT (fun _ _ => false) 0 55) 55 87, 88, 80175) 19 [vP, vA 0, vA 55, vU, vU, vU, vU, vU, vU] [vA 87] V2
  refine j_as3 hX dL_law_19 rfl rfl ?_
  refine j_iconst hX dL_law_20 ⟨by decide, by decide⟩ ?_
  refine j_is4 hX dL_law_21 rfl ?_
  refine j_R (R' := fun _ _ => true) (fun a ci j ha hk _ => ?_) ?_
  · by_cases e1 : (55 : Int) ≤ a ∧ (a : Int) < 87
    · exact sT_y e1
    · by_cases e2 : (a : Int) < 55
      · show sT (sT (fun _ _ => false) 0 55) 55 87 a j = true
        rw [show sT (sT (fun _ _ => false) 0 55) 55 87 a j = sT (fun _ _ => false) 0 55 a j from if_neg e1]
        exact sT_y ⟨by omega, e2⟩
      · have e3 : a = 87 := by omega
        subst e3
        have h8 : (kd 87).1 = 0 := congrArg Prod.fst (show kd 87 = (0, ci) from hk)
        exact absurd h8 (by decide)
  · show J X (GT 88 80175) 23 (ls9 0) [] V2
    have h9 := hR9.2.2
    exact law_loop hX hR9 hmono hstep kx 513 0 V2 0 88 80175 (h0 V1 V2 h1 h2) (by decide) (by decide) (by decide) (by decide) (by omega) ⟨by rw [hrm.1]; decide, by rw [hrm.2]; decide⟩
