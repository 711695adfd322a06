theorem cmpN : ∀ x, x < 6 → ∀ y, y < 6 → gN 6 x y < 6 ∧ im3 ((gN 6 x y : Nat) : Int) 0 = im3 (x : Int) (im3 (y : Int) 0) ∧ im3 ((gN 6 x y : Nat) : Int) 1 = im3 (x : Int) (im3 (y : Int) 1) := by decide +kernel
theorem cmpJ : ∀ z, z < 6 → ∀ c, c < 6 → im3 ((z : Nat) : Int) 0 = im3 ((c : Nat) : Int) 0 → im3 ((z : Nat) : Int) 1 = im3 ((c : Nat) : Int) 1 → z = c := by decide +kernel
theorem cmp_ok {x y : Int} (hx : 0 ≤ x ∧ x < 6) (hy : 0 ≤ y ∧ y < 6) : (0 ≤ gM 6 x y ∧ gM 6 x y < 6) ∧ im3 (gM 6 x y) 0 = im3 x (im3 y 0) ∧ im3 (gM 6 x y) 1 = im3 x (im3 y 1) := by
  have h := cmpN x.toNat (by omega) y.toNat (by omega)
  rw [show ((x.toNat : Nat) : Int) = x by omega, show ((y.toNat : Nat) : Int) = y by omega] at h
  unfold gM
  exact ⟨by omega, h.2⟩
theorem cmp_u {z c : Int} (hz : 0 ≤ z ∧ z < 6) (hc : 0 ≤ c ∧ c < 6) (h0 : im3 z 0 = im3 c 0) (h1 : im3 z 1 = im3 c 1) : z = c := by
  have := cmpJ z.toNat (by omega) c.toNat (by omega) (by rw [show ((z.toNat : Nat) : Int) = z by omega, show ((c.toNat : Nat) : Int) = c by omega]; exact h0) (by rw [show ((z.toNat : Nat) : Int) = z by omega, show ((c.toNat : Nat) : Int) = c by omega]; exact h1)
  omega
theorem gO_t {q : Nat} {t : Int} (h : (t = 0 ∧ q ≤ 4) ∨ (t = 1 ∧ q = 5) ∨ (t = 2 ∧ q = 6)) : (q ≤ 4 → gO q = q + 2) ∧ (q = 5 → gO q = 4) ∧ (q = 6 → gO q = 6) := by
  refine ⟨fun h => ?_, fun h => ?_, fun h => ?_⟩
  · unfold gO; rw [if_pos h]
  · rw [h]; rfl
  · rw [h]; rfl
theorem gM_cyc {q : Nat} (hq : q < 7) (h : q ≤ 4) {x y : Int} (hx : 0 ≤ x ∧ x < gO q) (hy : 0 ≤ y ∧ y < gO q) : gM q x y = (x + y) % gO q := by
  have e : gO q = q + 2 := by unfold gO; rw [if_pos h]
  unfold gM gN
  rw [if_pos h, e]
  push_cast
  rw [show ((x.toNat : Nat) : Int) = x by omega, show ((y.toNat : Nat) : Int) = y by omega]
theorem klN : ∀ x, x < 4 → ∀ y, y < 4 → bxor 32 ((x : Nat) : Int) ((y : Nat) : Int) = ((gN 5 x y : Nat) : Int) := by decide +kernel
theorem gM_kl {q : Nat} (h : q = 5) {x y : Int} (hx : 0 ≤ x ∧ x < gO q) (hy : 0 ≤ y ∧ y < gO q) : gM q x y = bxor 32 x y := by
  subst h
  have e : gO 5 = 4 := rfl
  rw [e] at hx hy
  have := klN x.toNat (by omega) y.toNat (by omega)
  rw [show ((x.toNat : Nat) : Int) = x by omega, show ((y.toNat : Nat) : Int) = y by omega] at this
  exact this.symm
theorem ix_no {q : Nat} (hq : q < 7) {a b x y : Int} (ha : 0 ≤ a ∧ a < x) (hb : 0 ≤ b ∧ b < gO q) (hy : 0 ≤ y ∧ y < gO q) : ¬ (gO q : Int) * a + b = gO q * x + y := by
  intro e
  have h1 : (gO q : Int) * a + gO q ≤ gO q * x := by
    have := Int.mul_le_mul_of_nonneg_left (show a + 1 ≤ x by omega) (show 0 ≤ (gO q : Int) by omega)
    rw [Int.mul_add, Int.mul_one] at this
    exact this
  omega
set_option maxHeartbeats 4000000 in
theorem ok_X12_moved {V : VV} {x k : Int} (hx : 0 ≤ x ∧ x < 6) (hk : 0 ≤ k ∧ k < 3) : Ok NA yX12_moved cX12_moved 3 (some .int) 0 0 [vI x, vI k] V (pI (fun x9 V' => x9 = im3 x k ∧ V' = V)) := by
  refine Ok.intro (by decide +kernel) (Nat.le_of_ble_eq_true rfl) (fun X G hX hG hR hoa hoV => ?_)
  show J X G 0 [vI x, vI k, vU] [] V
  refine j_il0 hX dX12_moved_0 ?_
  refine j_if_ne (tgt := 9) hX dX12_moved_1 (by decide) (fun h_1 => ?_) (fun h_1 => ?_)
  · skip
    refine j_il0 hX dX12_moved_9 ?_
    refine j_iconst hX dX12_moved_10 ⟨by decide, by decide⟩ ?_
    refine j_icmp_ne (tgt := 19) hX dX12_moved_11 (by decide) (fun h_11 => ?_) (fun h_11 => ?_)
    · skip
      refine j_il0 hX dX12_moved_19 ?_
      refine j_iconst hX dX12_moved_20 ⟨by decide, by decide⟩ ?_
      refine j_icmp_ne (tgt := 29) hX dX12_moved_21 (by decide) (fun h_21 => ?_) (fun h_21 => ?_)
      · skip
        refine j_il0 hX dX12_moved_29 ?_
        refine j_iconst hX dX12_moved_30 ⟨by decide, by decide⟩ ?_
        refine j_icmp_ne (tgt := 39) hX dX12_moved_31 (by decide) (fun h_31 => ?_) (fun h_31 => ?_)
        · skip
          refine j_il0 hX dX12_moved_39 ?_
          refine j_iconst hX dX12_moved_40 ⟨by decide, by decide⟩ ?_
          refine j_icmp_ne (tgt := 50) hX dX12_moved_41 (by decide) (fun h_41 => ?_) (fun h_41 => ?_)
          · skip
            refine j_sipush hX dX12_moved_50 (by decide) ⟨by decide, by decide⟩ ?_
            refine j_is2 hX dX12_moved_53 rfl ?_
            refine j_il1 hX dX12_moved_54 ?_
            refine j_if_ne (tgt := 65) hX dX12_moved_55 (by decide) (fun h_55 => ?_) (fun h_55 => ?_)
            · skip
              refine j_il1 hX dX12_moved_65 ?_
              refine j_iconst hX dX12_moved_66 ⟨by decide, by decide⟩ ?_
              refine j_icmp_ne (tgt := 80) hX dX12_moved_67 (by decide) (fun h_67 => ?_) (fun h_67 => ?_)
              · skip
                refine j_il2 hX dX12_moved_80 ?_
                refine j_bipush hX dX12_moved_81 (by decide) ⟨by decide, by decide⟩ ?_
                refine j_irem hX dX12_moved_83 (by decide) (by decide) ?_
                exact j_retI hR dX12_moved_84 (by rcases (by omega : x = 0 ∨ x = 1 ∨ x = 2 ∨ x = 3 ∨ x = 4 ∨ x = 5) with rfl | rfl | rfl | rfl | rfl | rfl <;> rcases (by omega : k = 0 ∨ k = 1 ∨ k = 2) with rfl | rfl | rfl <;> first | (exfalso; omega) | exact ⟨by decide, rfl⟩)
              · skip
                refine j_il2 hX dX12_moved_70 ?_
                refine j_bipush hX dX12_moved_71 (by decide) ⟨by decide, by decide⟩ ?_
                refine j_idiv hX dX12_moved_73 (by decide) (by decide) ?_
                refine j_bipush hX dX12_moved_74 (by decide) ⟨by decide, by decide⟩ ?_
                refine j_irem hX dX12_moved_76 (by decide) (by decide) ?_
                refine j_goto (tgt := 84) hX dX12_moved_77 (by decide) ?_
                exact j_retI hR dX12_moved_84 (by rcases (by omega : x = 0 ∨ x = 1 ∨ x = 2 ∨ x = 3 ∨ x = 4 ∨ x = 5) with rfl | rfl | rfl | rfl | rfl | rfl <;> rcases (by omega : k = 0 ∨ k = 1 ∨ k = 2) with rfl | rfl | rfl <;> first | (exfalso; omega) | exact ⟨by decide, rfl⟩)
            · skip
              refine j_il2 hX dX12_moved_58 ?_
              refine j_bipush hX dX12_moved_59 (by decide) ⟨by decide, by decide⟩ ?_
              refine j_idiv hX dX12_moved_61 (by decide) (by decide) ?_
              refine j_goto (tgt := 84) hX dX12_moved_62 (by decide) ?_
              exact j_retI hR dX12_moved_84 (by rcases (by omega : x = 0 ∨ x = 1 ∨ x = 2 ∨ x = 3 ∨ x = 4 ∨ x = 5) with rfl | rfl | rfl | rfl | rfl | rfl <;> rcases (by omega : k = 0 ∨ k = 1 ∨ k = 2) with rfl | rfl | rfl <;> first | (exfalso; omega) | exact ⟨by decide, rfl⟩)
          · skip
            refine j_sipush hX dX12_moved_44 (by decide) ⟨by decide, by decide⟩ ?_
            refine j_goto (tgt := 53) hX dX12_moved_47 (by decide) ?_
            refine j_is2 hX dX12_moved_53 rfl ?_
            refine j_il1 hX dX12_moved_54 ?_
            refine j_if_ne (tgt := 65) hX dX12_moved_55 (by decide) (fun h_55 => ?_) (fun h_55 => ?_)
            · skip
              refine j_il1 hX dX12_moved_65 ?_
              refine j_iconst hX dX12_moved_66 ⟨by decide, by decide⟩ ?_
              refine j_icmp_ne (tgt := 80) hX dX12_moved_67 (by decide) (fun h_67 => ?_) (fun h_67 => ?_)
              · skip
                refine j_il2 hX dX12_moved_80 ?_
                refine j_bipush hX dX12_moved_81 (by decide) ⟨by decide, by decide⟩ ?_
                refine j_irem hX dX12_moved_83 (by decide) (by decide) ?_
                exact j_retI hR dX12_moved_84 (by rcases (by omega : x = 0 ∨ x = 1 ∨ x = 2 ∨ x = 3 ∨ x = 4 ∨ x = 5) with rfl | rfl | rfl | rfl | rfl | rfl <;> rcases (by omega : k = 0 ∨ k = 1 ∨ k = 2) with rfl | rfl | rfl <;> first | (exfalso; omega) | exact ⟨by decide, rfl⟩)
              · skip
                refine j_il2 hX dX12_moved_70 ?_
                refine j_bipush hX dX12_moved_71 (by decide) ⟨by decide, by decide⟩ ?_
                refine j_idiv hX dX12_moved_73 (by decide) (by decide) ?_
                refine j_bipush hX dX12_moved_74 (by decide) ⟨by decide, by decide⟩ ?_
                refine j_irem hX dX12_moved_76 (by decide) (by decide) ?_
                refine j_goto (tgt := 84) hX dX12_moved_77 (by decide) ?_
                exact j_retI hR dX12_moved_84 (by rcases (by omega : x = 0 ∨ x = 1 ∨ x = 2 ∨ x = 3 ∨ x = 4 ∨ x = 5) with rfl | rfl | rfl | rfl | rfl | rfl <;> rcases (by omega : k = 0 ∨ k = 1 ∨ k = 2) with rfl | rfl | rfl <;> first | (exfalso; omega) | exact ⟨by decide, rfl⟩)
            · skip
              refine j_il2 hX dX12_moved_58 ?_
              refine j_bipush hX dX12_moved_59 (by decide) ⟨by decide, by decide⟩ ?_
              refine j_idiv hX dX12_moved_61 (by decide) (by decide) ?_
              refine j_goto (tgt := 84) hX dX12_moved_62 (by decide) ?_
              exact j_retI hR dX12_moved_84 (by rcases (by omega : x = 0 ∨ x = 1 ∨ x = 2 ∨ x = 3 ∨ x = 4 ∨ x = 5) with rfl | rfl | rfl | rfl | rfl | rfl <;> rcases (by omega : k = 0 ∨ k = 1 ∨ k = 2) with rfl | rfl | rfl <;> first | (exfalso; omega) | exact ⟨by decide, rfl⟩)
        · skip
          refine j_bipush hX dX12_moved_34 (by decide) ⟨by decide, by decide⟩ ?_
          refine j_goto (tgt := 53) hX dX12_moved_36 (by decide) ?_
          refine j_is2 hX dX12_moved_53 rfl ?_
          refine j_il1 hX dX12_moved_54 ?_
          refine j_if_ne (tgt := 65) hX dX12_moved_55 (by decide) (fun h_55 => ?_) (fun h_55 => ?_)
          · skip
            refine j_il1 hX dX12_moved_65 ?_
            refine j_iconst hX dX12_moved_66 ⟨by decide, by decide⟩ ?_
            refine j_icmp_ne (tgt := 80) hX dX12_moved_67 (by decide) (fun h_67 => ?_) (fun h_67 => ?_)
            · skip
              refine j_il2 hX dX12_moved_80 ?_
              refine j_bipush hX dX12_moved_81 (by decide) ⟨by decide, by decide⟩ ?_
              refine j_irem hX dX12_moved_83 (by decide) (by decide) ?_
              exact j_retI hR dX12_moved_84 (by rcases (by omega : x = 0 ∨ x = 1 ∨ x = 2 ∨ x = 3 ∨ x = 4 ∨ x = 5) with rfl | rfl | rfl | rfl | rfl | rfl <;> rcases (by omega : k = 0 ∨ k = 1 ∨ k = 2) with rfl | rfl | rfl <;> first | (exfalso; omega) | exact ⟨by decide, rfl⟩)
            · skip
              refine j_il2 hX dX12_moved_70 ?_
              refine j_bipush hX dX12_moved_71 (by decide) ⟨by decide, by decide⟩ ?_
              refine j_idiv hX dX12_moved_73 (by decide) (by decide) ?_
              refine j_bipush hX dX12_moved_74 (by decide) ⟨by decide, by decide⟩ ?_
              refine j_irem hX dX12_moved_76 (by decide) (by decide) ?_
              refine j_goto (tgt := 84) hX dX12_moved_77 (by decide) ?_
              exact j_retI hR dX12_moved_84 (by rcases (by omega : x = 0 ∨ x = 1 ∨ x = 2 ∨ x = 3 ∨ x = 4 ∨ x = 5) with rfl | rfl | rfl | rfl | rfl | rfl <;> rcases (by omega : k = 0 ∨ k = 1 ∨ k = 2) with rfl | rfl | rfl <;> first | (exfalso; omega) | exact ⟨by decide, rfl⟩)
          · skip
            refine j_il2 hX dX12_moved_58 ?_
            refine j_bipush hX dX12_moved_59 (by decide) ⟨by decide, by decide⟩ ?_
            refine j_idiv hX dX12_moved_61 (by decide) (by decide) ?_
            refine j_goto (tgt := 84) hX dX12_moved_62 (by decide) ?_
            exact j_retI hR dX12_moved_84 (by rcases (by omega : x = 0 ∨ x = 1 ∨ x = 2 ∨ x = 3 ∨ x = 4 ∨ x = 5) with rfl | rfl | rfl | rfl | rfl | rfl <;> rcases (by omega : k = 0 ∨ k = 1 ∨ k = 2) with rfl | rfl | rfl <;> first | (exfalso; omega) | exact ⟨by decide, rfl⟩)
      · skip
        refine j_bipush hX dX12_moved_24 (by decide) ⟨by decide, by decide⟩ ?_
        refine j_goto (tgt := 53) hX dX12_moved_26 (by decide) ?_
        refine j_is2 hX dX12_moved_53 rfl ?_
        refine j_il1 hX dX12_moved_54 ?_
        refine j_if_ne (tgt := 65) hX dX12_moved_55 (by decide) (fun h_55 => ?_) (fun h_55 => ?_)
        · skip
          refine j_il1 hX dX12_moved_65 ?_
          refine j_iconst hX dX12_moved_66 ⟨by decide, by decide⟩ ?_
          refine j_icmp_ne (tgt := 80) hX dX12_moved_67 (by decide) (fun h_67 => ?_) (fun h_67 => ?_)
          · skip
            refine j_il2 hX dX12_moved_80 ?_
            refine j_bipush hX dX12_moved_81 (by decide) ⟨by decide, by decide⟩ ?_
            refine j_irem hX dX12_moved_83 (by decide) (by decide) ?_
            exact j_retI hR dX12_moved_84 (by rcases (by omega : x = 0 ∨ x = 1 ∨ x = 2 ∨ x = 3 ∨ x = 4 ∨ x = 5) with rfl | rfl | rfl | rfl | rfl | rfl <;> rcases (by omega : k = 0 ∨ k = 1 ∨ k = 2) with rfl | rfl | rfl <;> first | (exfalso; omega) | exact ⟨by decide, rfl⟩)
          · skip
            refine j_il2 hX dX12_moved_70 ?_
            refine j_bipush hX dX12_moved_71 (by decide) ⟨by decide, by decide⟩ ?_
            refine j_idiv hX dX12_moved_73 (by decide) (by decide) ?_
            refine j_bipush hX dX12_moved_74 (by decide) ⟨by decide, by decide⟩ ?_
            refine j_irem hX dX12_moved_76 (by decide) (by decide) ?_
            refine j_goto (tgt := 84) hX dX12_moved_77 (by decide) ?_
            exact j_retI hR dX12_moved_84 (by rcases (by omega : x = 0 ∨ x = 1 ∨ x = 2 ∨ x = 3 ∨ x = 4 ∨ x = 5) with rfl | rfl | rfl | rfl | rfl | rfl <;> rcases (by omega : k = 0 ∨ k = 1 ∨ k = 2) with rfl | rfl | rfl <;> first | (exfalso; omega) | exact ⟨by decide, rfl⟩)
        · skip
          refine j_il2 hX dX12_moved_58 ?_
          refine j_bipush hX dX12_moved_59 (by decide) ⟨by decide, by decide⟩ ?_
          refine j_idiv hX dX12_moved_61 (by decide) (by decide) ?_
          refine j_goto (tgt := 84) hX dX12_moved_62 (by decide) ?_
          exact j_retI hR dX12_moved_84 (by rcases (by omega : x = 0 ∨ x = 1 ∨ x = 2 ∨ x = 3 ∨ x = 4 ∨ x = 5) with rfl | rfl | rfl | rfl | rfl | rfl <;> rcases (by omega : k = 0 ∨ k = 1 ∨ k = 2) with rfl | rfl | rfl <;> first | (exfalso; omega) | exact ⟨by decide, rfl⟩)
    · skip
      refine j_bipush hX dX12_moved_14 (by decide) ⟨by decide, by decide⟩ ?_
      refine j_goto (tgt := 53) hX dX12_moved_16 (by decide) ?_
      refine j_is2 hX dX12_moved_53 rfl ?_
      refine j_il1 hX dX12_moved_54 ?_
      refine j_if_ne (tgt := 65) hX dX12_moved_55 (by decide) (fun h_55 => ?_) (fun h_55 => ?_)
      · skip
        refine j_il1 hX dX12_moved_65 ?_
        refine j_iconst hX dX12_moved_66 ⟨by decide, by decide⟩ ?_
        refine j_icmp_ne (tgt := 80) hX dX12_moved_67 (by decide) (fun h_67 => ?_) (fun h_67 => ?_)
        · skip
          refine j_il2 hX dX12_moved_80 ?_
          refine j_bipush hX dX12_moved_81 (by decide) ⟨by decide, by decide⟩ ?_
          refine j_irem hX dX12_moved_83 (by decide) (by decide) ?_
          exact j_retI hR dX12_moved_84 (by rcases (by omega : x = 0 ∨ x = 1 ∨ x = 2 ∨ x = 3 ∨ x = 4 ∨ x = 5) with rfl | rfl | rfl | rfl | rfl | rfl <;> rcases (by omega : k = 0 ∨ k = 1 ∨ k = 2) with rfl | rfl | rfl <;> first | (exfalso; omega) | exact ⟨by decide, rfl⟩)
        · skip
          refine j_il2 hX dX12_moved_70 ?_
          refine j_bipush hX dX12_moved_71 (by decide) ⟨by decide, by decide⟩ ?_
          refine j_idiv hX dX12_moved_73 (by decide) (by decide) ?_
          refine j_bipush hX dX12_moved_74 (by decide) ⟨by decide, by decide⟩ ?_
          refine j_irem hX dX12_moved_76 (by decide) (by decide) ?_
          refine j_goto (tgt := 84) hX dX12_moved_77 (by decide) ?_
          exact j_retI hR dX12_moved_84 (by rcases (by omega : x = 0 ∨ x = 1 ∨ x = 2 ∨ x = 3 ∨ x = 4 ∨ x = 5) with rfl | rfl | rfl | rfl | rfl | rfl <;> rcases (by omega : k = 0 ∨ k = 1 ∨ k = 2) with rfl | rfl | rfl <;> first | (exfalso; omega) | exact ⟨by decide, rfl⟩)
      · skip
        refine j_il2 hX dX12_moved_58 ?_
        refine j_bipush hX dX12_moved_59 (by decide) ⟨by decide, by decide⟩ ?_
        refine j_idiv hX dX12_moved_61 (by decide) (by decide) ?_
        refine j_goto (tgt := 84) hX dX12_moved_62 (by decide) ?_
        exact j_retI hR dX12_moved_84 (by rcases (by omega : x = 0 ∨ x = 1 ∨ x = 2 ∨ x = 3 ∨ x = 4 ∨ x = 5) with rfl | rfl | rfl | rfl | rfl | rfl <;> rcases (by omega : k = 0 ∨ k = 1 ∨ k = 2) with rfl | rfl | rfl <;> first | (exfalso; omega) | exact ⟨by decide, rfl⟩)
  · skip
    refine j_bipush hX dX12_moved_4 (by decide) ⟨by decide, by decide⟩ ?_
    refine j_goto (tgt := 53) hX dX12_moved_6 (by decide) ?_
    refine j_is2 hX dX12_moved_53 rfl ?_
    refine j_il1 hX dX12_moved_54 ?_
    refine j_if_ne (tgt := 65) hX dX12_moved_55 (by decide) (fun h_55 => ?_) (fun h_55 => ?_)
    · skip
      refine j_il1 hX dX12_moved_65 ?_
      refine j_iconst hX dX12_moved_66 ⟨by decide, by decide⟩ ?_
      refine j_icmp_ne (tgt := 80) hX dX12_moved_67 (by decide) (fun h_67 => ?_) (fun h_67 => ?_)
      · skip
        refine j_il2 hX dX12_moved_80 ?_
        refine j_bipush hX dX12_moved_81 (by decide) ⟨by decide, by decide⟩ ?_
        refine j_irem hX dX12_moved_83 (by decide) (by decide) ?_
        exact j_retI hR dX12_moved_84 (by rcases (by omega : x = 0 ∨ x = 1 ∨ x = 2 ∨ x = 3 ∨ x = 4 ∨ x = 5) with rfl | rfl | rfl | rfl | rfl | rfl <;> rcases (by omega : k = 0 ∨ k = 1 ∨ k = 2) with rfl | rfl | rfl <;> first | (exfalso; omega) | exact ⟨by decide, rfl⟩)
      · skip
        refine j_il2 hX dX12_moved_70 ?_
        refine j_bipush hX dX12_moved_71 (by decide) ⟨by decide, by decide⟩ ?_
        refine j_idiv hX dX12_moved_73 (by decide) (by decide) ?_
        refine j_bipush hX dX12_moved_74 (by decide) ⟨by decide, by decide⟩ ?_
        refine j_irem hX dX12_moved_76 (by decide) (by decide) ?_
        refine j_goto (tgt := 84) hX dX12_moved_77 (by decide) ?_
        exact j_retI hR dX12_moved_84 (by rcases (by omega : x = 0 ∨ x = 1 ∨ x = 2 ∨ x = 3 ∨ x = 4 ∨ x = 5) with rfl | rfl | rfl | rfl | rfl | rfl <;> rcases (by omega : k = 0 ∨ k = 1 ∨ k = 2) with rfl | rfl | rfl <;> first | (exfalso; omega) | exact ⟨by decide, rfl⟩)
    · skip
      refine j_il2 hX dX12_moved_58 ?_
      refine j_bipush hX dX12_moved_59 (by decide) ⟨by decide, by decide⟩ ?_
      refine j_idiv hX dX12_moved_61 (by decide) (by decide) ?_
      refine j_goto (tgt := 84) hX dX12_moved_62 (by decide) ?_
      exact j_retI hR dX12_moved_84 (by rcases (by omega : x = 0 ∨ x = 1 ∨ x = 2 ∨ x = 3 ∨ x = 4 ∨ x = 5) with rfl | rfl | rfl | rfl | rfl | rfl <;> rcases (by omega : k = 0 ∨ k = 1 ∨ k = 2) with rfl | rfl | rfl <;> first | (exfalso; omega) | exact ⟨by decide, rfl⟩)
set_option maxHeartbeats 4000000 in
theorem ok_X12_composed {V : VV} {x y : Int} (hx : 0 ≤ x ∧ x < 6) (hy : 0 ≤ y ∧ y < 6) : Ok NA yX12_composed cX12_composed 3 (some .int) 1 22 [vI x, vI y] V (pI (fun x9 V' => x9 = gM 6 x y ∧ V' = V)) := by
  refine Ok.intro (by decide +kernel) (Nat.le_of_ble_eq_true rfl) (fun X G hX hG hR hoa hoV => ?_)
  show J X G 0 [vI x, vI y, vU] [] V
  have c9 := cmp_ok hx hy
  have l0 := im3_lt hy (i := 0) (by decide)
  have l1 := im3_lt hy (i := 1) (by decide)
  refine j_iconst hX dX12_composed_0 ⟨by decide, by decide⟩ ?_
  refine j_is2 hX dX12_composed_1 rfl ?_
  have lp_2 : ∀ (f9 : Nat) (z : Int), (0 ≤ z ∧ z ≤ gM 6 x y) → ((6 - z).toNat) < f9 → J X G 2 [vI x, vI y, vI z] [] V := by
    intro f9
    induction f9 with
    | zero => intro z _ hm; exact absurd hm (Nat.not_lt_zero _)
    | succ f9 ih_2 =>
      intro z hz hm
      refine j_il2 hX dX12_composed_2 ?_
      refine j_iconst hX dX12_composed_3 ⟨by decide, by decide⟩ ?_
      refine j_pSI2 hX hG lk_X12_129 (ok_X12_moved (by omega) (by decide)) (Nat.le_of_ble_eq_true rfl) (Nat.le_of_ble_eq_true rfl) (Nat.le_of_ble_eq_true rfl) rfl dX12_composed_4 ?_
      refine j_il0 hX dX12_composed_7 ?_
      refine j_il1 hX dX12_composed_8 ?_
      refine j_iconst hX dX12_composed_9 ⟨by decide, by decide⟩ ?_
      refine j_pSI2 hX hG lk_X12_129 (ok_X12_moved hy (by decide)) (Nat.le_of_ble_eq_true rfl) (Nat.le_of_ble_eq_true rfl) (Nat.le_of_ble_eq_true rfl) rfl dX12_composed_10 ?_
      refine j_pSI2 hX hG lk_X12_129 (ok_X12_moved hx l0) (Nat.le_of_ble_eq_true rfl) (Nat.le_of_ble_eq_true rfl) (Nat.le_of_ble_eq_true rfl) rfl dX12_composed_13 ?_
      refine j_icmp_ne (tgt := 36) hX dX12_composed_16 (by decide) (fun h_16 => ?_) (fun h_16 => ?_)
      · skip
        refine j_inc2 hX dX12_composed_36 rfl (by omega) ?_
        refine j_goto (tgt := 2) hX dX12_composed_39 (by decide) ?_
        exact ih_2 _ (by first | (have z9 : z ≠ gM 6 x y := fun q => h_16 (by rw [q]; exact c9.2.1); omega) | (have z9 : z ≠ gM 6 x y := fun q => h_33 (by rw [q]; exact c9.2.2); omega)) (by omega)
      · skip
        refine j_il2 hX dX12_composed_19 ?_
        refine j_iconst hX dX12_composed_20 ⟨by decide, by decide⟩ ?_
        refine j_pSI2 hX hG lk_X12_129 (ok_X12_moved (by omega) (by decide)) (Nat.le_of_ble_eq_true rfl) (Nat.le_of_ble_eq_true rfl) (Nat.le_of_ble_eq_true rfl) rfl dX12_composed_21 ?_
        refine j_il0 hX dX12_composed_24 ?_
        refine j_il1 hX dX12_composed_25 ?_
        refine j_iconst hX dX12_composed_26 ⟨by decide, by decide⟩ ?_
        refine j_pSI2 hX hG lk_X12_129 (ok_X12_moved hy (by decide)) (Nat.le_of_ble_eq_true rfl) (Nat.le_of_ble_eq_true rfl) (Nat.le_of_ble_eq_true rfl) rfl dX12_composed_27 ?_
        refine j_pSI2 hX hG lk_X12_129 (ok_X12_moved hx l1) (Nat.le_of_ble_eq_true rfl) (Nat.le_of_ble_eq_true rfl) (Nat.le_of_ble_eq_true rfl) rfl dX12_composed_30 ?_
        refine j_icmp_eq (tgt := 42) hX dX12_composed_33 (by decide) (fun h_33 => ?_) (fun h_33 => ?_)
        · skip
          refine j_il2 hX dX12_composed_42 ?_
          exact j_retI hR dX12_composed_43 ⟨cmp_u (by omega) (by omega) (by rw [c9.2.1]; first | exact h_16 | omega) (by rw [c9.2.2]; exact h_33), rfl⟩
        · skip
          refine j_inc2 hX dX12_composed_36 rfl (by omega) ?_
          refine j_goto (tgt := 2) hX dX12_composed_39 (by decide) ?_
          exact ih_2 _ (by first | (have z9 : z ≠ gM 6 x y := fun q => h_16 (by rw [q]; exact c9.2.1); omega) | (have z9 : z ≠ gM 6 x y := fun q => h_33 (by rw [q]; exact c9.2.2); omega)) (by omega)
  exact lp_2 _ _ (by omega) (Nat.lt_succ_self _)
set_option maxHeartbeats 4000000 in
theorem ok_X12_laysGroup {V : VV} {t : Int} {q : Nat} (hq9 : q < 7) (hg0 : V 55 10 = gO q) (ht : (t = 0 ∧ q ≤ 4) ∨ (t = 1 ∧ q = 5) ∨ (t = 2 ∧ q = 6)) : Ok NA yX12_laysGroup cX12_laysGroup 4 none 2 44 [vA 55, vI t] V (pV (fun V' => (∀ a b : Int, 0 ≤ a → a < gO q → 0 ≤ b → b < gO q → V' 60 (gO q * a + b) = gM q a b) ∧ fr [60] V V')) := by
  refine Ok.intro (by decide +kernel) (Nat.le_of_ble_eq_true rfl) (fun X G hX hG hR hoa hoV => ?_)
  show J X G 0 [vA 55, vI t, vU, vU] [] V
  have hq6 := gO_le hq9
  have hgt := gO_t ht
  refine j_iconst hX dX12_laysGroup_0 ⟨by decide, by decide⟩ ?_
  refine j_is2 hX dX12_laysGroup_1 rfl ?_
  have lp_2 : ∀ (f9 : Nat) (x : Int) (W : VV), (0 ≤ x ∧ x ≤ gO q) → (fr [60] V W) → (∀ a b : Int, 0 ≤ a → a < x → 0 ≤ b → b < gO q → W 60 (gO q * a + b) = gM q a b) → ((gO q - x).toNat) < f9 → J X G 2 [vA 55, vI t, vI x, vU] [] W := by
    intro f9
    induction f9 with
    | zero => intro x W _ _ _ hm; exact absurd hm (Nat.not_lt_zero _)
    | succ f9 ih_2 =>
      intro x W hx hs hTT hm
      refine j_il2 hX dX12_laysGroup_2 ?_
      have w10 : W 55 10 = gO q := (hs 55 10 (by decide)).trans hg0
      refine j_al0 hX dX12_laysGroup_3 rfl ?_
      refine j_getI hX hG fl_X12_110 (Or.inl rfl) (by decide) dX12_laysGroup_4 ?_
      refine j_icmp_ge (tgt := 76) hX dX12_laysGroup_7 (by decide) (fun h_7 => ?_) (fun h_7 => ?_)
      · skip
        exact j_ret hR dX12_laysGroup_76 ⟨fun a b a0 a1 b0 b1 => hTT a b a0 (by omega) b0 b1, hs⟩
      · skip
        refine j_iconst hX dX12_laysGroup_10 ⟨by decide, by decide⟩ ?_
        refine j_is3 hX dX12_laysGroup_11 rfl ?_
        have lp_12 : ∀ (f9 : Nat) (y : Int) (Z : VV), (0 ≤ y ∧ y ≤ gO q) → (fr [60] V Z) → (∀ a b : Int, 0 ≤ a → a < x → 0 ≤ b → b < gO q → Z 60 (gO q * a + b) = gM q a b) → (∀ b : Int, 0 ≤ b → b < y → Z 60 (gO q * x + b) = gM q x b) → ((gO q - y).toNat) < f9 → J X G 12 [vA 55, vI t, vI x, vI y] [] Z := by
          intro f9
          induction f9 with
          | zero => intro y Z _ _ _ _ hm; exact absurd hm (Nat.not_lt_zero _)
          | succ f9 ih_12 =>
            intro y Z hy hs2 hSS hRR hm
            refine j_il3 hX dX12_laysGroup_12 ?_
            have z10 : Z 55 10 = gO q := (hs2 55 10 (by decide)).trans hg0
            refine j_al0 hX dX12_laysGroup_13 rfl ?_
            refine j_getI hX hG fl_X12_110 (Or.inl rfl) (by decide) dX12_laysGroup_14 ?_
            refine j_icmp_ge (tgt := 70) hX dX12_laysGroup_17 (by decide) (fun h_17 => ?_) (fun h_17 => ?_)
            · skip
              refine j_inc2 hX dX12_laysGroup_70 rfl (by omega) ?_
              refine j_goto (tgt := 2) hX dX12_laysGroup_73 (by decide) ?_
              refine j_fg3 ?_
              exact ih_2 _ _ (by omega) (by assumption) (fun a b a0 a1 b0 b1 => by by_cases e : a = x; (rw [e]; exact hRR b b0 (by omega)); (exact hSS a b a0 (by omega) b0 b1)) (by omega)
            · skip
              have hx9 : 0 ≤ x ∧ x < gO q := by omega
              have hy9 : 0 ≤ y ∧ y < gO q := by omega
              have ix := ix_b hq9 hx9 hy9
              refine j_al0 hX dX12_laysGroup_20 rfl ?_
              refine j_getR (q := 60) hX hG fl_X12_22 rfl rfl (by decide) dX12_laysGroup_21 ?_
              refine j_al0 hX dX12_laysGroup_24 rfl ?_
              refine j_getI hX hG fl_X12_110 (Or.inl rfl) (by decide) dX12_laysGroup_25 ?_
              refine j_eqS (st' := [vI (gO q), vA 60]) (by rw [z10]) ?_
              refine j_il2 hX dX12_laysGroup_28 ?_
              refine j_imul hX dX12_laysGroup_29 (by omega) ?_
              refine j_il3 hX dX12_laysGroup_30 ?_
              refine j_iadd hX dX12_laysGroup_31 (by omega) ?_
              refine j_il1 hX dX12_laysGroup_32 ?_
              refine j_if_ne (tgt := 47) hX dX12_laysGroup_33 (by decide) (fun h_33 => ?_) (fun h_33 => ?_)
              · skip
                refine j_il1 hX dX12_laysGroup_47 ?_
                refine j_iconst hX dX12_laysGroup_48 ⟨by decide, by decide⟩ ?_
                refine j_icmp_ne (tgt := 58) hX dX12_laysGroup_49 (by decide) (fun h_49 => ?_) (fun h_49 => ?_)
                · skip
                  refine j_il2 hX dX12_laysGroup_58 ?_
                  refine j_il3 hX dX12_laysGroup_59 ?_
                  refine j_pSI2 hX hG lk_X12_133 (ok_X12_composed (by omega) (by omega)) (Nat.le_of_ble_eq_true rfl) (Nat.le_of_ble_eq_true rfl) (Nat.le_of_ble_eq_true rfl) rfl dX12_laysGroup_60 ?_
                  try refine j_eqS (st' := [vI (gM q x y), vI (gO q * x + y), vA 60]) (by rw [show q = 6 by omega]) ?_
                  refine j_iast (n := 36) hX hG (by decide) (by omega) dX12_laysGroup_63 ?_
                  refine j_inc3 hX dX12_laysGroup_64 rfl (by omega) ?_
                  refine j_goto (tgt := 12) hX dX12_laysGroup_67 (by decide) ?_
                  exact ih_12 _ _ (by omega) (fr_u hs2 (by decide)) (fun a b a0 a1 b0 b1 => by rw [up_n _ (fun z => ix_no hq9 (by omega) ⟨b0, b1⟩ (by omega) z.2)]; exact hSS a b a0 a1 b0 b1) (lt_stepI (fun b b0 b1 => by rw [up_n _ (by omega)]; exact hRR b b0 b1) (up_s ..)) (by omega)
                · skip
                  refine j_il2 hX dX12_laysGroup_52 ?_
                  refine j_il3 hX dX12_laysGroup_53 ?_
                  refine j_ixor hX dX12_laysGroup_54 ?_
                  refine j_eqS (st' := [vI (gM q x y), vI (gO q * x + y), vA 60]) (by rw [gM_kl (by omega) hx9 hy9]) ?_
                  refine j_goto (tgt := 63) hX dX12_laysGroup_55 (by decide) ?_
                  try refine j_eqS (st' := [vI (gM q x y), vI (gO q * x + y), vA 60]) (by rw [show q = 6 by omega]) ?_
                  refine j_iast (n := 36) hX hG (by decide) (by omega) dX12_laysGroup_63 ?_
                  refine j_inc3 hX dX12_laysGroup_64 rfl (by omega) ?_
                  refine j_goto (tgt := 12) hX dX12_laysGroup_67 (by decide) ?_
                  exact ih_12 _ _ (by omega) (fr_u hs2 (by decide)) (fun a b a0 a1 b0 b1 => by rw [up_n _ (fun z => ix_no hq9 (by omega) ⟨b0, b1⟩ (by omega) z.2)]; exact hSS a b a0 a1 b0 b1) (lt_stepI (fun b b0 b1 => by rw [up_n _ (by omega)]; exact hRR b b0 b1) (up_s ..)) (by omega)
              · skip
                refine j_il2 hX dX12_laysGroup_36 ?_
                refine j_il3 hX dX12_laysGroup_37 ?_
                refine j_iadd hX dX12_laysGroup_38 (by omega) ?_
                refine j_al0 hX dX12_laysGroup_39 rfl ?_
                refine j_getI hX hG fl_X12_110 (Or.inl rfl) (by decide) dX12_laysGroup_40 ?_
                refine j_eqS (st' := [vI (gO q), vI (x + y), vI (gO q * x + y), vA 60]) (by rw [z10]) ?_
                refine j_irem hX dX12_laysGroup_43 (by omega) (by omega) ?_
                refine j_eqS (st' := [vI (gM q x y), vI (gO q * x + y), vA 60]) (by rw [gM_cyc hq9 (by omega) hx9 hy9]) ?_
                refine j_goto (tgt := 63) hX dX12_laysGroup_44 (by decide) ?_
                try refine j_eqS (st' := [vI (gM q x y), vI (gO q * x + y), vA 60]) (by rw [show q = 6 by omega]) ?_
                refine j_iast (n := 36) hX hG (by decide) (by omega) dX12_laysGroup_63 ?_
                refine j_inc3 hX dX12_laysGroup_64 rfl (by omega) ?_
                refine j_goto (tgt := 12) hX dX12_laysGroup_67 (by decide) ?_
                exact ih_12 _ _ (by omega) (fr_u hs2 (by decide)) (fun a b a0 a1 b0 b1 => by rw [up_n _ (fun z => ix_no hq9 (by omega) ⟨b0, b1⟩ (by omega) z.2)]; exact hSS a b a0 a1 b0 b1) (lt_stepI (fun b b0 b1 => by rw [up_n _ (by omega)]; exact hRR b b0 b1) (up_s ..)) (by omega)
        exact lp_12 _ _ _ (by omega) hs hTT (fun b b0 b1 => by omega) (Nat.lt_succ_self _)
  exact lp_2 _ _ _ (by omega) fr_0 (fun a b a0 a1 => by omega) (Nat.lt_succ_self _)
set_option maxHeartbeats 4000000 in
theorem ok_X12_inverseIn {V : VV} {x : Int} {q : Nat} (hq9 : q < 7) (hg0 : V 55 10 = gO q) (htb6 : ∀ a b : Int, 0 ≤ a → a < gO q → 0 ≤ b → b < gO q → V 60 (gO q * a + b) = gM q a b) (hx : 0 ≤ x ∧ x < gO q) : Ok NA yX12_inverseIn cX12_inverseIn 3 (some .int) 0 0 [vA 55, vI x] V (pI (fun x9 V' => x9 = gV q x ∧ V' = V)) := by
  refine Ok.intro (by decide +kernel) (Nat.le_of_ble_eq_true rfl) (fun X G hX hG hR hoa hoV => ?_)
  show J X G 0 [vA 55, vI x, vU] [] V
  have hq6 := gO_le hq9
  have v9 := gV_lt hq9 hx
  refine j_iconst hX dX12_inverseIn_0 ⟨by decide, by decide⟩ ?_
  refine j_is2 hX dX12_inverseIn_1 rfl ?_
  have lp_2 : ∀ (f9 : Nat) (y : Int), (0 ≤ y ∧ y ≤ gV q x) → ((gO q - y).toNat) < f9 → J X G 2 [vA 55, vI x, vI y] [] V := by
    intro f9
    induction f9 with
    | zero => intro y _ hm; exact absurd hm (Nat.not_lt_zero _)
    | succ f9 ih_2 =>
      intro y hy hm
      refine j_al0 hX dX12_inverseIn_2 rfl ?_
      have hy9 : 0 ≤ y ∧ y < gO q := by omega
      have ix := ix_b hq9 hx hy9
      refine j_getR (q := 60) hX hG fl_X12_22 rfl rfl (by decide) dX12_inverseIn_3 ?_
      refine j_al0 hX dX12_inverseIn_6 rfl ?_
      refine j_getI hX hG fl_X12_110 (Or.inl rfl) (by decide) dX12_inverseIn_7 ?_
      refine j_eqS (st' := [vI (gO q), vA 60]) (by rw [hg0]) ?_
      refine j_il1 hX dX12_inverseIn_10 ?_
      refine j_imul hX dX12_inverseIn_11 (by omega) ?_
      refine j_il2 hX dX12_inverseIn_12 ?_
      refine j_iadd hX dX12_inverseIn_13 (by omega) ?_
      refine j_iald (n := 36) hX hG (by decide) (by omega) dX12_inverseIn_14 ?_
      refine j_eqS (st' := [vI (gM q x y)]) (by rw [htb6 x y hx.1 hx.2 hy9.1 hy9.2]) ?_
      refine j_if_eq (tgt := 24) hX dX12_inverseIn_15 (by decide) (fun h_15 => ?_) (fun h_15 => ?_)
      · skip
        refine j_il2 hX dX12_inverseIn_24 ?_
        exact j_retI hR dX12_inverseIn_25 ⟨gM_u hq9 hx ⟨hy.1, by omega⟩ h_15, rfl⟩
      · skip
        refine j_inc2 hX dX12_inverseIn_18 rfl (by omega) ?_
        refine j_goto (tgt := 2) hX dX12_inverseIn_21 (by decide) ?_
        exact ih_2 _ (by have h8 := gM_i hq9 hx; by_cases e8 : y = gV q x; exact absurd (by rw [e8]; exact h8.1) h_15; omega) (by omega)
  exact lp_2 _ _ (by omega) (Nat.lt_succ_self _)
