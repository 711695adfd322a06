section LDCW
variable {X : Cx} {own : String} {cc : ByteArray} {nL fr lo : Nat} {G : GS} {pc : Nat} {ls st : List MV} {V : VV}
theorem j_ldcSw {k : Int} {idx : Nat} {tx : String} {b : List Int} (hX : Good X own cc nL fr lo) (hd : decode cc pc = .ok (.ldc_w idx, 3)) (hq : strs[k.toNat]? = some (own, idx, tx, b)) (kk : J X G (pc + 3) ls (vS k :: st) V) : J X G pc ls st V := fun h1 h2 h3 H locs lsr hW hS hL => by
  have k9 := kk h1 (okl_cons (okO (by decide) (by decide)) h2) h3 H locs lsr hW hS hL
  have hZ := (hX.kk.2.2.1 _ _ hq).1
  intro T hT X9
  obtain ⟨t, a1, b1⟩ := k9 T hT X9
  exact ⟨t, X9.ldcStringW hX.1 hX.own (text := tx) hZ.1 hZ.2 (g := F0 _ pc _ _) rfl (by rw [hX.2.1]; exact hd) t a1, b1⟩
end LDCW
def encT (d : Int × Int × Int) : Int := (if d.1 = -1 then d.2.1 else 10 + d.1) + 20 * d.2.2
def LET (T : Int → Int) (L w : Int) (r : PR Int) (l : Int) : Prop := (l = 10 ∧ ∃ s, r = .ok s ∧ isWd T L s [97] = true) ∨ (l = 11 ∧ ∃ s, r = .ok s ∧ isWd T L s [98] = true) ∨ (l = 12 ∧ w = 3 ∧ ∃ s, r = .ok s ∧ isWd T L s [99] = true) ∨ (l = -1 ∧ ∀ s, r = .ok s → ¬ isWd T L s [97] = true ∧ ¬ isWd T L s [98] = true ∧ (w = 3 → ¬ isWd T L s [99] = true))
theorem wd1 {T : Int → Int} {L s c : Int} : isWd T L s [c] = true ↔ sgK T L s = 1 ∧ sgE T L s - s = 1 ∧ T s = c := by
  rw [isWd_t]
  constructor
  · rintro ⟨h1, h2, h3⟩
    have := h3 0 (by decide) (show (0 : Int) < 1 by decide)
    rw [Int.add_zero] at this
    exact ⟨h1, h2, this⟩
  · rintro ⟨h1, h2, h3⟩
    refine ⟨h1, h2, fun i i0 i1 => ?_⟩
    have i1' : i < 1 := i1
    rw [show i = 0 by omega, Int.add_zero]
    exact h3
theorem sgK_1 {T : Int → Int} {L s : Int} (h : sgK T L s = 1) : 97 ≤ T s ∧ T s ≤ 122 := by
  unfold sgK at h
  repeat' split at h
  all_goals first | omega | assumption
theorem let_pl {T : Int → Int} {L w l s : Int} {r : PR Int} (h : LET T L w r l) (e : r = .ok s) : (l ≠ -1 → plF T L s = l - 10 ∧ (plF T L s = 2 → w = 3) ∧ 0 ≤ plF T L s ∧ plF T L s ≤ 2) ∧ (l = -1 → plF T L s = -1 ∨ (plF T L s = 2 ∧ w ≠ 3 ∧ sgK T L s = 1)) := by
  rcases h with ⟨q, s', e', k⟩ | ⟨q, s', e', k⟩ | ⟨q, w3, s', e', k⟩ | ⟨q, k⟩
  · rw [e] at e'; cases e'
    have z := wd1.mp k
    have p : plF T L s = 0 := by unfold plF; rw [if_pos (by omega)]; omega
    exact ⟨fun _ => by omega, fun y => by omega⟩
  · rw [e] at e'; cases e'
    have z := wd1.mp k
    have p : plF T L s = 1 := by unfold plF; rw [if_pos (by omega)]; omega
    exact ⟨fun _ => by omega, fun y => by omega⟩
  · rw [e] at e'; cases e'
    have z := wd1.mp k
    have p : plF T L s = 2 := by unfold plF; rw [if_pos (by omega)]; omega
    exact ⟨fun _ => by omega, fun y => by omega⟩
  · refine ⟨fun y => absurd q y, fun _ => ?_⟩
    obtain ⟨k1, k2, k3⟩ := k s e
    by_cases z : sgK T L s = 1 ∧ sgE T L s - s = 1 ∧ T s ≤ 99
    · have b := sgK_1 z.1
      have n1 : T s ≠ 97 := fun y => k1 (wd1.mpr ⟨z.1, z.2.1, y⟩)
      have n2 : T s ≠ 98 := fun y => k2 (wd1.mpr ⟨z.1, z.2.1, y⟩)
      refine Or.inr ⟨?_, fun y => k3 y (wd1.mpr ⟨z.1, z.2.1, by omega⟩), z.1⟩
      unfold plF; rw [if_pos z]; omega
    · refine Or.inl ?_
      unfold plF; rw [if_neg z]
theorem STA.b28 {V : VV} {r : PR Int} (h : STA V r) : 0 ≤ V 55 28 ∧ V 55 28 ≤ 99 := by
  cases r with
  | ok s => exact h.2.1
  | error e => exact h.2.1
theorem tm_n {W : VV} {t : Int} {r : PR Int} (h : ¬ 8 ≤ t) (hs : STA W r) : STA W (r.bind fun s => if 8 ≤ t then .error (4, s) else .ok s) := by
  cases r with
  | ok s => show STA W (if 8 ≤ t then _ else _); rw [if_neg h]; exact hs
  | error e => exact hs
theorem tm_y {W : VV} {t : Int} {r : PR Int} (h : 8 ≤ t) (hs : STA W (r.bind fun s => .error (4, s))) : STA W (r.bind fun s => if 8 ≤ t then .error (4, s) else .ok s) := by
  cases r with
  | ok s => show STA W (if 8 ≤ t then _ else _); rw [if_pos h]; exact hs
  | error e => exact hs
theorem tm_x {W : VV} {T : Int → Int} {L s : Int} {r : PR Int} (e : r = .ok s) (h : STA W (.ok (sgX T L s))) : STA W (r.bind fun s => .ok (sgX T L s)) := by
  rw [e]; exact h
section TERM
variable {T : Int → Int} {L g w l t : Int} {r : PR Int}
theorem tm_c {s : Int} (hl : LET T L w (.ok s) l) (hw : w = 2 ∨ w = 3) : (l = -1 → (plF T L s = -1 ∨ w ≤ plF T L s)) ∧ (l ≠ -1 → ¬ (plF T L s = -1 ∨ w ≤ plF T L s)) := by
  have h := let_pl hl rfl
  exact ⟨fun q => by have := h.2 q; omega, fun q => by have := h.1 q; omega⟩
theorem tm_eq (hl : LET T L w r l) (hw : w = 2 ∨ w = 3) : tsR T L 45 (Except.bind (Except.bind (if l = -1 then r.bind (fun s => (pNu T L 0 (g - 1) s).map (fun _ => s)) else r) (fun s => if 8 ≤ t then .error (4, s) else .ok s)) (fun s => .ok (sgX T L s))) = r.bind fun s => (pTerm T L g w t s).map Prod.snd := by
  cases r with
  | error e =>
    by_cases q : l = -1
    · rw [if_pos q]; rfl
    · rw [if_neg q]; rfl
  | ok s =>
    have hc := tm_c hl hw
    show _ = (pTerm T L g w t s).map Prod.snd
    unfold pTerm
    by_cases q : l = -1
    · rw [if_pos q, if_pos (hc.1 q)]
      cases hp : pNu T L 0 (g - 1) s with
      | error z =>
        show tsR T L 45 (Except.bind (Except.bind ((pNu T L 0 (g - 1) s).map (fun _ => s)) _) _) = _
        rw [hp]; rfl
      | ok u =>
        show tsR T L 45 (Except.bind (Except.bind ((pNu T L 0 (g - 1) s).map (fun _ => s)) _) _) = _
        rw [hp]
        show tsR T L 45 (Except.bind (if 8 ≤ t then .error (4, s) else .ok s) _) = Except.map _ (if 8 ≤ t then _ else _)
        by_cases q8 : 8 ≤ t
        · rw [if_pos q8, if_pos q8]; rfl
        · rw [if_neg q8, if_neg q8]
          show (if isSy T L (sgX T L s) 45 = true then _ else _) = Except.map _ (if isSy T L (sgX T L s) 45 = true then _ else _)
          by_cases qs : isSy T L (sgX T L s) 45 = true
          · rw [if_pos qs, if_pos qs]; rfl
          · rw [if_neg qs, if_neg qs]; rfl
    · rw [if_neg q, if_neg (hc.2 q)]
      show tsR T L 45 (Except.bind (if 8 ≤ t then .error (4, s) else .ok s) _) = Except.map _ (if 8 ≤ t then _ else _)
      by_cases q8 : 8 ≤ t
      · rw [if_pos q8, if_pos q8]; rfl
      · rw [if_neg q8, if_neg q8]
        show (if isSy T L (sgX T L s) 45 = true then _ else _) = Except.map _ (if isSy T L (sgX T L s) 45 = true then _ else _)
        by_cases qs : isSy T L (sgX T L s) 45 = true
        · rw [if_pos qs, if_pos qs]; rfl
        · rw [if_neg qs, if_neg qs]; rfl
theorem tm_ok {s : Int} {d : Int × Int × Int} {s' : Int} (hl : LET T L w (.ok s) l) (hw : w = 2 ∨ w = 3) (e : pTerm T L g w t s = .ok (d, s')) : (l = -1 → pNu T L 0 (g - 1) s = .ok ()) ∧ ¬ 8 ≤ t ∧ d = (plF T L s, (if plF T L s = -1 then sgN T L s else 0), if isSy T L (sgX T L s) 45 = true then 1 else 0) := by
  have hc := tm_c hl hw
  unfold pTerm at e
  have key : ∀ x : PR Unit, (x.bind fun _ => if 8 ≤ t then .error (4, s) else if isSy T L (sgX T L s) 45 = true then Except.ok ((plF T L s, if plF T L s = -1 then sgN T L s else 0, (1 : Int)), sgX T L (sgX T L s)) else .ok ((plF T L s, if plF T L s = -1 then sgN T L s else 0, (0 : Int)), sgX T L s)) = .ok (d, s') → x = .ok () ∧ ¬ 8 ≤ t ∧ d = (plF T L s, (if plF T L s = -1 then sgN T L s else 0), if isSy T L (sgX T L s) 45 = true then 1 else 0) := by
    intro x hx
    cases x with
    | error z => cases hx
    | ok u =>
      have hx2 : (if 8 ≤ t then Except.error ((4 : Int), s) else if isSy T L (sgX T L s) 45 = true then Except.ok ((plF T L s, if plF T L s = -1 then sgN T L s else 0, (1 : Int)), sgX T L (sgX T L s)) else .ok ((plF T L s, if plF T L s = -1 then sgN T L s else 0, (0 : Int)), sgX T L s)) = .ok (d, s') := hx
      by_cases q8 : 8 ≤ t
      · rw [if_pos q8] at hx2; cases hx2
      · rw [if_neg q8] at hx2
        refine ⟨rfl, q8, ?_⟩
        by_cases qs : isSy T L (sgX T L s) 45 = true
        · rw [if_pos qs] at hx2 ⊢
          exact (congrArg Prod.fst (Except.ok.inj hx2)).symm
        · rw [if_neg qs] at hx2 ⊢
          exact (congrArg Prod.fst (Except.ok.inj hx2)).symm
  have h := key _ e
  exact ⟨fun q => by rw [if_pos (hc.1 q)] at h; exact h.1, h.2⟩
theorem tm_rb {s : Int} {d : Int × Int × Int} {s' : Int} (hl : LET T L w (.ok s) l) (hw : w = 2 ∨ w = 3) (e : pTerm T L g w t s = .ok (d, s')) : Except.bind (if l = -1 then Except.bind (.ok s) (fun s => (pNu T L 0 (g - 1) s).map (fun _ => s)) else .ok s) (fun s => if 8 ≤ t then .error (4, s) else .ok s) = (.ok s : PR Int) := by
  have h := tm_ok hl hw e
  by_cases q : l = -1
  · rw [if_pos q]
    show Except.bind ((pNu T L 0 (g - 1) s).map (fun _ => s)) _ = _
    rw [h.1 q]
    show (if 8 ≤ t then _ else _) = _
    rw [if_neg h.2.1]
  · rw [if_neg q]
    show (if 8 ≤ t then _ else _) = _
    rw [if_neg h.2.1]
theorem tm_r {s : Int} {d : Int × Int × Int} {s' : Int} (hl : LET T L w (.ok s) l) (hw : w = 2 ∨ w = 3) (e : pTerm T L g w t s = .ok (d, s')) : Except.bind (Except.bind (if l = -1 then Except.bind (.ok s) (fun s => (pNu T L 0 (g - 1) s).map (fun _ => s)) else .ok s) (fun s => if 8 ≤ t then .error (4, s) else .ok s)) (fun s => .ok (sgX T L s)) = (.ok (sgX T L s) : PR Int) := by
  rw [tm_rb hl hw e]; rfl
theorem isSM_of {x c : Int} {r : PR Int} (h : isSM T L c r = true) (e : r = .ok x) : isSy T L x c = true := by rw [e] at h; exact h
theorem isSM_to {x c : Int} {r : PR Int} (h : isSy T L x c = true) (e : r = .ok x) : isSM T L c r = true := by rw [e]; exact h
theorem tm_v {Y : VV} {s v : Int} {d : Int × Int × Int} {s' : Int} (hl : LET T L w (.ok s) l) (hw : w = 2 ∨ w = 3) (sY : STA Y (Except.bind (if l = -1 then Except.bind (.ok s) (fun s => (pNu T L 0 (g - 1) s).map (fun _ => s)) else .ok s) (fun s => if 8 ≤ t then .error (4, s) else .ok s))) (y68 : Y 68 = T) (y24 : Y 55 24 = L) (hv : v = if l = -1 then Y 55 28 else l) (e : pTerm T L g w t s = .ok (d, s')) : (isSy T L (sgX T L s) 45 = true → encT d = v + 20) ∧ (¬ isSy T L (sgX T L s) 45 = true → encT d = v) := by
  have h := tm_ok hl hw e
  rw [tm_rb hl hw e] at sY
  have h1 := let_pl hl rfl
  have key : (if plF T L s = -1 then (if plF T L s = -1 then sgN T L s else 0) else 10 + plF T L s) = v := by
    rw [hv]
    by_cases q : l = -1
    · rw [if_pos q]
      have hn := (pNu_t.mp (h.1 q)).1
      have hp : plF T L s = -1 := by
        rcases h1.2 q with z | z
        · exact z
        · omega
      rw [if_pos hp, if_pos hp]
      have tk := sY.1.2.2.2
      rw [y68, y24] at tk
      exact (tk.2.2 (tk.1.trans hn)).symm
    · rw [if_neg q]
      have := h1.1 q
      rw [if_neg (by omega)]
      omega
  rw [h.2.2]
  unfold encT
  refine ⟨fun z => ?_, fun z => ?_⟩
  · show (if plF T L s = -1 then (if plF T L s = -1 then sgN T L s else 0) else 10 + plF T L s) + 20 * (if isSy T L (sgX T L s) 45 = true then (1 : Int) else 0) = _
    rw [key, if_pos z]; rfl
  · show (if plF T L s = -1 then (if plF T L s = -1 then sgN T L s else 0) else 10 + plF T L s) + 20 * (if isSy T L (sgX T L s) 45 = true then (1 : Int) else 0) = _
    rw [key, if_neg z]; omega
end TERM
set_option maxHeartbeats 4000000 in
theorem ok_X12_term {V : VV} {r : PR Int} {b t : Int} (hmt : MTB V) (hst : STA V r) (hg0 : 2 ≤ V 55 10 ∧ V 55 10 ≤ 6) (hw0 : V 55 11 = 2 ∨ V 55 11 = 3) (hb : b = 0 ↔ 8 ≤ t) : Ok NA yX12_term cX12_term 4 (some .int) 5 107 [vA 55, vI b] V (pI (fun x9 V' => (0 ≤ x9 ∧ x9 ≤ 119) ∧ (∀ s d s', r = .ok s → pTerm (V 68) (V 55 24) (V 55 10) (V 55 11) t s = .ok (d, s') → x9 = encT d) ∧ STA V' (r.bind fun s => (pTerm (V 68) (V 55 24) (V 55 10) (V 55 11) t s).map Prod.snd) ∧ fT V V')) := by
  refine Ok.intro (by decide +kernel) (Nat.le_of_ble_eq_true rfl) (fun X G hX hG hR hoa hoV => ?_)
  show J X G 0 [vA 55, vI b, vU, vU] [] V
  have jn_52 : ∀ (l : Int), (LET (V 68) (V 55 24) (V 55 11) r l) → J X G 52 [vA 55, vI b, vU, vU] [vI l] V := by
    intro l hl
    refine j_is2 hX dX12_term_52 rfl ?_
    have jn_69 : ∀ (W : VV), (STA W (if l = -1 then r.bind (fun s => (pNu (V 68) (V 55 24) 0 (V 55 10 - 1) s).map (fun _ => s)) else r)) → (fT V W) → J X G 69 [vA 55, vI b, vI l, vU] [] W := by
      intro W sW fW
      have e68 : W 68 = V 68 := funext fun b => fW.2 68 b (by decide)
      have e24 : W 55 24 = V 55 24 := fW.1 24 (by decide)
      have jn_78 : ∀ (Y : VV), (STA Y (Except.bind (if l = -1 then r.bind (fun s => (pNu (V 68) (V 55 24) 0 (V 55 10 - 1) s).map (fun _ => s)) else r) (fun s => if 8 ≤ t then .error (4, s) else .ok s))) → (fT V Y) → J X G 78 [vA 55, vI b, vI l, vU] [] Y := by
        intro Y sY fY
        have y68 : Y 68 = V 68 := funext fun b => fY.2 68 b (by decide)
        have y24 : Y 55 24 = V 55 24 := fY.1 24 (by decide)
        have mtY : MTB Y := hmt.f fY
        have yb := sY.b28
        have jn_91 : ∀ (v : Int), (v = if l = -1 then Y 55 28 else l) → J X G 91 [vA 55, vI b, vI l, vU] [vI v] Y := by
          intro v hv
          refine j_is3 hX dX12_term_91 rfl ?_
          have jn_103 : ∀ (Z : VV), (STA Z (Except.bind (Except.bind (if l = -1 then r.bind (fun s => (pNu (V 68) (V 55 24) 0 (V 55 10 - 1) s).map (fun _ => s)) else r) (fun s => if 8 ≤ t then .error (4, s) else .ok s)) (fun s => .ok (sgX (V 68) (V 55 24) s)))) → (fT V Z) → J X G 103 [vA 55, vI b, vI l, vI v] [] Z := by
            intro Z sZ fZ
            have z68 : Z 68 = V 68 := funext fun b => fZ.2 68 b (by decide)
            have z24 : Z 55 24 = V 55 24 := fZ.1 24 (by decide)
            have mtZ : MTB Z := hmt.f fZ
            have hv9 : 0 ≤ v ∧ v ≤ 99 := by rw [hv]; split; exact yb; rcases hl with q | q | q | q <;> omega
            refine j_al0 hX dX12_term_103 rfl ?_
            refine j_bipush hX dX12_term_104 (by decide) ⟨by decide, by decide⟩ ?_
            refine j_cVI1 (ci := 12) hX hG lk_X12_234 (ok_X12_takesSign mtZ sZ (by decide)) (by decide) rfl (Nat.le_of_ble_eq_true rfl) (Nat.le_of_ble_eq_true rfl) (Nat.le_of_ble_eq_true rfl) rfl dX12_term_106 (fun x_106 V_106 h_106 => ?_)
            obtain ⟨e_106, s_106, f_106⟩ := h_106
            rw [z68, z24] at e_106 s_106
            rw [e_106]
            refine j_if_eq (tgt := 119) hX dX12_term_109 (by decide) (fun h_109 => ?_) (fun h_109 => ?_)
            · skip
              refine j_il3 hX dX12_term_119 ?_
              exact j_retI hR dX12_term_120 (by
      have hpl := fun (s : Int) (e : r = .ok s) => let_pl hl e
      refine ⟨by omega, fun s d s2 e e2 => ?_, ?_, fT_t fZ f_106⟩
      · subst e
        have h5 := tm_v hl hw0 sY y68 y24 hv e2
        first
        | exact (h5.1 (isSM_of (z01 h_109) (tm_r hl hw0 e2))).symm ▸ rfl
        | exact (h5.2 (fun q => z00 h_109 (isSM_to q (tm_r hl hw0 e2)))).symm ▸ rfl
      · rw [← tm_eq hl hw0]; exact s_106)
            · skip
              refine j_il3 hX dX12_term_112 ?_
              refine j_bipush hX dX12_term_113 (by decide) ⟨by decide, by decide⟩ ?_
              refine j_iadd hX dX12_term_115 (by omega) ?_
              refine j_goto (tgt := 120) hX dX12_term_116 (by decide) ?_
              exact j_retI hR dX12_term_120 (by
      have hpl := fun (s : Int) (e : r = .ok s) => let_pl hl e
      refine ⟨by omega, fun s d s2 e e2 => ?_, ?_, fT_t fZ f_106⟩
      · subst e
        have h5 := tm_v hl hw0 sY y68 y24 hv e2
        first
        | exact (h5.1 (isSM_of (z01 h_109) (tm_r hl hw0 e2))).symm ▸ rfl
        | exact (h5.2 (fun q => z00 h_109 (isSM_to q (tm_r hl hw0 e2)))).symm ▸ rfl
      · rw [← tm_eq hl hw0]; exact s_106)
          refine j_al0 hX dX12_term_92 rfl ?_
          refine j_pVI0 (ci := 12) hX hG lk_X12_204 (ok_X12_isWrong ) (by decide) rfl (Nat.le_of_ble_eq_true rfl) (Nat.le_of_ble_eq_true rfl) (Nat.le_of_ble_eq_true rfl) rfl dX12_term_93 ?_
          refine j_ifz_ne (tgt := 103) hX dX12_term_96 (by decide) (fun h_96 => ?_) (fun h_96 => ?_)
          · skip
            exact jn_103 _ (by first | exact sY.w h_96 _ | exact tm_x s9 u_100.1) (by first | exact fY | exact fT_t fY u_100.2)
          · skip
            obtain ⟨s9, s9e, rt⟩ := sY.r (Classical.byContradiction h_96)
            have s9 := s9e
            refine j_al0 hX dX12_term_99 rfl ?_
            refine j_cVV0 (ci := 12) hX hG lk_X12_222 (ok_X12_token mtY (tk_25 rt) rt.2.1) (by decide) rfl (Nat.le_of_ble_eq_true rfl) (Nat.le_of_ble_eq_true rfl) (Nat.le_of_ble_eq_true rfl) rfl dX12_term_100 (fun V_100 h_100 => ?_)
            have u_100 := tk_to mtY rt h_100
            rw [y68, y24] at u_100
            exact jn_103 _ (by first | exact sY.w h_96 _ | exact tm_x s9 u_100.1) (by first | exact fY | exact fT_t fY u_100.2)
        refine j_il2 hX dX12_term_78 ?_
        refine j_iconst hX dX12_term_79 ⟨by decide, by decide⟩ ?_
        refine j_icmp_ne (tgt := 90) hX dX12_term_80 (by decide) (fun h_80 => ?_) (fun h_80 => ?_)
        · skip
          refine j_il2 hX dX12_term_90 ?_
          exact jn_91 _ (by first | exact (if_pos h_80).symm | exact (if_neg h_80).symm)
        · skip
          refine j_al0 hX dX12_term_83 rfl ?_
          refine j_getI hX hG fl_X12_198 (Or.inl rfl) (by decide) dX12_term_84 ?_
          refine j_goto (tgt := 91) hX dX12_term_87 (by decide) ?_
          exact jn_91 _ (by first | exact (if_pos h_80).symm | exact (if_neg h_80).symm)
      refine j_il1 hX dX12_term_69 ?_
      refine j_if_ne (tgt := 78) hX dX12_term_70 (by decide) (fun h_70 => ?_) (fun h_70 => ?_)
      · skip
        exact jn_78 _ (by first | exact tm_n (fun z => h_70 (hb.mpr z)) sW | exact tm_y (hb.mp h_70) s_75) (by first | exact fW | exact fT_t fW f_75)
      · skip
        refine j_al0 hX dX12_term_73 rfl ?_
        refine j_iconst hX dX12_term_74 ⟨by decide, by decide⟩ ?_
        refine j_cVV1 (ci := 12) hX hG lk_X12_228 (ok_X12_fails sW (by decide)) (by decide) rfl (Nat.le_of_ble_eq_true rfl) (Nat.le_of_ble_eq_true rfl) (Nat.le_of_ble_eq_true rfl) rfl dX12_term_75 (fun V_75 h_75 => ?_)
        obtain ⟨s_75, f_75⟩ := h_75
        exact jn_78 _ (by first | exact tm_n (fun z => h_70 (hb.mpr z)) sW | exact tm_y (hb.mp h_70) s_75) (by first | exact fW | exact fT_t fW f_75)
    refine j_il2 hX dX12_term_53 ?_
    refine j_iconst hX dX12_term_54 ⟨by decide, by decide⟩ ?_
    refine j_icmp_ne (tgt := 69) hX dX12_term_55 (by decide) (fun h_55 => ?_) (fun h_55 => ?_)
    · skip
      exact jn_69 _ (by first | (rw [if_neg h_55]; exact hst) | (rw [if_pos h_55]; exact s_66)) (by first | exact fT_0 | exact f_66)
    · skip
      refine j_al0 hX dX12_term_58 rfl ?_
      refine j_iconst hX dX12_term_59 ⟨by decide, by decide⟩ ?_
      refine j_al0 hX dX12_term_60 rfl ?_
      refine j_getI hX hG fl_X12_110 (Or.inl rfl) (by decide) dX12_term_61 ?_
      refine j_iconst hX dX12_term_64 ⟨by decide, by decide⟩ ?_
      refine j_isub hX dX12_term_65 (by omega) ?_
      refine j_cVV2 (ci := 12) hX hG lk_X12_237 (ok_X12_looks hst) (by decide) rfl (Nat.le_of_ble_eq_true rfl) (Nat.le_of_ble_eq_true rfl) (Nat.le_of_ble_eq_true rfl) rfl dX12_term_66 (fun V_66 h_66 => ?_)
      obtain ⟨s_66, f_66⟩ := h_66
      exact jn_69 _ (by first | (rw [if_neg h_55]; exact hst) | (rw [if_pos h_55]; exact s_66)) (by first | exact fT_0 | exact f_66)
  refine j_al0 hX dX12_term_0 rfl ?_
  refine j_ldcS (k := 10) hX dX12_term_1 rfl ?_
  refine j_pVI1 (ci := 12) hX hG lk_X12_218 (ok_X12_isWord (by first | assumption | omega | decide) (by first | assumption | omega | decide) (by first | assumption | rfl)) (by decide) rfl (Nat.le_of_ble_eq_true rfl) (Nat.le_of_ble_eq_true rfl) (Nat.le_of_ble_eq_true rfl) rfl dX12_term_3 ?_
  refine j_ifz_eq (tgt := 14) hX dX12_term_6 (by decide) (fun h_6 => ?_) (fun h_6 => ?_)
  · skip
    refine j_al0 hX dX12_term_14 rfl ?_
    refine j_ldcS (k := 11) hX dX12_term_15 rfl ?_
    refine j_pVI1 (ci := 12) hX hG lk_X12_218 (ok_X12_isWord (by first | assumption | omega | decide) (by first | assumption | omega | decide) (by first | assumption | rfl)) (by decide) rfl (Nat.le_of_ble_eq_true rfl) (Nat.le_of_ble_eq_true rfl) (Nat.le_of_ble_eq_true rfl) rfl dX12_term_17 ?_
    refine j_ifz_eq (tgt := 28) hX dX12_term_20 (by decide) (fun h_20 => ?_) (fun h_20 => ?_)
    · skip
      refine j_al0 hX dX12_term_28 rfl ?_
      refine j_getI hX hG fl_X12_113 (Or.inl rfl) (by decide) dX12_term_29 ?_
      refine j_iconst hX dX12_term_32 ⟨by decide, by decide⟩ ?_
      refine j_icmp_ne (tgt := 51) hX dX12_term_33 (by decide) (fun h_33 => ?_) (fun h_33 => ?_)
      · skip
        refine j_iconst hX dX12_term_51 ⟨by decide, by decide⟩ ?_
        exact jn_52 _ (by first | exact Or.inl ⟨rfl, isWM_t.mp h_6⟩ | exact Or.inr (Or.inl ⟨rfl, isWM_t.mp h_20⟩) | exact Or.inr (Or.inr (Or.inl ⟨rfl, h_33, isWM_t.mp h_43⟩)) | exact Or.inr (Or.inr (Or.inr ⟨rfl, fun s e => ⟨fun z => h_6 (isWM_t.mpr ⟨s, e, z⟩), fun z => h_20 (isWM_t.mpr ⟨s, e, z⟩), fun q z => h_43 (isWM_t.mpr ⟨s, e, z⟩)⟩⟩)) | exact Or.inr (Or.inr (Or.inr ⟨rfl, fun s e => ⟨fun z => h_6 (isWM_t.mpr ⟨s, e, z⟩), fun z => h_20 (isWM_t.mpr ⟨s, e, z⟩), fun q => absurd q h_33⟩⟩)))
      · skip
        refine j_al0 hX dX12_term_36 rfl ?_
        refine j_ldcSw (k := 12) hX dX12_term_37 rfl ?_
        refine j_pVI1 (ci := 12) hX hG lk_X12_218 (ok_X12_isWord (by first | assumption | omega | decide) (by first | assumption | omega | decide) (by first | assumption | rfl)) (by decide) rfl (Nat.le_of_ble_eq_true rfl) (Nat.le_of_ble_eq_true rfl) (Nat.le_of_ble_eq_true rfl) rfl dX12_term_40 ?_
        refine j_ifz_eq (tgt := 51) hX dX12_term_43 (by decide) (fun h_43 => ?_) (fun h_43 => ?_)
        · skip
          refine j_iconst hX dX12_term_51 ⟨by decide, by decide⟩ ?_
          exact jn_52 _ (by first | exact Or.inl ⟨rfl, isWM_t.mp h_6⟩ | exact Or.inr (Or.inl ⟨rfl, isWM_t.mp h_20⟩) | exact Or.inr (Or.inr (Or.inl ⟨rfl, h_33, isWM_t.mp h_43⟩)) | exact Or.inr (Or.inr (Or.inr ⟨rfl, fun s e => ⟨fun z => h_6 (isWM_t.mpr ⟨s, e, z⟩), fun z => h_20 (isWM_t.mpr ⟨s, e, z⟩), fun q z => h_43 (isWM_t.mpr ⟨s, e, z⟩)⟩⟩)) | exact Or.inr (Or.inr (Or.inr ⟨rfl, fun s e => ⟨fun z => h_6 (isWM_t.mpr ⟨s, e, z⟩), fun z => h_20 (isWM_t.mpr ⟨s, e, z⟩), fun q => absurd q h_33⟩⟩)))
        · skip
          refine j_bipush hX dX12_term_46 (by decide) ⟨by decide, by decide⟩ ?_
          refine j_goto (tgt := 52) hX dX12_term_48 (by decide) ?_
          exact jn_52 _ (by first | exact Or.inl ⟨rfl, isWM_t.mp h_6⟩ | exact Or.inr (Or.inl ⟨rfl, isWM_t.mp h_20⟩) | exact Or.inr (Or.inr (Or.inl ⟨rfl, h_33, isWM_t.mp h_43⟩)) | exact Or.inr (Or.inr (Or.inr ⟨rfl, fun s e => ⟨fun z => h_6 (isWM_t.mpr ⟨s, e, z⟩), fun z => h_20 (isWM_t.mpr ⟨s, e, z⟩), fun q z => h_43 (isWM_t.mpr ⟨s, e, z⟩)⟩⟩)) | exact Or.inr (Or.inr (Or.inr ⟨rfl, fun s e => ⟨fun z => h_6 (isWM_t.mpr ⟨s, e, z⟩), fun z => h_20 (isWM_t.mpr ⟨s, e, z⟩), fun q => absurd q h_33⟩⟩)))
    · skip
      refine j_bipush hX dX12_term_23 (by decide) ⟨by decide, by decide⟩ ?_
      refine j_goto (tgt := 52) hX dX12_term_25 (by decide) ?_
      exact jn_52 _ (by first | exact Or.inl ⟨rfl, isWM_t.mp h_6⟩ | exact Or.inr (Or.inl ⟨rfl, isWM_t.mp h_20⟩) | exact Or.inr (Or.inr (Or.inl ⟨rfl, h_33, isWM_t.mp h_43⟩)) | exact Or.inr (Or.inr (Or.inr ⟨rfl, fun s e => ⟨fun z => h_6 (isWM_t.mpr ⟨s, e, z⟩), fun z => h_20 (isWM_t.mpr ⟨s, e, z⟩), fun q z => h_43 (isWM_t.mpr ⟨s, e, z⟩)⟩⟩)) | exact Or.inr (Or.inr (Or.inr ⟨rfl, fun s e => ⟨fun z => h_6 (isWM_t.mpr ⟨s, e, z⟩), fun z => h_20 (isWM_t.mpr ⟨s, e, z⟩), fun q => absurd q h_33⟩⟩)))
  · skip
    refine j_bipush hX dX12_term_9 (by decide) ⟨by decide, by decide⟩ ?_
    refine j_goto (tgt := 52) hX dX12_term_11 (by decide) ?_
    exact jn_52 _ (by first | exact Or.inl ⟨rfl, isWM_t.mp h_6⟩ | exact Or.inr (Or.inl ⟨rfl, isWM_t.mp h_20⟩) | exact Or.inr (Or.inr (Or.inl ⟨rfl, h_33, isWM_t.mp h_43⟩)) | exact Or.inr (Or.inr (Or.inr ⟨rfl, fun s e => ⟨fun z => h_6 (isWM_t.mpr ⟨s, e, z⟩), fun z => h_20 (isWM_t.mpr ⟨s, e, z⟩), fun q z => h_43 (isWM_t.mpr ⟨s, e, z⟩)⟩⟩)) | exact Or.inr (Or.inr (Or.inr ⟨rfl, fun s e => ⟨fun z => h_6 (isWM_t.mpr ⟨s, e, z⟩), fun z => h_20 (isWM_t.mpr ⟨s, e, z⟩), fun q => absurd q h_33⟩⟩)))
