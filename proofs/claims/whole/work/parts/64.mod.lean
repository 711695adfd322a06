def fR (V W : VV) : Prop := (∀ b, ((b < 25 ∧ b ≠ 12) ∨ 30 < b) → W 55 b = V 55 b) ∧ ∀ a b, a ≠ 55 → a ≠ 62 → W a b = V a b
theorem fR_f {V W : VV} (h : fT V W) : fR V W := ⟨fun b hb => h.1 b (by omega), fun a b ha _ => h.2 a b ha⟩
theorem fR_t {V W Z : VV} (h : fR V W) (h' : fR W Z) : fR V Z := ⟨fun b hb => (h'.1 b hb).trans (h.1 b hb), fun a b ha hb => (h'.2 a b ha hb).trans (h.2 a b ha hb)⟩
def RGS (W : VV) (g : Int) (xs : List Int) : Prop := W 55 12 = xs.length ∧ ∀ j : Nat, j < xs.length → ∃ x, xs[j]? = some x ∧ (0 ≤ x ∧ x < g) ∧ W 62 (j : Int) = x
theorem RGS.c {V W : VV} {g : Int} {xs : List Int} (h : RGS V g xs) (e : W 55 12 = V 55 12) (e' : ∀ b, W 62 b = V 62 b) : RGS W g xs := ⟨e.trans h.1, fun j hj => by
  obtain ⟨d, a, b, c⟩ := h.2 j hj
  exact ⟨d, a, b, (e' _).trans c⟩⟩
theorem rgs_S {V W : VV} {g x : Int} {xs : List Int} (h : RGS V g xs) (hx : 0 ≤ x ∧ x < g) (e : W 55 12 = xs.length + 1) (e' : ∀ b, b ≠ (xs.length : Int) → W 62 b = V 62 b) (e2 : W 62 (xs.length : Int) = x) : RGS W g (xs ++ [x]) := by
  refine ⟨by rw [e, List.length_append]; push_cast; rfl, fun j hj => ?_⟩
  rw [List.length_append] at hj
  have hj2 : j < xs.length + 1 := hj
  by_cases q : j < xs.length
  · obtain ⟨y, a, b, c⟩ := h.2 j q
    exact ⟨y, by rw [List.getElem?_append_left q]; exact a, b, by rw [e' _ (by omega)]; exact c⟩
  · have ej : j = xs.length := by omega
    subst ej
    exact ⟨x, by rw [List.getElem?_append_right (Nat.le_refl _), Nat.sub_self]; rfl, hx, e2⟩
theorem cn_n {W : VV} {t : Int} {r : PR Int} (h : ¬ 16 ≤ t) (hs : STA W r) : STA W (r.bind fun s => if 16 ≤ t then .error (4, s) else .ok s) := by
  cases r with
  | ok s => show STA W (if 16 ≤ t then _ else _); rw [if_neg h]; exact hs
  | error e => exact hs
theorem cn_y {W : VV} {t : Int} {r : PR Int} (h : 16 ≤ t) (hs : STA W (r.bind fun s => .error (4, s))) : STA W (r.bind fun s => if 16 ≤ t then .error (4, s) else .ok s) := by
  cases r with
  | ok s => show STA W (if 16 ≤ t then _ else _); rw [if_pos h]; exact hs
  | error e => exact hs
def cell1 (T : Int → Int) (L g : Int) (acc : List Int) (s : Int) : PR (List Int × Int) := (pNu T L 0 (g - 1) s).bind fun _ => if 16 ≤ (acc.length : Int) then .error (4, s) else (pCells T L g (16 - acc.length) ((acc.length : Int) + 1) (sgX T L s)).map fun z => (acc ++ (sgN T L s :: z.1), z.2)
def TOTR (T : Int → Int) (L g m : Int) (rr : PR Int) (acc : List Int) : PR (List Int × Int) := if m = 0 then rr.bind (fun s => (pSy T L 59 s).map fun a => (acc, a)) else rr.bind (cell1 T L g acc)
section TOTALR
variable {T : Int → Int} {L g m : Int} {rr : PR Int} {acc : List Int}
theorem totr_0 : (rr.bind fun s1 => pCells T L g 17 0 s1) = TOTR T L g 1 rr [] := by
  unfold TOTR
  rw [if_neg (by decide)]
  cases rr with
  | error e => rfl
  | ok s =>
    show (if (0 : Int) < 0 ∧ isSy T L s 59 = true then Except.ok ([], sgX T L s) else (pNu T L 0 (g - 1) s).bind fun _ => if 16 ≤ (0 : Int) then .error (4, s) else (pCells T L g 16 (0 + 1) (sgX T L s)).map (fun z => (sgN T L s :: z.1, z.2))) = cell1 T L g [] s
    rw [if_neg (fun z => absurd z.1 (by decide))]
    rfl
theorem totr_1 {A : PR (List Int × Int)} (hm : ¬ m = 0) (h : A = TOTR T L g m rr acc) : A = rr.bind (cell1 T L g acc) := by
  rw [h]; exact if_neg hm
theorem totr_w {z : Int × Int} : TOTR T L g m (.error z) acc = .error z := by
  unfold TOTR
  split <;> rfl
theorem totr_z {W : VV} (hm : m = 0) (h : STA W (rr.bind (pSy T L 59))) : STA W ((TOTR T L g m rr acc).map Prod.snd) := by
  unfold TOTR
  rw [if_pos hm]
  cases rr with
  | error e => exact h
  | ok s =>
    show STA W (((pSy T L 59 s).map fun a => (acc, a)).map Prod.snd)
    have h1 : STA W (pSy T L 59 s) := h
    cases hp : pSy T L 59 s with
    | error e => rw [hp] at h1; exact h1
    | ok a => rw [hp] at h1; exact h1
theorem totr_a {ds : List Int} {s' : Int} (hm : m = 0) (h : TOTR T L g m rr acc = .ok (ds, s')) : acc = ds := by
  unfold TOTR at h
  rw [if_pos hm] at h
  cases rr with
  | error e => cases h
  | ok s =>
    have h1 : (pSy T L 59 s).map (fun a => (acc, a)) = .ok (ds, s') := h
    cases hp : pSy T L 59 s with
    | error e => rw [hp] at h1; cases h1
    | ok a => rw [hp] at h1; exact congrArg Prod.fst (Except.ok.inj h1)
theorem ring_r {W : VV} {s : Int} (h : STA W (Except.bind (Except.bind (.ok s) fun s => (pNu T L 0 (g - 1) s).map fun _ => s) fun s => if 16 ≤ (acc.length : Int) then .error (4, s) else .ok s)) (h0 : W 55 29 = 0) : pNu T L 0 (g - 1) s = .ok () ∧ ¬ 16 ≤ (acc.length : Int) ∧ RTS W s := by
  have h1 : STA W (Except.bind ((pNu T L 0 (g - 1) s).map fun _ => s) fun s => if 16 ≤ (acc.length : Int) then .error (4, s) else .ok s) := h
  cases hp : pNu T L 0 (g - 1) s with
  | error e => rw [hp] at h1; exact absurd (h1.2.2.1.symm.trans h0) h1.2.2.2.2
  | ok a =>
    rw [hp] at h1
    have h2 : STA W (if 16 ≤ (acc.length : Int) then .error (4, s) else .ok s) := h1
    by_cases q : 16 ≤ (acc.length : Int)
    · rw [if_pos q] at h2; exact absurd (h2.2.2.1.symm.trans h0) h2.2.2.2.2
    · rw [if_neg q] at h2; exact ⟨rfl, q, h2⟩
theorem ring_e {W : VV} {s : Int} (h : STA W (Except.bind (Except.bind (.ok s) fun s => (pNu T L 0 (g - 1) s).map fun _ => s) fun s => if 16 ≤ (acc.length : Int) then .error (4, s) else .ok s)) (h0 : W 55 29 ≠ 0) : ∃ e, Except.bind (Except.bind (.ok s) fun s => (pNu T L 0 (g - 1) s).map fun _ => s) (fun s => if 16 ≤ (acc.length : Int) then .error (4, s) else .ok s) = (.error e : PR Int) ∧ STA W (.error e) := by
  obtain ⟨e, he, hw⟩ := h.er h0
  exact ⟨e, he, hw⟩
theorem ring_z {s : Int} {e : Int × Int} (h : Except.bind (Except.bind (.ok s) fun s => (pNu T L 0 (g - 1) s).map fun _ => s) (fun s => if 16 ≤ (acc.length : Int) then .error (4, s) else .ok s) = (.error e : PR Int)) : Except.bind (.ok s) (cell1 T L g acc) = .error e := by
  show cell1 T L g acc s = _
  unfold cell1
  have h1 : Except.bind ((pNu T L 0 (g - 1) s).map fun _ => s) (fun s => if 16 ≤ (acc.length : Int) then .error (4, s) else .ok s) = (.error e : PR Int) := h
  cases hp : pNu T L 0 (g - 1) s with
  | error z => rw [hp] at h1; cases h1; rfl
  | ok a =>
    rw [hp] at h1
    have h2 : (if 16 ≤ (acc.length : Int) then Except.error (4, s) else .ok s) = (.error e : PR Int) := h1
    show (if 16 ≤ (acc.length : Int) then _ else _) = _
    by_cases q : 16 ≤ (acc.length : Int)
    · rw [if_pos q] at h2 ⊢; cases h2; rfl
    · rw [if_neg q] at h2; cases h2
theorem ring_S {A : PR (List Int × Int)} {s x : Int} (hl : acc.length ≤ 15) (h : A = Except.bind (.ok s) (cell1 T L g acc)) (hp : pNu T L 0 (g - 1) s = .ok ()) (hx : (x ≠ 0 ∧ (sgK T L (sgX T L s) = 2 ∨ sgK T L (sgX T L s) = 4)) ∨ (x = 0 ∧ sgK T L (sgX T L s) ≠ 2 ∧ sgK T L (sgX T L s) ≠ 4)) : A = TOTR T L g x (.ok (sgX T L s)) (acc ++ [sgN T L s]) := by
  rw [h]
  show cell1 T L g acc s = _
  unfold cell1
  rw [hp]
  show (if 16 ≤ (acc.length : Int) then _ else _) = _
  rw [if_neg (by omega), show 16 - acc.length = (15 - acc.length) + 1 by omega]
  show Except.map _ (if 0 < (acc.length : Int) + 1 ∧ isSy T L (sgX T L s) 59 = true then _ else _) = _
  unfold TOTR
  have el : ((acc ++ [sgN T L s]).length : Int) = acc.length + 1 := by rw [List.length_append]; push_cast; rfl
  have en : 16 - (acc ++ [sgN T L s]).length = 15 - acc.length := by rw [List.length_append]; show 16 - (acc.length + 1) = _; omega
  rcases hx with ⟨h0, h1⟩ | ⟨h0, h1⟩
  · rw [if_neg h0, if_neg (fun z => by have := isSy_t.mp z.2; omega)]
    show Except.map _ (Except.bind (pNu T L 0 (g - 1) (sgX T L s)) _) = cell1 T L g (acc ++ [sgN T L s]) (sgX T L s)
    unfold cell1
    rw [en, el]
    cases pNu T L 0 (g - 1) (sgX T L s) with
    | error z => rfl
    | ok u =>
      show Except.map _ (if 16 ≤ (acc.length : Int) + 1 then _ else _) = (if 16 ≤ (acc.length : Int) + 1 then _ else _)
      by_cases q : 16 ≤ (acc.length : Int) + 1
      · rw [if_pos q, if_pos q]; rfl
      · rw [if_neg q, if_neg q]
        show Except.map _ (Except.map _ (pCells T L g (15 - acc.length) ((acc.length : Int) + 1 + 1) (sgX T L (sgX T L s)))) = Except.map _ (pCells T L g (15 - acc.length) ((acc.length : Int) + 1 + 1) (sgX T L (sgX T L s)))
        cases pCells T L g (15 - acc.length) ((acc.length : Int) + 1 + 1) (sgX T L (sgX T L s)) with
        | error z => rfl
        | ok z =>
          show Except.ok (acc ++ (sgN T L s :: sgN T L (sgX T L s) :: z.1), z.2) = Except.ok ((acc ++ [sgN T L s]) ++ (sgN T L (sgX T L s) :: z.1), z.2)
          rw [List.append_assoc]; rfl
  · rw [if_pos h0]
    show _ = Except.map _ (pSy T L 59 (sgX T L s))
    unfold pSy
    by_cases q : isSy T L (sgX T L s) 59 = true
    · rw [if_pos ⟨by omega, q⟩, if_pos q]; rfl
    · rw [if_neg (fun z => q z.2), if_neg q]
      unfold pNu
      rw [if_neg h1.1]; rfl
end TOTALR
set_option maxHeartbeats 4000000 in
theorem ok_X12_ring {V : VV} {r : PR Int} (hmt : MTB V) (hst : STA V r) (hg0 : 2 ≤ V 55 10 ∧ V 55 10 ≤ 6) : Ok NA yX12_ring cX12_ring 2 none 7 150 [vA 55] V (pV (fun V' => STA V' ((((r.bind (pWd (V 68) (V 55 24) wRing)).bind fun s1 => pCells (V 68) (V 55 24) (V 55 10) 17 0 s1)).map Prod.snd) ∧ (∀ xs s', ((r.bind (pWd (V 68) (V 55 24) wRing)).bind fun s1 => pCells (V 68) (V 55 24) (V 55 10) 17 0 s1) = .ok (xs, s') → RGS V' (V 55 10) xs ∧ 1 ≤ xs.length ∧ xs.length ≤ 16) ∧ fR V V')) := by
  refine Ok.intro (by decide +kernel) (Nat.le_of_ble_eq_true rfl) (fun X G hX hG hR hoa hoV => ?_)
  show J X G 0 [vA 55, vU] [] V
  refine j_al0 hX dX12_ring_0 rfl ?_
  refine j_ldcSw (k := 15) hX dX12_ring_1 rfl ?_
  refine j_cVV1 (ci := 12) hX hG lk_X12_261 (ok_X12_must (by first | assumption | omega | decide) (by first | assumption | omega | decide) (by first | assumption | rfl)) (by decide) rfl (Nat.le_of_ble_eq_true rfl) (Nat.le_of_ble_eq_true rfl) (Nat.le_of_ble_eq_true rfl) rfl dX12_ring_4 (fun V_4 h_4 => ?_)
  obtain ⟨s_4, f_4⟩ := h_4
  refine j_al0 hX dX12_ring_7 rfl ?_
  refine j_iconst hX dX12_ring_8 ⟨by decide, by decide⟩ ?_
  refine j_putI hX hG fp_X12_116 rfl (by decide) dX12_ring_9 ?_
  generalize hN : up _ 55 12 0 = N
  have s4 : STA N (r.bind (pWd (V 68) (V 55 24) wRing)) := STA.c s_4 (fun b b0 b1 => by rw [← hN, up_n _ (by omega)]) (by rw [← hN, up_r _ (by decide)])
  have f4 : fR V N := ⟨fun b hb => by rw [← hN, up_n _ (by omega)]; exact f_4.1 b (by omega), fun a b ha hb => by rw [← hN, up_n _ (by omega)]; exact f_4.2 a b ha⟩
  have t4 : RGS N (V 55 10) [] := ⟨by rw [← hN, up_s]; rfl, fun j hj => absurd hj (Nat.not_lt_zero _)⟩
  clear hN
  refine j_iconst hX dX12_ring_12 ⟨by decide, by decide⟩ ?_
  refine j_is1 hX dX12_ring_13 rfl ?_
  have lp_14 : ∀ (f9 : Nat) (m : Int) (rr : PR Int) (acc : List Int) (W : VV), (((r.bind (pWd (V 68) (V 55 24) wRing)).bind fun s1 => pCells (V 68) (V 55 24) (V 55 10) 17 0 s1) = TOTR (V 68) (V 55 24) (V 55 10) m rr acc) → (STA W rr) → (RGS W (V 55 10) acc) → (acc.length ≤ 16 ∧ (m = 0 → 1 ≤ acc.length)) → (fR V W) → ((17 - acc.length)) < f9 → J X G 14 [vA 55, vI m] [] W := by
    intro f9
    induction f9 with
    | zero => intro m rr acc W _ _ _ _ _ hm; exact absurd hm (Nat.not_lt_zero _)
    | succ f9 ih_14 =>
      intro m rr acc W hT9 sW tW la fW hm
      have w68 : W 68 = V 68 := funext fun b => fW.2 68 b (by decide) (by decide)
      have w24 : W 55 24 = V 55 24 := fW.1 24 (by decide)
      have w10 : W 55 10 = V 55 10 := fW.1 10 (by decide)
      have w12 : W 55 12 = acc.length := tW.1
      have mtW : MTB W := by unfold MTB; rw [w68, w24]; exact hmt
      refine j_il1 hX dX12_ring_14 ?_
      refine j_if_eq (tgt := 110) hX dX12_ring_15 (by decide) (fun h_15 => ?_) (fun h_15 => ?_)
      · skip
        refine j_al0 hX dX12_ring_110 rfl ?_
        refine j_cVV0 (ci := 12) hX hG lk_X12_250 (ok_X12_ends mtW sW) (by decide) rfl (Nat.le_of_ble_eq_true rfl) (Nat.le_of_ble_eq_true rfl) (Nat.le_of_ble_eq_true rfl) rfl dX12_ring_111 (fun V_111 h_111 => ?_)
        obtain ⟨s_111, f_111⟩ := h_111
        rw [w68, w24] at s_111
        exact j_ret hR dX12_ring_114 (by
      first
      | (refine ⟨?_, fun xs s' e => ?_, fR_t fW (fR_f f_111)⟩
         · rw [hT9]; exact totr_z (by assumption) s_111
         · rw [hT9] at e
           have ea := totr_a (by assumption) e
           rw [← ea]
           exact ⟨tW.c (f_111.1 12 (by decide)) (fun b => f_111.2 62 b (by decide)), la.2 (by assumption), la.1⟩)
      | (obtain ⟨z, ez, zw⟩ := sW.er h_22
         subst ez
         have hTz := totr_w (T := V 68) (L := V 55 24) (g := V 55 10) (m := m) (z := z) (acc := acc)
         exact ⟨by rw [hT9, hTz]; exact s_111, fun xs s' e => (by rw [hT9, hTz] at e; cases e), fR_t fW (fR_f f_111)⟩))
      · skip
        refine j_al0 hX dX12_ring_18 rfl ?_
        refine j_pVI0 (ci := 12) hX hG lk_X12_204 (ok_X12_isWrong ) (by decide) rfl (Nat.le_of_ble_eq_true rfl) (Nat.le_of_ble_eq_true rfl) (Nat.le_of_ble_eq_true rfl) rfl dX12_ring_19 ?_
        refine j_ifz_ne (tgt := 110) hX dX12_ring_22 (by decide) (fun h_22 => ?_) (fun h_22 => ?_)
        · skip
          refine j_al0 hX dX12_ring_110 rfl ?_
          refine j_cVV0 (ci := 12) hX hG lk_X12_250 (ok_X12_ends mtW sW) (by decide) rfl (Nat.le_of_ble_eq_true rfl) (Nat.le_of_ble_eq_true rfl) (Nat.le_of_ble_eq_true rfl) rfl dX12_ring_111 (fun V_111 h_111 => ?_)
          obtain ⟨s_111, f_111⟩ := h_111
          rw [w68, w24] at s_111
          exact j_ret hR dX12_ring_114 (by
      first
      | (refine ⟨?_, fun xs s' e => ?_, fR_t fW (fR_f f_111)⟩
         · rw [hT9]; exact totr_z (by assumption) s_111
         · rw [hT9] at e
           have ea := totr_a (by assumption) e
           rw [← ea]
           exact ⟨tW.c (f_111.1 12 (by decide)) (fun b => f_111.2 62 b (by decide)), la.2 (by assumption), la.1⟩)
      | (obtain ⟨z, ez, zw⟩ := sW.er h_22
         subst ez
         have hTz := totr_w (T := V 68) (L := V 55 24) (g := V 55 10) (m := m) (z := z) (acc := acc)
         exact ⟨by rw [hT9, hTz]; exact s_111, fun xs s' e => (by rw [hT9, hTz] at e; cases e), fR_t fW (fR_f f_111)⟩))
        · skip
          obtain ⟨s, er, rt⟩ := sW.r (Classical.byContradiction h_22)
          subst er
          have hT1 := totr_1 h_15 hT9
          refine j_al0 hX dX12_ring_25 rfl ?_
          refine j_iconst hX dX12_ring_26 ⟨by decide, by decide⟩ ?_
          refine j_al0 hX dX12_ring_27 rfl ?_
          refine j_getI hX hG fl_X12_110 (Or.inl rfl) (by decide) dX12_ring_28 ?_
          refine j_iconst hX dX12_ring_31 ⟨by decide, by decide⟩ ?_
          refine j_isub hX dX12_ring_32 (by rw [w10]; omega) ?_
          refine j_eqS (st' := [vI (V 55 10 - 1), vI 0, vA 55]) (by rw [w10]) ?_
          refine j_cVV2 (ci := 12) hX hG lk_X12_237 (ok_X12_looks sW) (by decide) rfl (Nat.le_of_ble_eq_true rfl) (Nat.le_of_ble_eq_true rfl) (Nat.le_of_ble_eq_true rfl) rfl dX12_ring_33 (fun V_33 h_33 => ?_)
          obtain ⟨s_33, f_33⟩ := h_33
          rw [w68, w24] at s_33
          have n12 : V_33 55 12 = acc.length := (f_33.1 12 (by decide)).trans w12
          have jn_50 : ∀ (A : VV), (STA A (Except.bind (Except.bind (.ok s) fun s => (pNu (V 68) (V 55 24) 0 (V 55 10 - 1) s).map fun _ => s) fun s => if 16 ≤ (acc.length : Int) then .error (4, s) else .ok s)) → (fT W A) → J X G 50 [vA 55, vI m] [] A := by
            intro A sA fA
            refine j_al0 hX dX12_ring_50 rfl ?_
            refine j_pVI0 (ci := 12) hX hG lk_X12_204 (ok_X12_isWrong ) (by decide) rfl (Nat.le_of_ble_eq_true rfl) (Nat.le_of_ble_eq_true rfl) (Nat.le_of_ble_eq_true rfl) rfl dX12_ring_51 ?_
            refine j_ifz_eq (tgt := 58) hX dX12_ring_54 (by decide) (fun h_54 => ?_) (fun h_54 => ?_)
            · skip
              obtain ⟨hpn, hc16, rA⟩ := ring_r sA (Classical.byContradiction fun z => by first | exact h_54 z | exact z h_54)
              have a12 : A 55 12 = acc.length := (fA.1 12 (by decide)).trans w12
              have a68 : A 68 = V 68 := (funext fun b => fA.2 68 b (by decide)).trans w68
              have a24 : A 55 24 = V 55 24 := (fA.1 24 (by decide)).trans w24
              have aN : A 55 28 = sgN (V 68) (V 55 24) s := by
                have tk := rA.1.2.2.2
                rw [a68, a24] at tk
                exact tk.2.2 (tk.1.trans (pNu_t.mp hpn).1)
              refine j_al0 hX dX12_ring_58 rfl ?_
              refine j_getR (q := 62) hX hG fl_X12_28 rfl rfl (by decide) dX12_ring_59 ?_
              refine j_al0 hX dX12_ring_62 rfl ?_
              refine j_getI hX hG fl_X12_116 (Or.inl rfl) (by decide) dX12_ring_63 ?_
              refine j_al0 hX dX12_ring_66 rfl ?_
              refine j_getI hX hG fl_X12_198 (Or.inl rfl) (by decide) dX12_ring_67 ?_
              refine j_iast (n := 16) hX hG (by decide) (by omega) dX12_ring_70 ?_
              refine j_al0 hX dX12_ring_71 rfl ?_
              refine j_dup hX dX12_ring_72 rfl ?_
              refine j_getI hX hG fl_X12_116 (Or.inl rfl) (by decide) dX12_ring_73 ?_
              refine j_iconst hX dX12_ring_76 ⟨by decide, by decide⟩ ?_
              refine j_iadd hX dX12_ring_77 (by rw [up_n _ (by omega), a12]; omega) ?_
              refine j_putI hX hG fp_X12_116 rfl (by decide) dX12_ring_78 ?_
              generalize hN : up _ 55 12 _ = Y
              have y12 : Y 55 12 = acc.length + 1 := by rw [← hN, up_s, up_n _ (by omega), a12]
              have yF : ∀ b, b ≠ 12 → Y 55 b = A 55 b := fun b hb => by rw [← hN, up_n _ (by omega), up_n _ (by omega)]
              have yC : ∀ a b, a ≠ 55 → a ≠ 62 → Y a b = A a b := fun a b ha hb => by rw [← hN, up_n _ (by omega), up_n _ (by omega)]
              have y62 : ∀ b, b ≠ (acc.length : Int) → Y 62 b = W 62 b := fun b hb => by rw [← hN, up_n _ (by omega), up_n _ (by omega)]; exact fA.2 62 b (by decide)
              have y6 : Y 62 (acc.length : Int) = sgN (V 68) (V 55 24) s := by rw [← hN, up_n _ (by omega), a12, up_s]; exact aN
              clear hN
              have fY : fR W Y := ⟨fun b hb => (yF b (by omega)).trans (fA.1 b (by omega)), fun a b ha hb => (yC a b ha hb).trans (fA.2 a b ha)⟩
              have y68 : Y 68 = V 68 := (funext fun b => yC 68 b (by decide) (by decide)).trans a68
              have y24 : Y 55 24 = V 55 24 := (yF 24 (by decide)).trans a24
              have mtY : MTB Y := by unfold MTB; rw [y68, y24]; exact hmt
              have rY : RTS Y s := STA.c (r := .ok s) rA (fun b b0 b1 => yF b (by omega)) (funext fun b => yC 68 b (by decide) (by decide))
              refine j_al0 hX dX12_ring_81 rfl ?_
              refine j_cVV0 (ci := 12) hX hG lk_X12_222 (ok_X12_token mtY (tk_25 rY) rY.2.1) (by decide) rfl (Nat.le_of_ble_eq_true rfl) (Nat.le_of_ble_eq_true rfl) (Nat.le_of_ble_eq_true rfl) rfl dX12_ring_82 (fun V_82 h_82 => ?_)
              have u_82 := tk_to mtY rY h_82
              rw [y68, y24] at u_82
              obtain ⟨s_82, f_82⟩ := u_82
              have f7 : fR V V_82 := fR_t (fR_t fW fY) (fR_f f_82)
              have t7 : RGS V_82 (V 55 10) (acc ++ [sgN (V 68) (V 55 24) s]) := rgs_S tW (by have := (pNu_t.mp hpn).2; omega) ((f_82.1 12 (by decide)).trans y12) (fun b hb => (f_82.2 62 b (by decide)).trans (y62 b hb)) ((f_82.2 62 _ (by decide)).trans y6)
              have k7 : V_82 55 27 = sgK (V 68) (V 55 24) (sgX (V 68) (V 55 24) s) := by
                have z := s_82.1.2.2.2.1
                rw [show V_82 68 = V 68 from funext fun b => f7.2 68 b (by decide) (by decide), f7.1 24 (by decide)] at z
                exact z
              refine j_al0 hX dX12_ring_85 rfl ?_
              refine j_getI hX hG fl_X12_188 (Or.inl rfl) (by decide) dX12_ring_86 ?_
              refine j_iconst hX dX12_ring_89 ⟨by decide, by decide⟩ ?_
              refine j_icmp_eq (tgt := 101) hX dX12_ring_90 (by decide) (fun h_90 => ?_) (fun h_90 => ?_)
              · skip
                refine j_iconst hX dX12_ring_101 ⟨by decide, by decide⟩ ?_
                refine j_goto (tgt := 106) hX dX12_ring_102 (by decide) ?_
                refine j_is1 hX dX12_ring_106 rfl ?_
                refine j_goto (tgt := 14) hX dX12_ring_107 (by decide) ?_
                exact ih_14 _ (.ok (sgX (V 68) (V 55 24) s)) (acc ++ [sgN (V 68) (V 55 24) s]) _ (by first | exact ring_S (by omega) hT1 hpn (Or.inl ⟨by decide, by omega⟩) | exact ring_S (by omega) hT1 hpn (Or.inr ⟨rfl, by omega⟩)) s_82 t7 (by rw [List.length_append]; show acc.length + 1 ≤ 16 ∧ (_ → 1 ≤ acc.length + 1); omega) f7 (by rw [List.length_append]; show 17 - (acc.length + 1) < _; omega)
              · skip
                refine j_al0 hX dX12_ring_93 rfl ?_
                refine j_getI hX hG fl_X12_188 (Or.inl rfl) (by decide) dX12_ring_94 ?_
                refine j_iconst hX dX12_ring_97 ⟨by decide, by decide⟩ ?_
                refine j_icmp_ne (tgt := 105) hX dX12_ring_98 (by decide) (fun h_98 => ?_) (fun h_98 => ?_)
                · skip
                  refine j_iconst hX dX12_ring_105 ⟨by decide, by decide⟩ ?_
                  refine j_is1 hX dX12_ring_106 rfl ?_
                  refine j_goto (tgt := 14) hX dX12_ring_107 (by decide) ?_
                  exact ih_14 _ (.ok (sgX (V 68) (V 55 24) s)) (acc ++ [sgN (V 68) (V 55 24) s]) _ (by first | exact ring_S (by omega) hT1 hpn (Or.inl ⟨by decide, by omega⟩) | exact ring_S (by omega) hT1 hpn (Or.inr ⟨rfl, by omega⟩)) s_82 t7 (by rw [List.length_append]; show acc.length + 1 ≤ 16 ∧ (_ → 1 ≤ acc.length + 1); omega) f7 (by rw [List.length_append]; show 17 - (acc.length + 1) < _; omega)
                · skip
                  refine j_iconst hX dX12_ring_101 ⟨by decide, by decide⟩ ?_
                  refine j_goto (tgt := 106) hX dX12_ring_102 (by decide) ?_
                  refine j_is1 hX dX12_ring_106 rfl ?_
                  refine j_goto (tgt := 14) hX dX12_ring_107 (by decide) ?_
                  exact ih_14 _ (.ok (sgX (V 68) (V 55 24) s)) (acc ++ [sgN (V 68) (V 55 24) s]) _ (by first | exact ring_S (by omega) hT1 hpn (Or.inl ⟨by decide, by omega⟩) | exact ring_S (by omega) hT1 hpn (Or.inr ⟨rfl, by omega⟩)) s_82 t7 (by rw [List.length_append]; show acc.length + 1 ≤ 16 ∧ (_ → 1 ≤ acc.length + 1); omega) f7 (by rw [List.length_append]; show 17 - (acc.length + 1) < _; omega)
            · skip
              exact j_ret hR dX12_ring_57 (by
      obtain ⟨z, ez, zw⟩ := ring_e sA (by first | exact h_54 | omega)
      have hTz := hT1.trans (ring_z ez)
      exact ⟨by rw [hTz]; exact zw, fun xs s' e => (by rw [hTz] at e; cases e), fR_t fW (fR_f fA)⟩)
          refine j_al0 hX dX12_ring_36 rfl ?_
          refine j_getI hX hG fl_X12_116 (Or.inl rfl) (by decide) dX12_ring_37 ?_
          refine j_eqS (st' := [vI (acc.length : Int)]) (by rw [n12]) ?_
          refine j_bipush hX dX12_ring_40 (by decide) ⟨by decide, by decide⟩ ?_
          refine j_icmp_ne (tgt := 50) hX dX12_ring_42 (by decide) (fun h_42 => ?_) (fun h_42 => ?_)
          · skip
            exact jn_50 _ (by first | exact cn_n (by omega) s_33 | exact cn_y (by omega) s_47) (by first | exact f_33 | exact fT_t f_33 f_47)
          · skip
            refine j_al0 hX dX12_ring_45 rfl ?_
            refine j_iconst hX dX12_ring_46 ⟨by decide, by decide⟩ ?_
            refine j_cVV1 (ci := 12) hX hG lk_X12_228 (ok_X12_fails s_33 (by decide)) (by decide) rfl (Nat.le_of_ble_eq_true rfl) (Nat.le_of_ble_eq_true rfl) (Nat.le_of_ble_eq_true rfl) rfl dX12_ring_47 (fun V_47 h_47 => ?_)
            obtain ⟨s_47, f_47⟩ := h_47
            exact jn_50 _ (by first | exact cn_n (by omega) s_33 | exact cn_y (by omega) s_47) (by first | exact f_33 | exact fT_t f_33 f_47)
  exact lp_14 _ 1 (r.bind (pWd (V 68) (V 55 24) wRing)) [] _ totr_0 s4 t4 ⟨by decide, fun z => absurd z (by decide)⟩ f4 (Nat.lt_succ_self _)
