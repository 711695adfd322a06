theorem z01 {P : Prop} [Decidable P] (h : ¬ (if P then (1 : Int) else 0) = 0) : P := Classical.byContradiction fun q => h (if_neg q)
theorem z00 {P : Prop} [Decidable P] (h : (if P then (1 : Int) else 0) = 0) : ¬ P := fun q => absurd ((if_pos q).symm.trans h) (by decide)
def RTS (V : VV) (s : Int) : Prop := TKM V s ∧ (0 ≤ V 55 28 ∧ V 55 28 ≤ 99) ∧ V 55 29 = 0 ∧ V 55 30 = -1
def WRG (V : VV) (e : Int × Int) : Prop := (∃ s, TKM V s) ∧ (0 ≤ V 55 28 ∧ V 55 28 ≤ 99) ∧ V 55 29 = e.1 ∧ V 55 30 = e.2 ∧ e.1 ≠ 0
def STA (V : VV) (r : PR Int) : Prop := match r with
  | .ok s => RTS V s
  | .error e => WRG V e
def fT (V W : VV) : Prop := (∀ b, (b < 25 ∨ 30 < b) → W 55 b = V 55 b) ∧ ∀ a b, a ≠ 55 → W a b = V a b
theorem fT_0 {V : VV} : fT V V := ⟨fun _ _ => rfl, fun _ _ _ => rfl⟩
theorem fT_t {V W Z : VV} (h : fT V W) (h' : fT W Z) : fT V Z := ⟨fun b hb => (h'.1 b hb).trans (h.1 b hb), fun a b ha => (h'.2 a b ha).trans (h.2 a b ha)⟩
theorem fT_u {V W : VV} {j x : Int} (h : fT V W) (hj : 25 ≤ j ∧ j ≤ 30) : fT V (up W 55 j x) := ⟨fun b hb => by rw [up_n _ (by omega)]; exact h.1 b hb, fun a b ha => by rw [up_n _ (by omega)]; exact h.2 a b ha⟩
theorem MTB.f {V W : VV} (h : MTB V) (f : fT V W) : MTB W := by
  unfold MTB
  rw [f.1 24 (by decide), show W 68 = V 68 from funext fun b => f.2 68 b (by decide)]
  exact h
theorem TKM.c {V W : VV} {s : Int} (h : TKM V s) (e : ∀ b, 24 ≤ b → b ≤ 28 → W 55 b = V 55 b) (e' : W 68 = V 68) : TKM W s := by
  unfold TKM at h ⊢
  rw [e', e 24 (by decide) (by decide), e 25 (by decide) (by decide), e 26 (by decide) (by decide), e 27 (by decide) (by decide), e 28 (by decide) (by decide)]
  exact h
theorem STA.r {V : VV} {r : PR Int} (h : STA V r) (h0 : V 55 29 = 0) : ∃ s, r = .ok s ∧ RTS V s := by
  cases r with
  | ok s => exact ⟨s, rfl, h⟩
  | error e => exact absurd (h.2.2.1.symm.trans h0) h.2.2.2.2
theorem STA.er {V : VV} {r : PR Int} (h : STA V r) (h0 : V 55 29 ≠ 0) : ∃ e, r = .error e ∧ WRG V e := by
  cases r with
  | ok s => exact absurd h.2.2.1 h0
  | error e => exact ⟨e, rfl, h⟩
theorem STA.e {V : VV} {r : PR Int} (h : STA V r) (h0 : V 55 29 ≠ 0) : r = .error (V 55 29, V 55 30) := by
  obtain ⟨e, rfl, w⟩ := h.er h0
  rw [w.2.2.1, w.2.2.2.1]
theorem STA.w {V : VV} {r : PR Int} (h : STA V r) (h0 : V 55 29 ≠ 0) (f : Int → PR Int) : STA V (r.bind f) := by
  obtain ⟨e, rfl, w⟩ := h.er h0
  exact w
def isWM (T : Int → Int) (L : Int) (w : List Int) (r : PR Int) : Bool := match r with
  | .ok s => isWd T L s w
  | .error _ => false
def isSM (T : Int → Int) (L c : Int) (r : PR Int) : Bool := match r with
  | .ok s => isSy T L s c
  | .error _ => false
def twR (T : Int → Int) (L : Int) (w : List Int) (r : PR Int) : PR Int := match r with
  | .ok s => if isWd T L s w = true then .ok (sgX T L s) else .ok s
  | .error e => .error e
def tsR (T : Int → Int) (L c : Int) (r : PR Int) : PR Int := match r with
  | .ok s => if isSy T L s c = true then .ok (sgX T L s) else .ok s
  | .error e => .error e
theorem isWM_t {T : Int → Int} {L : Int} {w : List Int} {r : PR Int} : isWM T L w r = true ↔ ∃ s, r = .ok s ∧ isWd T L s w = true := by
  cases r with
  | ok s => exact ⟨fun h => ⟨s, rfl, h⟩, fun ⟨_, e, h⟩ => (by cases e; exact h)⟩
  | error e => exact ⟨fun h => (by cases h), fun ⟨_, e, _⟩ => (by cases e)⟩
theorem isSM_t {T : Int → Int} {L c : Int} {r : PR Int} : isSM T L c r = true ↔ ∃ s, r = .ok s ∧ isSy T L s c = true := by
  cases r with
  | ok s => exact ⟨fun h => ⟨s, rfl, h⟩, fun ⟨_, e, h⟩ => (by cases e; exact h)⟩
  | error e => exact ⟨fun h => (by cases h), fun ⟨_, e, _⟩ => (by cases e)⟩
theorem tw_n {T : Int → Int} {L : Int} {w : List Int} {r : PR Int} (h : ¬ isWM T L w r = true) : twR T L w r = r := by
  cases r with
  | ok s => exact if_neg h
  | error e => rfl
theorem ts_n {T : Int → Int} {L c : Int} {r : PR Int} (h : ¬ isSM T L c r = true) : tsR T L c r = r := by
  cases r with
  | ok s => exact if_neg h
  | error e => rfl
theorem tk_25 {V : VV} {s : Int} (h : RTS V s) : 0 ≤ V 55 25 ∧ V 55 25 ≤ V 55 24 := by
  obtain ⟨⟨k0, k1, -, -, k4, -⟩, -⟩ := h
  have hE := sgE_b (T := V 68) (L := V 55 24) (s := s) k1
  omega
theorem tk_to {V V' : VV} {s : Int} (hm : MTB V) (h : RTS V s) (t : TKM V' (sgS (V 68) (V 55 24) (V 55 25)) ∧ (0 ≤ V' 55 28 ∧ V' 55 28 ≤ 99) ∧ (∀ b, b ≠ 25 → b ≠ 26 → b ≠ 27 → b ≠ 28 → V' 55 b = V 55 b) ∧ ∀ a b, a ≠ 55 → V' a b = V a b) : STA V' (.ok (sgX (V 68) (V 55 24) s)) ∧ fT V V' := by
  obtain ⟨t1, t2, t3, t4⟩ := t
  rw [h.1.2.2.2.2.1] at t1
  exact ⟨⟨t1, t2, (t3 29 (by decide) (by decide) (by decide) (by decide)).trans h.2.2.1, (t3 30 (by decide) (by decide) (by decide) (by decide)).trans h.2.2.2⟩, fun b hb => t3 b (by omega) (by omega) (by omega) (by omega), t4⟩
theorem must_n {V : VV} {T : Int → Int} {L : Int} {w : List Int} {r : PR Int} (h : ¬ isWM T L w r = true) (hs : STA V ((twR T L w r).bind fun s => .error (1, s))) : STA V (r.bind (pWd T L w)) := by
  rw [tw_n h] at hs
  cases r with
  | ok s =>
    show STA V (if isWd T L s w = true then _ else _)
    rw [if_neg (show ¬ isWd T L s w = true from h)]
    exact hs
  | error e => exact hs
theorem ends_n {V : VV} {T : Int → Int} {L c : Int} {r : PR Int} (h : ¬ isSM T L c r = true) (hs : STA V ((tsR T L c r).bind fun s => .error (1, s))) : STA V (r.bind (pSy T L c)) := by
  rw [ts_n h] at hs
  cases r with
  | ok s =>
    show STA V (if isSy T L s c = true then _ else _)
    rw [if_neg (show ¬ isSy T L s c = true from h)]
    exact hs
  | error e => exact hs
theorem pNu_t {T : Int → Int} {L a b s : Int} : pNu T L a b s = .ok () ↔ sgK T L s = 2 ∧ a ≤ sgN T L s ∧ sgN T L s ≤ b := by
  unfold pNu
  by_cases h : sgK T L s = 2
  · rw [if_pos h]
    by_cases h2 : sgN T L s < a ∨ b < sgN T L s
    · rw [if_pos h2]; exact ⟨fun z => (by cases z), fun z => (by omega)⟩
    · rw [if_neg h2]; exact ⟨fun _ => (by omega), fun _ => rfl⟩
  · rw [if_neg h]; exact ⟨fun z => (by cases z), fun z => absurd z.1 h⟩
theorem lk_1 {V : VV} {T : Int → Int} {L a b s : Int} (h : sgK T L s ≠ 2) (hs : STA V (Except.bind (.ok s) fun s => .error (1, s))) : STA V (Except.bind (.ok s) fun s => (pNu T L a b s).map fun _ => s) := by
  show STA V ((pNu T L a b s).map fun _ => s)
  unfold pNu
  rw [if_neg h]; exact hs
theorem lk_2 {V : VV} {T : Int → Int} {L a b s : Int} (h : sgK T L s = 2) (h2 : sgN T L s < a ∨ b < sgN T L s) (hs : STA V (Except.bind (.ok s) fun s => .error (2, s))) : STA V (Except.bind (.ok s) fun s => (pNu T L a b s).map fun _ => s) := by
  show STA V ((pNu T L a b s).map fun _ => s)
  unfold pNu
  rw [if_pos h, if_pos h2]; exact hs
theorem lk_3 {V : VV} {T : Int → Int} {L a b s : Int} (h : sgK T L s = 2) (h2 : a ≤ sgN T L s ∧ sgN T L s ≤ b) (hs : RTS V s) : STA V (Except.bind (.ok s) fun s => (pNu T L a b s).map fun _ => s) := by
  show STA V ((pNu T L a b s).map fun _ => s)
  rw [pNu_t.mpr ⟨h, h2⟩]; exact hs
theorem lk_ok {W : VV} {T : Int → Int} {L a b : Int} {r : PR Int} (h : STA W (r.bind fun s => (pNu T L a b s).map fun _ => s)) (h0 : W 55 29 = 0) (e68 : W 68 = T) (e24 : W 55 24 = L) : ∃ s, r = .ok s ∧ pNu T L a b s = .ok () ∧ (RTS W s ∧ True) ∧ W 55 28 = sgN T L s := by
  cases r with
  | error e => exact absurd (h.2.2.1.symm.trans h0) h.2.2.2.2
  | ok s =>
    have h1 : STA W ((pNu T L a b s).map fun _ => s) := h
    cases hp : pNu T L a b s with
    | error e => rw [hp] at h1; exact absurd (h1.2.2.1.symm.trans h0) h1.2.2.2.2
    | ok u =>
      rw [hp] at h1
      have h2 : RTS W s := h1
      refine ⟨s, rfl, hp, ⟨h2, trivial⟩, ?_⟩
      have h3 := (pNu_t.mp hp).1
      have h4 := h2.1.2.2.2
      rw [e68, e24] at h4
      exact h4.2.2 (h4.1.trans h3)
theorem lk_r {W : VV} {T : Int → Int} {L a b s : Int} (hp : pNu T L a b s = .ok ()) (h : STA W (Except.bind (.ok s) fun s => (pNu T L a b s).map fun _ => s)) : W 55 29 = 0 := by
  have h1 : STA W ((pNu T L a b s).map fun _ => s) := h
  rw [hp] at h1
  exact h1.2.2.1
theorem fig_w {W : VV} {T : Int → Int} {L a b : Int} {f : Int → Int} {r : PR Int} (h : STA W (r.bind fun s => (pNu T L a b s).map fun _ => s)) (h0 : W 55 29 ≠ 0) : STA W (r.bind fun s => (pNu T L a b s).map fun _ => f s) := by
  cases r with
  | error e => exact h
  | ok s =>
    have h1 : STA W ((pNu T L a b s).map fun _ => s) := h
    show STA W ((pNu T L a b s).map fun _ => f s)
    cases hp : pNu T L a b s with
    | error e => rw [hp] at h1; exact h1
    | ok u => rw [hp] at h1; exact absurd h1.2.2.1 h0
set_option maxHeartbeats 4000000 in
theorem ok_X12_isWrong {V : VV}  : Ok NA yX12_isWrong cX12_isWrong 1 (some .boolean) 0 0 [vA 55] V (pI (fun x9 V' => x9 = (if V 55 29 ≠ 0 then 1 else 0) ∧ V' = V)) := by
  refine Ok.intro (by decide +kernel) (Nat.le_of_ble_eq_true rfl) (fun X G hX hG hR hoa hoV => ?_)
  show J X G 0 [vA 55] [] V
  refine j_al0 hX dX12_isWrong_0 rfl ?_
  refine j_getI hX hG fl_X12_201 (Or.inl rfl) (by decide) dX12_isWrong_1 ?_
  refine j_if_eq (tgt := 11) hX dX12_isWrong_4 (by decide) (fun h_4 => ?_) (fun h_4 => ?_)
  · skip
    refine j_iconst hX dX12_isWrong_11 ⟨by decide, by decide⟩ ?_
    exact j_retZ hR dX12_isWrong_12 (by omega) ⟨by first | exact (if_pos (by omega)).symm | exact (if_neg (by omega)).symm, rfl⟩
  · skip
    refine j_iconst hX dX12_isWrong_7 ⟨by decide, by decide⟩ ?_
    refine j_goto (tgt := 12) hX dX12_isWrong_8 (by decide) ?_
    exact j_retZ hR dX12_isWrong_12 (by omega) ⟨by first | exact (if_pos (by omega)).symm | exact (if_neg (by omega)).symm, rfl⟩
set_option maxHeartbeats 4000000 in
theorem ok_X12_fails {V : VV} {r : PR Int} {c : Int} (hst : STA V r) (hc : c ≠ 0) : Ok NA yX12_fails cX12_fails 2 none 1 20 [vA 55, vI c] V (pV (fun V' => STA V' (r.bind fun s => .error (c, s)) ∧ fT V V')) := by
  refine Ok.intro (by decide +kernel) (Nat.le_of_ble_eq_true rfl) (fun X G hX hG hR hoa hoV => ?_)
  show J X G 0 [vA 55, vI c] [] V
  refine j_al0 hX dX12_fails_0 rfl ?_
  refine j_pVI0 (ci := 12) hX hG lk_X12_204 (ok_X12_isWrong ) (by decide) rfl (Nat.le_of_ble_eq_true rfl) (Nat.le_of_ble_eq_true rfl) (Nat.le_of_ble_eq_true rfl) rfl dX12_fails_1 ?_
  refine j_ifz_eq (tgt := 8) hX dX12_fails_4 (by decide) (fun h_4 => ?_) (fun h_4 => ?_)
  · skip
    obtain ⟨s, er, rt⟩ := hst.r (Classical.byContradiction h_4)
    refine j_al0 hX dX12_fails_8 rfl ?_
    refine j_il1 hX dX12_fails_9 ?_
    refine j_putI hX hG fp_X12_201 rfl (by decide) dX12_fails_10 ?_
    refine j_al0 hX dX12_fails_13 rfl ?_
    refine j_al0 hX dX12_fails_14 rfl ?_
    refine j_getI hX hG fl_X12_185 (Or.inl rfl) (by decide) dX12_fails_15 ?_
    refine j_putI hX hG fp_X12_50 rfl (by decide) dX12_fails_18 ?_
    exact j_ret hR dX12_fails_21 ⟨by
      rw [er]
      show WRG _ (c, s)
      refine ⟨⟨s, rt.1.c (fun b b0 b1 => by rw [up_n _ (by omega), up_n _ (by omega)]) (by rw [up_r _ (by decide), up_r _ (by decide)])⟩, ?_, ?_, ?_, hc⟩
      · rw [up_n _ (by decide), up_n _ (by decide)]; exact rt.2.1
      · rw [up_n _ (by decide), up_s]
      · rw [up_s, up_n _ (by decide)]; exact rt.1.2.2.1, fT_u (fT_u fT_0 (by decide)) (by decide)⟩
  · skip
    exact j_ret hR dX12_fails_7 ⟨hst.w h_4 _, fT_0⟩
set_option maxHeartbeats 4000000 in
theorem ok_X12_isWord {V : VV} {r : PR Int} {k : Int} {q : String × Nat × String × List Int} (hmt : MTB V) (hst : STA V r) (hq : strs[k.toNat]? = some q) : Ok NA yX12_isWord cX12_isWord 3 (some .boolean) 4 85 [vA 55, vS k] V (pI (fun x9 V' => x9 = (if isWM (V 68) (V 55 24) q.2.2.2 r = true then 1 else 0) ∧ V' = V)) := by
  refine Ok.intro (by decide +kernel) (Nat.le_of_ble_eq_true rfl) (fun X G hX hG hR hoa hoV => ?_)
  show J X G 0 [vA 55, vS k, vU] [] V
  have ht1 := hmt.1
  have ht2 := hmt.2.1
  have hl20 := strs_l hq
  refine j_al0 hX dX12_isWord_0 rfl ?_
  refine j_pVI0 (ci := 12) hX hG lk_X12_204 (ok_X12_isWrong ) (by decide) rfl (Nat.le_of_ble_eq_true rfl) (Nat.le_of_ble_eq_true rfl) (Nat.le_of_ble_eq_true rfl) rfl dX12_isWord_1 ?_
  refine j_ifz_ne (tgt := 31) hX dX12_isWord_4 (by decide) (fun h_4 => ?_) (fun h_4 => ?_)
  · skip
    refine j_iconst hX dX12_isWord_31 ⟨by decide, by decide⟩ ?_
    exact j_retZ hR dX12_isWord_32 (by omega) ⟨by first
      | (rw [if_neg]; intro z; rw [er] at z; have := isWd_t.mp z; omega)
      | (rw [if_neg]; intro z; rw [hst.e h_4] at z; cases z), rfl⟩
  · skip
    obtain ⟨s, er, rt⟩ := hst.r (Classical.byContradiction h_4)
    obtain ⟨k0, k1, k2, k3, k4, k5⟩ := rt.1
    have hE := sgE_b (T := V 68) (L := V 55 24) (s := s) k1
    refine j_al0 hX dX12_isWord_7 rfl ?_
    refine j_getI hX hG fl_X12_188 (Or.inl rfl) (by decide) dX12_isWord_8 ?_
    refine j_iconst hX dX12_isWord_11 ⟨by decide, by decide⟩ ?_
    refine j_icmp_ne (tgt := 31) hX dX12_isWord_12 (by decide) (fun h_12 => ?_) (fun h_12 => ?_)
    · skip
      refine j_iconst hX dX12_isWord_31 ⟨by decide, by decide⟩ ?_
      exact j_retZ hR dX12_isWord_32 (by omega) ⟨by first
      | (rw [if_neg]; intro z; rw [er] at z; have := isWd_t.mp z; omega)
      | (rw [if_neg]; intro z; rw [hst.e h_4] at z; cases z), rfl⟩
    · skip
      refine j_al0 hX dX12_isWord_15 rfl ?_
      refine j_getI hX hG fl_X12_179 (Or.inl rfl) (by decide) dX12_isWord_16 ?_
      refine j_al0 hX dX12_isWord_19 rfl ?_
      refine j_getI hX hG fl_X12_185 (Or.inl rfl) (by decide) dX12_isWord_20 ?_
      refine j_isub hX dX12_isWord_23 (by omega) ?_
      refine j_al1 hX dX12_isWord_24 rfl ?_
      refine j_pTI0 hX (gNC hG) lk_X12_208 (ok_J0_length_8abf5 (by first | assumption | rfl)) (by assumption) rfl (Nat.le_of_ble_eq_true rfl) (Nat.le_of_ble_eq_true rfl) (Nat.le_of_ble_eq_true rfl) rfl dX12_isWord_25 ?_
      refine j_icmp_eq (tgt := 33) hX dX12_isWord_28 (by decide) (fun h_28 => ?_) (fun h_28 => ?_)
      · skip
        refine j_iconst hX dX12_isWord_33 ⟨by decide, by decide⟩ ?_
        refine j_is2 hX dX12_isWord_34 rfl ?_
        have lp_35 : ∀ (f9 : Nat) (i : Int), (0 ≤ i ∧ i ≤ q.2.2.2.length) → (∀ j : Int, 0 ≤ j → j < i → V 68 (s + j) = q.2.2.2.getD j.toNat 0) → (((q.2.2.2.length : Int) - i).toNat) < f9 → J X G 35 [vA 55, vS k, vI i] [] V := by
          intro f9
          induction f9 with
          | zero => intro i _ _ hm; exact absurd hm (Nat.not_lt_zero _)
          | succ f9 ih_35 =>
            intro i hi hj hm
            refine j_il2 hX dX12_isWord_35 ?_
            refine j_al1 hX dX12_isWord_36 rfl ?_
            refine j_pTI0 hX (gNC hG) lk_X12_208 (ok_J0_length_8abf5 (by first | assumption | rfl)) (by assumption) rfl (Nat.le_of_ble_eq_true rfl) (Nat.le_of_ble_eq_true rfl) (Nat.le_of_ble_eq_true rfl) rfl dX12_isWord_37 ?_
            refine j_icmp_ge (tgt := 69) hX dX12_isWord_40 (by decide) (fun h_40 => ?_) (fun h_40 => ?_)
            · skip
              refine j_iconst hX dX12_isWord_69 ⟨by decide, by decide⟩ ?_
              exact j_retZ hR dX12_isWord_70 (by omega) ⟨by rw [if_pos]; rw [er]; exact isWd_t.mpr ⟨by omega, by omega, fun j h0 h1 => hj j h0 (by omega)⟩, rfl⟩
            · skip
              obtain ⟨d, hd, hd1, hd2⟩ : ∃ d, (if s + i < V 55 24 then V 68 (s + i) else -1) = d ∧ (s + i < V 55 24 → d = V 68 (s + i)) ∧ (¬ s + i < V 55 24 → d = -1) := ⟨_, rfl, fun h => if_pos h, fun h => if_neg h⟩
              refine j_al0 hX dX12_isWord_43 rfl ?_
              refine j_al0 hX dX12_isWord_44 rfl ?_
              refine j_getI hX hG fl_X12_185 (Or.inl rfl) (by decide) dX12_isWord_45 ?_
              refine j_il2 hX dX12_isWord_48 ?_
              refine j_iadd hX dX12_isWord_49 (by omega) ?_
              refine j_pVI1 (ci := 12) hX hG lk_X12_182 (ok_X12_at (by omega) (by omega)) (by decide) rfl (Nat.le_of_ble_eq_true rfl) (Nat.le_of_ble_eq_true rfl) (Nat.le_of_ble_eq_true rfl) rfl dX12_isWord_50 ?_
              refine j_eqS (st' := [vI d]) (by rw [k2, hd]) ?_
              refine j_al1 hX dX12_isWord_53 rfl ?_
              refine j_il2 hX dX12_isWord_54 ?_
              refine j_pTI1 hX (gNC hG) lk_X12_214 (ok_J0_charAt_5068e (by first | assumption | rfl) (by first | assumption | omega | decide)) (by assumption) rfl (Nat.le_of_ble_eq_true rfl) (Nat.le_of_ble_eq_true rfl) (Nat.le_of_ble_eq_true rfl) rfl dX12_isWord_55 ?_
              refine j_icmp_eq (tgt := 63) hX dX12_isWord_58 (by decide) (fun h_58 => ?_) (fun h_58 => ?_)
              · skip
                refine j_inc2 hX dX12_isWord_63 rfl (by omega) ?_
                refine j_goto (tgt := 35) hX dX12_isWord_66 (by decide) ?_
                exact ih_35 _ (by omega) (lt_stepI hj (by rw [← hd1 (by omega)]; exact h_58)) (by omega)
              · skip
                refine j_iconst hX dX12_isWord_61 ⟨by decide, by decide⟩ ?_
                exact j_retZ hR dX12_isWord_62 (by omega) ⟨by rw [if_neg]; intro z; rw [er] at z; exact h_58 (by rw [hd1 (by omega)]; exact (isWd_t.mp z).2.2 i hi.1 (by omega)), rfl⟩
        exact lp_35 _ _ (by omega) (by omega) (Nat.lt_succ_self _)
      · skip
        refine j_iconst hX dX12_isWord_31 ⟨by decide, by decide⟩ ?_
        exact j_retZ hR dX12_isWord_32 (by omega) ⟨by first
      | (rw [if_neg]; intro z; rw [er] at z; have := isWd_t.mp z; omega)
      | (rw [if_neg]; intro z; rw [hst.e h_4] at z; cases z), rfl⟩
set_option maxHeartbeats 4000000 in
theorem ok_X12_takesWord {V : VV} {r : PR Int} {k : Int} {q : String × Nat × String × List Int} (hmt : MTB V) (hst : STA V r) (hq : strs[k.toNat]? = some q) : Ok NA yX12_takesWord cX12_takesWord 3 (some .boolean) 5 107 [vA 55, vS k] V (pI (fun x9 V' => x9 = (if isWM (V 68) (V 55 24) q.2.2.2 r = true then 1 else 0) ∧ STA V' (twR (V 68) (V 55 24) q.2.2.2 r) ∧ fT V V')) := by
  refine Ok.intro (by decide +kernel) (Nat.le_of_ble_eq_true rfl) (fun X G hX hG hR hoa hoV => ?_)
  show J X G 0 [vA 55, vS k, vU] [] V
  refine j_al0 hX dX12_takesWord_0 rfl ?_
  refine j_al1 hX dX12_takesWord_1 rfl ?_
  refine j_pVI1 (ci := 12) hX hG lk_X12_218 (ok_X12_isWord (by first | assumption | omega | decide) (by first | assumption | omega | decide) (by first | assumption | rfl)) (by decide) rfl (Nat.le_of_ble_eq_true rfl) (Nat.le_of_ble_eq_true rfl) (Nat.le_of_ble_eq_true rfl) rfl dX12_takesWord_2 ?_
  refine j_is2 hX dX12_takesWord_5 rfl ?_
  refine j_il2 hX dX12_takesWord_6 ?_
  refine j_ifz_eq (tgt := 14) hX dX12_takesWord_7 (by decide) (fun h_7 => ?_) (fun h_7 => ?_)
  · skip
    refine j_il2 hX dX12_takesWord_14 ?_
    exact j_retZ hR dX12_takesWord_15 (by omega) (by first
      | exact ⟨by rw [if_neg h_7], by rw [tw_n h_7]; exact hst, fT_0⟩
      | exact ⟨by rw [if_pos h_7], by rw [er]; show STA _ (if isWd _ _ s _ = true then _ else _); rw [if_pos hw9]; exact u_11.1, u_11.2⟩)
  · skip
    obtain ⟨s, er, hw9⟩ := isWM_t.mp h_7
    have rt : RTS V s := by rw [er] at hst; exact hst
    refine j_al0 hX dX12_takesWord_10 rfl ?_
    refine j_cVV0 (ci := 12) hX hG lk_X12_222 (ok_X12_token hmt (tk_25 rt) (rt).2.1) (by decide) rfl (Nat.le_of_ble_eq_true rfl) (Nat.le_of_ble_eq_true rfl) (Nat.le_of_ble_eq_true rfl) rfl dX12_takesWord_11 (fun V_11 h_11 => ?_)
    have u_11 := tk_to hmt rt h_11
    refine j_il2 hX dX12_takesWord_14 ?_
    exact j_retZ hR dX12_takesWord_15 (by omega) (by first
      | exact ⟨by rw [if_neg h_7], by rw [tw_n h_7]; exact hst, fT_0⟩
      | exact ⟨by rw [if_pos h_7], by rw [er]; show STA _ (if isWd _ _ s _ = true then _ else _); rw [if_pos hw9]; exact u_11.1, u_11.2⟩)
set_option maxHeartbeats 4000000 in
theorem ok_X12_must {V : VV} {r : PR Int} {k : Int} {q : String × Nat × String × List Int} (hmt : MTB V) (hst : STA V r) (hq : strs[k.toNat]? = some q) : Ok NA yX12_must cX12_must 2 none 6 129 [vA 55, vS k] V (pV (fun V' => STA V' (r.bind (pWd (V 68) (V 55 24) q.2.2.2)) ∧ fT V V')) := by
  refine Ok.intro (by decide +kernel) (Nat.le_of_ble_eq_true rfl) (fun X G hX hG hR hoa hoV => ?_)
  show J X G 0 [vA 55, vS k] [] V
  refine j_al0 hX dX12_must_0 rfl ?_
  refine j_al1 hX dX12_must_1 rfl ?_
  refine j_cVI1 (ci := 12) hX hG lk_X12_225 (ok_X12_takesWord (by first | assumption | omega | decide) (by first | assumption | omega | decide) (by first | assumption | rfl)) (by decide) rfl (Nat.le_of_ble_eq_true rfl) (Nat.le_of_ble_eq_true rfl) (Nat.le_of_ble_eq_true rfl) rfl dX12_must_2 (fun x_2 V_2 h_2 => ?_)
  obtain ⟨e_2, s_2, f_2⟩ := h_2
  rw [e_2]
  refine j_if_ne (tgt := 13) hX dX12_must_5 (by decide) (fun h_5 => ?_) (fun h_5 => ?_)
  · skip
    exact j_ret hR dX12_must_13 (by first
      | exact ⟨by obtain ⟨s, er, hw9⟩ := isWM_t.mp (z01 h_5); rw [er] at s_2 ⊢; show STA _ (if isWd _ _ s _ = true then _ else _); rw [if_pos hw9]; have s3 : STA _ (if isWd _ _ s _ = true then _ else _) := s_2; rw [if_pos hw9] at s3; exact s3, f_2⟩
      | exact ⟨must_n (z00 h_5) s_10, fT_t f_2 f_10⟩)
  · skip
    refine j_al0 hX dX12_must_8 rfl ?_
    refine j_iconst hX dX12_must_9 ⟨by decide, by decide⟩ ?_
    refine j_cVV1 (ci := 12) hX hG lk_X12_228 (ok_X12_fails s_2 (by decide)) (by decide) rfl (Nat.le_of_ble_eq_true rfl) (Nat.le_of_ble_eq_true rfl) (Nat.le_of_ble_eq_true rfl) rfl dX12_must_10 (fun V_10 h_10 => ?_)
    obtain ⟨s_10, f_10⟩ := h_10
    exact j_ret hR dX12_must_13 (by first
      | exact ⟨by obtain ⟨s, er, hw9⟩ := isWM_t.mp (z01 h_5); rw [er] at s_2 ⊢; show STA _ (if isWd _ _ s _ = true then _ else _); rw [if_pos hw9]; have s3 : STA _ (if isWd _ _ s _ = true then _ else _) := s_2; rw [if_pos hw9] at s3; exact s3, f_2⟩
      | exact ⟨must_n (z00 h_5) s_10, fT_t f_2 f_10⟩)
set_option maxHeartbeats 4000000 in
theorem ok_X12_isSign {V : VV} {r : PR Int} {c : Int} (hmt : MTB V) (hst : STA V r) (hc0 : 0 ≤ c) : Ok NA yX12_isSign cX12_isSign 2 (some .boolean) 1 21 [vA 55, vI c] V (pI (fun x9 V' => x9 = (if isSM (V 68) (V 55 24) c r = true then 1 else 0) ∧ V' = V)) := by
  refine Ok.intro (by decide +kernel) (Nat.le_of_ble_eq_true rfl) (fun X G hX hG hR hoa hoV => ?_)
  show J X G 0 [vA 55, vI c] [] V
  have ht1 := hmt.1
  have ht2 := hmt.2.1
  refine j_al0 hX dX12_isSign_0 rfl ?_
  refine j_pVI0 (ci := 12) hX hG lk_X12_204 (ok_X12_isWrong ) (by decide) rfl (Nat.le_of_ble_eq_true rfl) (Nat.le_of_ble_eq_true rfl) (Nat.le_of_ble_eq_true rfl) rfl dX12_isSign_1 ?_
  refine j_ifz_ne (tgt := 31) hX dX12_isSign_4 (by decide) (fun h_4 => ?_) (fun h_4 => ?_)
  · skip
    refine j_iconst hX dX12_isSign_31 ⟨by decide, by decide⟩ ?_
    exact j_retZ hR dX12_isSign_32 (by omega) ⟨by first
      | (rw [if_pos]; rw [er]; exact isSy_t.mpr ⟨by omega, by rw [← hd1 (sgK_lt (T := V 68) (by omega))]; exact h_24⟩)
      | (rw [if_neg]; intro z; rw [er] at z; have z2 := isSy_t.mp z; exact h_24 (by rw [hd1 (sgK_lt (T := V 68) (by omega))]; exact z2.2))
      | (rw [if_neg]; intro z; rw [er] at z; have z2 := isSy_t.mp z; omega)
      | (rw [if_neg]; intro z; rw [hst.e h_4] at z; cases z), rfl⟩
  · skip
    obtain ⟨s, er, rt⟩ := hst.r (Classical.byContradiction h_4)
    obtain ⟨k0, k1, k2, k3, k4, k5⟩ := rt.1
    have hE := sgE_b (T := V 68) (L := V 55 24) (s := s) k1
    obtain ⟨d, hd, hd1, hd2⟩ : ∃ d, (if s < V 55 24 then V 68 (s) else -1) = d ∧ (s < V 55 24 → d = V 68 (s)) ∧ (¬ s < V 55 24 → d = -1) := ⟨_, rfl, fun h => if_pos h, fun h => if_neg h⟩
    refine j_al0 hX dX12_isSign_7 rfl ?_
    refine j_getI hX hG fl_X12_188 (Or.inl rfl) (by decide) dX12_isSign_8 ?_
    refine j_iconst hX dX12_isSign_11 ⟨by decide, by decide⟩ ?_
    refine j_icmp_ne (tgt := 31) hX dX12_isSign_12 (by decide) (fun h_12 => ?_) (fun h_12 => ?_)
    · skip
      refine j_iconst hX dX12_isSign_31 ⟨by decide, by decide⟩ ?_
      exact j_retZ hR dX12_isSign_32 (by omega) ⟨by first
      | (rw [if_pos]; rw [er]; exact isSy_t.mpr ⟨by omega, by rw [← hd1 (sgK_lt (T := V 68) (by omega))]; exact h_24⟩)
      | (rw [if_neg]; intro z; rw [er] at z; have z2 := isSy_t.mp z; exact h_24 (by rw [hd1 (sgK_lt (T := V 68) (by omega))]; exact z2.2))
      | (rw [if_neg]; intro z; rw [er] at z; have z2 := isSy_t.mp z; omega)
      | (rw [if_neg]; intro z; rw [hst.e h_4] at z; cases z), rfl⟩
    · skip
      refine j_al0 hX dX12_isSign_15 rfl ?_
      refine j_al0 hX dX12_isSign_16 rfl ?_
      refine j_getI hX hG fl_X12_185 (Or.inl rfl) (by decide) dX12_isSign_17 ?_
      refine j_pVI1 (ci := 12) hX hG lk_X12_182 (ok_X12_at (by omega) (by omega)) (by decide) rfl (Nat.le_of_ble_eq_true rfl) (Nat.le_of_ble_eq_true rfl) (Nat.le_of_ble_eq_true rfl) rfl dX12_isSign_20 ?_
      refine j_eqS (st' := [vI d]) (by rw [k2, hd]) ?_
      refine j_il1 hX dX12_isSign_23 ?_
      refine j_icmp_ne (tgt := 31) hX dX12_isSign_24 (by decide) (fun h_24 => ?_) (fun h_24 => ?_)
      · skip
        refine j_iconst hX dX12_isSign_31 ⟨by decide, by decide⟩ ?_
        exact j_retZ hR dX12_isSign_32 (by omega) ⟨by first
      | (rw [if_pos]; rw [er]; exact isSy_t.mpr ⟨by omega, by rw [← hd1 (sgK_lt (T := V 68) (by omega))]; exact h_24⟩)
      | (rw [if_neg]; intro z; rw [er] at z; have z2 := isSy_t.mp z; exact h_24 (by rw [hd1 (sgK_lt (T := V 68) (by omega))]; exact z2.2))
      | (rw [if_neg]; intro z; rw [er] at z; have z2 := isSy_t.mp z; omega)
      | (rw [if_neg]; intro z; rw [hst.e h_4] at z; cases z), rfl⟩
      · skip
        refine j_iconst hX dX12_isSign_27 ⟨by decide, by decide⟩ ?_
        refine j_goto (tgt := 32) hX dX12_isSign_28 (by decide) ?_
        exact j_retZ hR dX12_isSign_32 (by omega) ⟨by first
      | (rw [if_pos]; rw [er]; exact isSy_t.mpr ⟨by omega, by rw [← hd1 (sgK_lt (T := V 68) (by omega))]; exact h_24⟩)
      | (rw [if_neg]; intro z; rw [er] at z; have z2 := isSy_t.mp z; exact h_24 (by rw [hd1 (sgK_lt (T := V 68) (by omega))]; exact z2.2))
      | (rw [if_neg]; intro z; rw [er] at z; have z2 := isSy_t.mp z; omega)
      | (rw [if_neg]; intro z; rw [hst.e h_4] at z; cases z), rfl⟩
set_option maxHeartbeats 4000000 in
theorem ok_X12_takesSign {V : VV} {r : PR Int} {c : Int} (hmt : MTB V) (hst : STA V r) (hc0 : 0 ≤ c) : Ok NA yX12_takesSign cX12_takesSign 3 (some .boolean) 2 42 [vA 55, vI c] V (pI (fun x9 V' => x9 = (if isSM (V 68) (V 55 24) c r = true then 1 else 0) ∧ STA V' (tsR (V 68) (V 55 24) c r) ∧ fT V V')) := by
  refine Ok.intro (by decide +kernel) (Nat.le_of_ble_eq_true rfl) (fun X G hX hG hR hoa hoV => ?_)
  show J X G 0 [vA 55, vI c, vU] [] V
  refine j_al0 hX dX12_takesSign_0 rfl ?_
  refine j_il1 hX dX12_takesSign_1 ?_
  refine j_pVI1 (ci := 12) hX hG lk_X12_231 (ok_X12_isSign (by first | assumption | omega | decide) (by first | assumption | omega | decide) (by first | assumption | omega | decide)) (by decide) rfl (Nat.le_of_ble_eq_true rfl) (Nat.le_of_ble_eq_true rfl) (Nat.le_of_ble_eq_true rfl) rfl dX12_takesSign_2 ?_
  refine j_is2 hX dX12_takesSign_5 rfl ?_
  refine j_il2 hX dX12_takesSign_6 ?_
  refine j_ifz_eq (tgt := 14) hX dX12_takesSign_7 (by decide) (fun h_7 => ?_) (fun h_7 => ?_)
  · skip
    refine j_il2 hX dX12_takesSign_14 ?_
    exact j_retZ hR dX12_takesSign_15 (by omega) (by first
      | exact ⟨by rw [if_neg h_7], by rw [ts_n h_7]; exact hst, fT_0⟩
      | exact ⟨by rw [if_pos h_7], by rw [er]; show STA _ (if isSy _ _ s _ = true then _ else _); rw [if_pos hw9]; exact u_11.1, u_11.2⟩)
  · skip
    obtain ⟨s, er, hw9⟩ := isSM_t.mp h_7
    have rt : RTS V s := by rw [er] at hst; exact hst
    refine j_al0 hX dX12_takesSign_10 rfl ?_
    refine j_cVV0 (ci := 12) hX hG lk_X12_222 (ok_X12_token hmt (tk_25 rt) (rt).2.1) (by decide) rfl (Nat.le_of_ble_eq_true rfl) (Nat.le_of_ble_eq_true rfl) (Nat.le_of_ble_eq_true rfl) rfl dX12_takesSign_11 (fun V_11 h_11 => ?_)
    have u_11 := tk_to hmt rt h_11
    refine j_il2 hX dX12_takesSign_14 ?_
    exact j_retZ hR dX12_takesSign_15 (by omega) (by first
      | exact ⟨by rw [if_neg h_7], by rw [ts_n h_7]; exact hst, fT_0⟩
      | exact ⟨by rw [if_pos h_7], by rw [er]; show STA _ (if isSy _ _ s _ = true then _ else _); rw [if_pos hw9]; exact u_11.1, u_11.2⟩)
set_option maxHeartbeats 4000000 in
theorem ok_X12_ends {V : VV} {r : PR Int} (hmt : MTB V) (hst : STA V r) : Ok NA yX12_ends cX12_ends 1 none 3 64 [vA 55] V (pV (fun V' => STA V' (r.bind (pSy (V 68) (V 55 24) 59)) ∧ fT V V')) := by
  refine Ok.intro (by decide +kernel) (Nat.le_of_ble_eq_true rfl) (fun X G hX hG hR hoa hoV => ?_)
  show J X G 0 [vA 55] [] V
  refine j_al0 hX dX12_ends_0 rfl ?_
  refine j_bipush hX dX12_ends_1 (by decide) ⟨by decide, by decide⟩ ?_
  refine j_cVI1 (ci := 12) hX hG lk_X12_234 (ok_X12_takesSign (by first | assumption | omega | decide) (by first | assumption | omega | decide) (by decide)) (by decide) rfl (Nat.le_of_ble_eq_true rfl) (Nat.le_of_ble_eq_true rfl) (Nat.le_of_ble_eq_true rfl) rfl dX12_ends_3 (fun x_3 V_3 h_3 => ?_)
  obtain ⟨e_3, s_3, f_3⟩ := h_3
  rw [e_3]
  refine j_if_ne (tgt := 14) hX dX12_ends_6 (by decide) (fun h_6 => ?_) (fun h_6 => ?_)
  · skip
    exact j_ret hR dX12_ends_14 (by first
      | exact ⟨by obtain ⟨s, er, hw9⟩ := isSM_t.mp (z01 h_6); rw [er] at s_3 ⊢; show STA _ (if isSy _ _ s _ = true then _ else _); rw [if_pos hw9]; have s3 : STA _ (if isSy _ _ s _ = true then _ else _) := s_3; rw [if_pos hw9] at s3; exact s3, f_3⟩
      | exact ⟨ends_n (z00 h_6) s_11, fT_t f_3 f_11⟩)
  · skip
    refine j_al0 hX dX12_ends_9 rfl ?_
    refine j_iconst hX dX12_ends_10 ⟨by decide, by decide⟩ ?_
    refine j_cVV1 (ci := 12) hX hG lk_X12_228 (ok_X12_fails s_3 (by decide)) (by decide) rfl (Nat.le_of_ble_eq_true rfl) (Nat.le_of_ble_eq_true rfl) (Nat.le_of_ble_eq_true rfl) rfl dX12_ends_11 (fun V_11 h_11 => ?_)
    obtain ⟨s_11, f_11⟩ := h_11
    exact j_ret hR dX12_ends_14 (by first
      | exact ⟨by obtain ⟨s, er, hw9⟩ := isSM_t.mp (z01 h_6); rw [er] at s_3 ⊢; show STA _ (if isSy _ _ s _ = true then _ else _); rw [if_pos hw9]; have s3 : STA _ (if isSy _ _ s _ = true then _ else _) := s_3; rw [if_pos hw9] at s3; exact s3, f_3⟩
      | exact ⟨ends_n (z00 h_6) s_11, fT_t f_3 f_11⟩)
set_option maxHeartbeats 4000000 in
theorem ok_X12_looks {V : VV} {r : PR Int} {a b : Int} (hst : STA V r) : Ok NA yX12_looks cX12_looks 3 none 2 41 [vA 55, vI a, vI b] V (pV (fun V' => STA V' (r.bind fun s => (pNu (V 68) (V 55 24) a b s).map fun _ => s) ∧ fT V V')) := by
  refine Ok.intro (by decide +kernel) (Nat.le_of_ble_eq_true rfl) (fun X G hX hG hR hoa hoV => ?_)
  show J X G 0 [vA 55, vI a, vI b] [] V
  refine j_al0 hX dX12_looks_0 rfl ?_
  refine j_pVI0 (ci := 12) hX hG lk_X12_204 (ok_X12_isWrong ) (by decide) rfl (Nat.le_of_ble_eq_true rfl) (Nat.le_of_ble_eq_true rfl) (Nat.le_of_ble_eq_true rfl) rfl dX12_looks_1 ?_
  refine j_ifz_eq (tgt := 8) hX dX12_looks_4 (by decide) (fun h_4 => ?_) (fun h_4 => ?_)
  · skip
    obtain ⟨s, er, rt⟩ := hst.r (Classical.byContradiction h_4)
    obtain ⟨k0, k1, k2, k3, k4, k5⟩ := rt.1
    refine j_al0 hX dX12_looks_8 rfl ?_
    refine j_getI hX hG fl_X12_188 (Or.inl rfl) (by decide) dX12_looks_9 ?_
    refine j_iconst hX dX12_looks_12 ⟨by decide, by decide⟩ ?_
    refine j_icmp_eq (tgt := 24) hX dX12_looks_13 (by decide) (fun h_13 => ?_) (fun h_13 => ?_)
    · skip
      refine j_al0 hX dX12_looks_24 rfl ?_
      refine j_getI hX hG fl_X12_198 (Or.inl rfl) (by decide) dX12_looks_25 ?_
      refine j_il1 hX dX12_looks_28 ?_
      refine j_il2 hX dX12_looks_29 ?_
      refine j_pSI3 hX hG lk_X12_172 (ok_X12_isIn ) (Nat.le_of_ble_eq_true rfl) (Nat.le_of_ble_eq_true rfl) (Nat.le_of_ble_eq_true rfl) rfl dX12_looks_30 ?_
      refine j_ifz_ne (tgt := 41) hX dX12_looks_33 (by decide) (fun h_33 => ?_) (fun h_33 => ?_)
      · skip
        exact j_ret hR dX12_looks_41 (by first
      | exact ⟨by rw [er] at s_18 ⊢; exact lk_1 (by omega) s_18, f_18⟩
      | exact ⟨by rw [er] at s_38 ⊢; exact lk_2 (by omega) (by have := k5 (by omega); omega) s_38, f_38⟩
      | exact ⟨by rw [er]; exact lk_3 (by omega) (by have := k5 (by omega); omega) rt, fT_0⟩)
      · skip
        refine j_al0 hX dX12_looks_36 rfl ?_
        refine j_iconst hX dX12_looks_37 ⟨by decide, by decide⟩ ?_
        refine j_cVV1 (ci := 12) hX hG lk_X12_228 (ok_X12_fails hst (by decide)) (by decide) rfl (Nat.le_of_ble_eq_true rfl) (Nat.le_of_ble_eq_true rfl) (Nat.le_of_ble_eq_true rfl) rfl dX12_looks_38 (fun V_38 h_38 => ?_)
        obtain ⟨s_38, f_38⟩ := h_38
        exact j_ret hR dX12_looks_41 (by first
      | exact ⟨by rw [er] at s_18 ⊢; exact lk_1 (by omega) s_18, f_18⟩
      | exact ⟨by rw [er] at s_38 ⊢; exact lk_2 (by omega) (by have := k5 (by omega); omega) s_38, f_38⟩
      | exact ⟨by rw [er]; exact lk_3 (by omega) (by have := k5 (by omega); omega) rt, fT_0⟩)
    · skip
      refine j_al0 hX dX12_looks_16 rfl ?_
      refine j_iconst hX dX12_looks_17 ⟨by decide, by decide⟩ ?_
      refine j_cVV1 (ci := 12) hX hG lk_X12_228 (ok_X12_fails hst (by decide)) (by decide) rfl (Nat.le_of_ble_eq_true rfl) (Nat.le_of_ble_eq_true rfl) (Nat.le_of_ble_eq_true rfl) rfl dX12_looks_18 (fun V_18 h_18 => ?_)
      obtain ⟨s_18, f_18⟩ := h_18
      refine j_goto (tgt := 41) hX dX12_looks_21 (by decide) ?_
      exact j_ret hR dX12_looks_41 (by first
      | exact ⟨by rw [er] at s_18 ⊢; exact lk_1 (by omega) s_18, f_18⟩
      | exact ⟨by rw [er] at s_38 ⊢; exact lk_2 (by omega) (by have := k5 (by omega); omega) s_38, f_38⟩
      | exact ⟨by rw [er]; exact lk_3 (by omega) (by have := k5 (by omega); omega) rt, fT_0⟩)
  · skip
    exact j_ret hR dX12_looks_7 ⟨hst.w h_4 _, fT_0⟩
set_option maxHeartbeats 4000000 in
theorem ok_X12_figure {V : VV} {r : PR Int} {a b : Int} (hmt : MTB V) (hst : STA V r) : Ok NA yX12_figure cX12_figure 4 (some .int) 3 63 [vA 55, vI a, vI b] V (pI (fun x9 V' => (a ≤ b → a ≤ x9 ∧ x9 ≤ b) ∧ (∀ s, r = .ok s → pNu (V 68) (V 55 24) a b s = .ok () → x9 = sgN (V 68) (V 55 24) s) ∧ STA V' (r.bind fun s => (pNu (V 68) (V 55 24) a b s).map fun _ => sgX (V 68) (V 55 24) s) ∧ fT V V')) := by
  refine Ok.intro (by decide +kernel) (Nat.le_of_ble_eq_true rfl) (fun X G hX hG hR hoa hoV => ?_)
  show J X G 0 [vA 55, vI a, vI b, vU] [] V
  refine j_al0 hX dX12_figure_0 rfl ?_
  refine j_il1 hX dX12_figure_1 ?_
  refine j_il2 hX dX12_figure_2 ?_
  refine j_cVV2 (ci := 12) hX hG lk_X12_237 (ok_X12_looks (by first | assumption | omega | decide)) (by decide) rfl (Nat.le_of_ble_eq_true rfl) (Nat.le_of_ble_eq_true rfl) (Nat.le_of_ble_eq_true rfl) rfl dX12_figure_3 (fun V_3 h_3 => ?_)
  obtain ⟨s_3, f_3⟩ := h_3
  have mt3 : MTB V_3 := hmt.f f_3
  have e24 : V_3 55 24 = V 55 24 := f_3.1 24 (by decide)
  have e68 : V_3 68 = V 68 := funext fun b => f_3.2 68 b (by decide)
  refine j_al0 hX dX12_figure_6 rfl ?_
  refine j_pVI0 (ci := 12) hX hG lk_X12_204 (ok_X12_isWrong ) (by decide) rfl (Nat.le_of_ble_eq_true rfl) (Nat.le_of_ble_eq_true rfl) (Nat.le_of_ble_eq_true rfl) rfl dX12_figure_7 ?_
  refine j_ifz_eq (tgt := 17) hX dX12_figure_10 (by decide) (fun h_10 => ?_) (fun h_10 => ?_)
  · skip
    refine j_al0 hX dX12_figure_17 rfl ?_
    refine j_getI hX hG fl_X12_198 (Or.inl rfl) (by decide) dX12_figure_18 ?_
    refine j_is3 hX dX12_figure_21 rfl ?_
    refine j_al0 hX dX12_figure_22 rfl ?_
    refine j_pVI0 (ci := 12) hX hG lk_X12_204 (ok_X12_isWrong ) (by decide) rfl (Nat.le_of_ble_eq_true rfl) (Nat.le_of_ble_eq_true rfl) (Nat.le_of_ble_eq_true rfl) rfl dX12_figure_23 ?_
    refine j_ifz_ne (tgt := 33) hX dX12_figure_26 (by decide) (fun h_26 => ?_) (fun h_26 => ?_)
    · skip
      refine j_il3 hX dX12_figure_33 ?_
      exact j_retI hR dX12_figure_34 (by first
      | (exfalso; first | exact h_10 (Classical.byContradiction h_26) | exact h_26 h_10 | exact absurd h_26 h_10)
      | exact ⟨fun _ => (pNu_t.mp pn).2 |> fun z => by omega, fun s' e' _ => by rw [er] at e'; cases e'; exact hn, by rw [er]; show STA _ ((pNu _ _ a b s).map _); rw [pn]; exact u_30.1, fT_t f_3 u_30.2⟩
      | exact ⟨fun h => by omega, fun s' e' pn' => by rw [e'] at s_3; exact absurd (lk_r pn' s_3) (by omega), fig_w s_3 (by omega), f_3⟩)
    · skip
      obtain ⟨s, er, pn, rt, hn⟩ := lk_ok s_3 (Classical.byContradiction h_26) e68 e24
      refine j_al0 hX dX12_figure_29 rfl ?_
      refine j_cVV0 (ci := 12) hX hG lk_X12_222 (ok_X12_token mt3 (tk_25 rt.1) rt.1.2.1) (by decide) rfl (Nat.le_of_ble_eq_true rfl) (Nat.le_of_ble_eq_true rfl) (Nat.le_of_ble_eq_true rfl) rfl dX12_figure_30 (fun V_30 h_30 => ?_)
      have u_30 := tk_to mt3 rt.1 h_30
      rw [e68, e24] at u_30
      refine j_il3 hX dX12_figure_33 ?_
      exact j_retI hR dX12_figure_34 (by first
      | (exfalso; first | exact h_10 (Classical.byContradiction h_26) | exact h_26 h_10 | exact absurd h_26 h_10)
      | exact ⟨fun _ => (pNu_t.mp pn).2 |> fun z => by omega, fun s' e' _ => by rw [er] at e'; cases e'; exact hn, by rw [er]; show STA _ ((pNu _ _ a b s).map _); rw [pn]; exact u_30.1, fT_t f_3 u_30.2⟩
      | exact ⟨fun h => by omega, fun s' e' pn' => by rw [e'] at s_3; exact absurd (lk_r pn' s_3) (by omega), fig_w s_3 (by omega), f_3⟩)
  · skip
    refine j_il1 hX dX12_figure_13 ?_
    refine j_goto (tgt := 21) hX dX12_figure_14 (by decide) ?_
    refine j_is3 hX dX12_figure_21 rfl ?_
    refine j_al0 hX dX12_figure_22 rfl ?_
    refine j_pVI0 (ci := 12) hX hG lk_X12_204 (ok_X12_isWrong ) (by decide) rfl (Nat.le_of_ble_eq_true rfl) (Nat.le_of_ble_eq_true rfl) (Nat.le_of_ble_eq_true rfl) rfl dX12_figure_23 ?_
    refine j_ifz_ne (tgt := 33) hX dX12_figure_26 (by decide) (fun h_26 => ?_) (fun h_26 => ?_)
    · skip
      refine j_il3 hX dX12_figure_33 ?_
      exact j_retI hR dX12_figure_34 (by first
      | (exfalso; first | exact h_10 (Classical.byContradiction h_26) | exact h_26 h_10 | exact absurd h_26 h_10)
      | exact ⟨fun _ => (pNu_t.mp pn).2 |> fun z => by omega, fun s' e' _ => by rw [er] at e'; cases e'; exact hn, by rw [er]; show STA _ ((pNu _ _ a b s).map _); rw [pn]; exact u_30.1, fT_t f_3 u_30.2⟩
      | exact ⟨fun h => by omega, fun s' e' pn' => by rw [e'] at s_3; exact absurd (lk_r pn' s_3) (by omega), fig_w s_3 (by omega), f_3⟩)
    · skip
      obtain ⟨s, er, pn, rt, hn⟩ := lk_ok s_3 (Classical.byContradiction h_26) e68 e24
      refine j_al0 hX dX12_figure_29 rfl ?_
      refine j_cVV0 (ci := 12) hX hG lk_X12_222 (ok_X12_token mt3 (tk_25 rt.1) rt.1.2.1) (by decide) rfl (Nat.le_of_ble_eq_true rfl) (Nat.le_of_ble_eq_true rfl) (Nat.le_of_ble_eq_true rfl) rfl dX12_figure_30 (fun V_30 h_30 => ?_)
      have u_30 := tk_to mt3 rt.1 h_30
      rw [e68, e24] at u_30
      refine j_il3 hX dX12_figure_33 ?_
      exact j_retI hR dX12_figure_34 (by first
      | (exfalso; first | exact h_10 (Classical.byContradiction h_26) | exact h_26 h_10 | exact absurd h_26 h_10)
      | exact ⟨fun _ => (pNu_t.mp pn).2 |> fun z => by omega, fun s' e' _ => by rw [er] at e'; cases e'; exact hn, by rw [er]; show STA _ ((pNu _ _ a b s).map _); rw [pn]; exact u_30.1, fT_t f_3 u_30.2⟩
      | exact ⟨fun h => by omega, fun s' e' pn' => by rw [e'] at s_3; exact absurd (lk_r pn' s_3) (by omega), fig_w s_3 (by omega), f_3⟩)
