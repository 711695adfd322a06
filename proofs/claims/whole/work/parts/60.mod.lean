def fG (V W : VV) : Prop := (∀ b, ((b < 25 ∧ b ≠ 10) ∨ 30 < b) → W 55 b = V 55 b) ∧ ∀ a b, a ≠ 55 → a ≠ 60 → W a b = V a b
theorem fG_f {V W : VV} (h : fT V W) : fG V W := ⟨fun b hb => h.1 b (by omega), fun a b ha _ => h.2 a b ha⟩
theorem STA.c {V W : VV} {r : PR Int} (h : STA V r) (e : ∀ b, 24 ≤ b → b ≤ 30 → W 55 b = V 55 b) (e' : W 68 = V 68) : STA W r := by
  cases r with
  | ok s => exact ⟨h.1.c (fun b b0 b1 => e b b0 (by omega)) e', by rw [e 28 (by decide) (by decide)]; exact h.2.1, by rw [e 29 (by decide) (by decide)]; exact h.2.2.1, by rw [e 30 (by decide) (by decide)]; exact h.2.2.2⟩
  | error z =>
    obtain ⟨⟨s, h0⟩, h1, h2, h3, h4⟩ := h
    exact ⟨⟨s, h0.c (fun b b0 b1 => e b b0 (by omega)) e'⟩, by rw [e 28 (by decide) (by decide)]; exact h1, by rw [e 29 (by decide) (by decide)]; exact h2, by rw [e 30 (by decide) (by decide)]; exact h3, h4⟩
def KND (T : Int → Int) (L : Int) (r : PR Int) (t : Int) : Prop := (t = 0 ∧ ∃ s, r = .ok s ∧ isWd T L s wCyclic = true) ∨ (t = 1 ∧ ∃ s, r = .ok s ∧ isWd T L s wKlein = true) ∨ (t = 2 ∧ ∃ s, r = .ok s ∧ isWd T L s wSym = true) ∨ (t = -1 ∧ ∀ s, r = .ok s → ¬ isWd T L s wCyclic = true ∧ ¬ isWd T L s wKlein = true ∧ ¬ isWd T L s wSym = true)
theorem wd_l {T : Int → Int} {L s : Int} {w u : List Int} (h : isWd T L s w = true) (h' : isWd T L s u = true) : w.length = u.length := by
  have h1 := (isWd_t.mp h).2.1
  have h2 := (isWd_t.mp h').2.1
  omega
theorem grp_q {t x : Int} (ht : t = 0) (hx : 2 ≤ x ∧ x ≤ 6) : x.toNat - 2 < 7 ∧ x = gO (x.toNat - 2) ∧ ((t = 0 ∧ x.toNat - 2 ≤ 4) ∨ (t = 1 ∧ x.toNat - 2 = 5) ∨ (t = 2 ∧ x.toNat - 2 = 6)) := by
  refine ⟨by omega, ?_, Or.inl ⟨ht, by omega⟩⟩
  unfold gO
  rw [if_pos (by omega)]
  omega
theorem grp_0 {T : Int → Int} {L s : Int} (h : ¬ isWd T L s wCyclic = true ∧ ¬ isWd T L s wKlein = true ∧ ¬ isWd T L s wSym = true) : pGroup T L s = .error (1, s) := by
  unfold pGroup pWd
  rw [if_neg h.2.1, if_neg h.2.2, if_neg h.1]
  rfl
theorem grp_1 {T : Int → Int} {L s : Int} (h : isWd T L s wKlein = true) : pGroup T L s = (pSy T L 59 (sgX T L s)).map (fun a => (5, a)) := by
  unfold pGroup
  rw [if_pos h]
theorem grp_2 {T : Int → Int} {L s : Int} (h : isWd T L s wSym = true) : pGroup T L s = (pSy T L 59 (sgX T L s)).map (fun a => (6, a)) := by
  unfold pGroup
  rw [if_neg (fun z => absurd (wd_l h z) (by decide)), if_pos h]
theorem grp_3 {T : Int → Int} {L s : Int} (h : isWd T L s wCyclic = true) : pGroup T L s = (pNu T L 2 6 (sgX T L s)).bind fun _ => (pSy T L 59 (sgX T L (sgX T L s))).map (fun a => ((sgN T L (sgX T L s)).toNat - 2, a)) := by
  unfold pGroup pWd
  rw [if_neg (fun z => absurd (wd_l h z) (by decide)), if_neg (fun z => absurd (wd_l h z) (by decide)), if_pos h]
  rfl
theorem grp_w {W : VV} {T : Int → Int} {L t : Int} {r : PR Int} (hK : KND T L r t) (h : STA W (if t = -1 then r.bind (fun s => .error (1, s)) else r)) (h0 : W 55 29 ≠ 0) : STA W (r.bind fun s => (pGroup T L s).map Prod.snd) := by
  cases r with
  | error e =>
    have h1 : STA W (.error e) := by
      by_cases z : t = -1
      · rw [if_pos z] at h; exact h
      · rw [if_neg z] at h; exact h
    exact h1
  | ok s =>
    by_cases z : t = -1
    · rw [if_pos z] at h
      rcases hK with q | q | q | q
      · omega
      · omega
      · omega
      · show STA W ((pGroup T L s).map Prod.snd)
        rw [grp_0 (q.2 s rfl)]; exact h
    · rw [if_neg z] at h
      exact absurd h.2.2.1 h0
theorem grp_e {W : VV} {T : Int → Int} {L t s : Int} {q : Nat} {s' : Int} (hK : KND T L (.ok s) t) (h : STA W (if t = -1 then Except.bind (.ok s) (fun s => .error (1, s)) else .ok s)) (h0 : W 55 29 ≠ 0) (e : pGroup T L s = .ok (q, s')) : False := by
  by_cases z : t = -1
  · rcases hK with q | q | q | q
    · omega
    · omega
    · omega
    · rw [grp_0 (q.2 s rfl)] at e; cases e
  · rw [if_neg z] at h
    exact absurd h.2.2.1 h0
theorem map_snd {q : Nat} {x : PR Int} : (x.map (fun a => (q, a))).map Prod.snd = x := by cases x <;> rfl
theorem grp_s {V : VV} {T : Int → Int} {L t s : Int} (hK : KND T L (.ok s) t) (ht : t ≠ -1) (h : STA V ((if t = 0 then (pNu T L 2 6 (sgX T L s)).map (fun _ => sgX T L (sgX T L s)) else .ok (sgX T L s)).bind (pSy T L 59))) : STA V (Except.bind (.ok s) fun s => (pGroup T L s).map Prod.snd) := by
  show STA V ((pGroup T L s).map Prod.snd)
  rcases hK with ⟨e, s', e1, q⟩ | ⟨e, s', e1, q⟩ | ⟨e, s', e1, q⟩ | q
  · cases e1
    rw [grp_3 q]
    rw [if_pos e] at h
    cases hp : pNu T L 2 6 (sgX T L s) with
    | error z => rw [hp] at h; exact h
    | ok u =>
      rw [hp] at h
      show STA V (((pSy T L 59 (sgX T L (sgX T L s))).map _).map Prod.snd)
      rw [map_snd]; exact h
  · cases e1
    rw [grp_1 q, map_snd]
    rw [if_neg (by omega)] at h
    exact h
  · cases e1
    rw [grp_2 q, map_snd]
    rw [if_neg (by omega)] at h
    exact h
  · exact absurd q.1 ht
theorem grp_u {T : Int → Int} {L t s : Int} {q q' : Nat} {s' : Int} (hK : KND T L (.ok s) t) (ht : t ≠ -1) (hq : q < 7) (hqt : (t = 0 ∧ q ≤ 4) ∨ (t = 1 ∧ q = 5) ∨ (t = 2 ∧ q = 6)) (hv : t = 0 → pNu T L 2 6 (sgX T L s) = .ok () → (gO q : Int) = sgN T L (sgX T L s)) (e : pGroup T L s = .ok (q', s')) : q' = q := by
  rcases hK with ⟨e0, s', e1, k⟩ | ⟨e0, s', e1, k⟩ | ⟨e0, s', e1, k⟩ | k
  · cases e1
    rw [grp_3 k] at e
    have hq4 : q ≤ 4 := by omega
    cases hp : pNu T L 2 6 (sgX T L s) with
    | error z => rw [hp] at e; cases e
    | ok u =>
      have h1 := hv e0 hp
      have h2 : gO q = q + 2 := by unfold gO; rw [if_pos hq4]
      rw [hp] at e
      have e2 : (pSy T L 59 (sgX T L (sgX T L s))).map (fun a => ((sgN T L (sgX T L s)).toNat - 2, a)) = .ok (q', _) := e
      cases hs : pSy T L 59 (sgX T L (sgX T L s)) with
      | error z => rw [hs] at e2; cases e2
      | ok u2 =>
        rw [hs] at e2
        have e3 := Except.ok.inj e2
        have e4 : (sgN T L (sgX T L s)).toNat - 2 = q' := congrArg Prod.fst e3
        omega
  · cases e1
    rw [grp_1 k] at e
    cases hs : pSy T L 59 (sgX T L s) with
    | error z => rw [hs] at e; cases e
    | ok u2 =>
      rw [hs] at e
      have e4 : 5 = q' := congrArg Prod.fst (Except.ok.inj e)
      omega
  · cases e1
    rw [grp_2 k] at e
    cases hs : pSy T L 59 (sgX T L s) with
    | error z => rw [hs] at e; cases e
    | ok u2 =>
      rw [hs] at e
      have e4 : 6 = q' := congrArg Prod.fst (Except.ok.inj e)
      omega
  · exact absurd k.1 ht
set_option maxHeartbeats 4000000 in
theorem ok_X12_group {V : VV} {r : PR Int} (hmt : MTB V) (hst : STA V r) (hg0 : 2 ≤ V 55 10 ∧ V 55 10 ≤ 6) : Ok NA yX12_group cX12_group 2 none 5 107 [vA 55] V (pV (fun V' => STA V' (r.bind fun s => (pGroup (V 68) (V 55 24) s).map Prod.snd) ∧ (2 ≤ V' 55 10 ∧ V' 55 10 ≤ 6) ∧ (∀ s q s', r = .ok s → pGroup (V 68) (V 55 24) s = .ok (q, s') → q < 7 ∧ V' 55 10 = gO q ∧ ∀ a b : Int, 0 ≤ a → a < gO q → 0 ≤ b → b < gO q → V' 60 (gO q * a + b) = gM q a b) ∧ fG V V')) := by
  refine Ok.intro (by decide +kernel) (Nat.le_of_ble_eq_true rfl) (fun X G hX hG hR hoa hoV => ?_)
  show J X G 0 [vA 55, vU] [] V
  have jn_40 : ∀ (t : Int), (KND (V 68) (V 55 24) r t) → J X G 40 [vA 55, vU] [vI t] V := by
    intro t hK
    refine j_is1 hX dX12_group_40 rfl ?_
    have jn_51 : ∀ (W : VV), (STA W (if t = -1 then r.bind (fun s => .error (1, s)) else r)) → (fT V W) → J X G 51 [vA 55, vI t] [] W := by
      intro W sW fW
      refine j_al0 hX dX12_group_51 rfl ?_
      refine j_pVI0 (ci := 12) hX hG lk_X12_204 (ok_X12_isWrong ) (by decide) rfl (Nat.le_of_ble_eq_true rfl) (Nat.le_of_ble_eq_true rfl) (Nat.le_of_ble_eq_true rfl) rfl dX12_group_52 ?_
      refine j_ifz_eq (tgt := 59) hX dX12_group_55 (by decide) (fun h_55 => ?_) (fun h_55 => ?_)
      · skip
        obtain ⟨s, er1, rt⟩ := sW.r (Classical.byContradiction h_55)
        have htn : t ≠ -1 := fun z => by rw [if_pos z] at er1; cases r with
          | ok s => cases er1
          | error e => cases er1
        have er : r = .ok s := by rw [if_neg htn] at er1; exact er1
        have mtW : MTB W := hmt.f fW
        have e68 : W 68 = V 68 := funext fun b => fW.2 68 b (by decide)
        have e24 : W 55 24 = V 55 24 := fW.1 24 (by decide)
        refine j_al0 hX dX12_group_59 rfl ?_
        refine j_cVV0 (ci := 12) hX hG lk_X12_222 (ok_X12_token mtW (tk_25 rt) rt.2.1) (by decide) rfl (Nat.le_of_ble_eq_true rfl) (Nat.le_of_ble_eq_true rfl) (Nat.le_of_ble_eq_true rfl) rfl dX12_group_60 (fun V_60 h_60 => ?_)
        have u_60 := tk_to mtW rt h_60
        rw [e68, e24] at u_60
        have sT60 := u_60.1
        have fT60 := fT_t fW u_60.2
        have mt60 : MTB V_60 := hmt.f fT60
        have x68 : V_60 68 = V 68 := funext fun b => fT60.2 68 b (by decide)
        have x24 : V_60 55 24 = V 55 24 := fT60.1 24 (by decide)
        have jn_89 : ∀ (n : Int) (q : Nat) (Z : VV), (q < 7 ∧ n = gO q ∧ ((t = 0 ∧ q ≤ 4) ∨ (t = 1 ∧ q = 5) ∨ (t = 2 ∧ q = 6))) → (STA Z (if t = 0 then (pNu (V 68) (V 55 24) 2 6 (sgX (V 68) (V 55 24) s)).map (fun _ => sgX (V 68) (V 55 24) (sgX (V 68) (V 55 24) s)) else .ok (sgX (V 68) (V 55 24) s))) → (fT V Z) → (t = 0 → pNu (V 68) (V 55 24) 2 6 (sgX (V 68) (V 55 24) s) = .ok () → n = sgN (V 68) (V 55 24) (sgX (V 68) (V 55 24) s)) → J X G 89 [vA 55, vI t] [vI n, vA 55] Z := by
          intro n q Z hqq sZ fZ hvz
          refine j_putI hX hG fp_X12_110 rfl (by decide) dX12_group_89 ?_
          generalize hN : up Z 55 10 n = N
          have n10 : N 55 10 = gO q := by rw [← hN, up_s]; exact hqq.2.1
          have nF : ∀ b, b ≠ 10 → N 55 b = Z 55 b := fun b hb => by rw [← hN, up_n _ (by omega)]
          have nC : ∀ a b, a ≠ 55 → N a b = Z a b := fun a b ha => by rw [← hN, up_n _ (by omega)]
          clear hN
          refine j_al0 hX dX12_group_92 rfl ?_
          refine j_il1 hX dX12_group_93 ?_
          refine j_cVV1 (ci := 12) hX hG lk_X12_119 (ok_X12_laysGroup hqq.1 n10 hqq.2.2) (by decide) rfl (Nat.le_of_ble_eq_true rfl) (Nat.le_of_ble_eq_true rfl) (Nat.le_of_ble_eq_true rfl) rfl dX12_group_94 (fun V_94 h_94 => ?_)
          obtain ⟨t_94, f_94⟩ := h_94
          have y68 : V_94 68 = V 68 := funext fun b => (f_94 68 b (by decide)).trans ((nC 68 b (by decide)).trans (fZ.2 68 b (by decide)))
          have y24 : V_94 55 24 = V 55 24 := (f_94 55 24 (by decide)).trans ((nF 24 (by decide)).trans (fZ.1 24 (by decide)))
          have y10 : V_94 55 10 = gO q := (f_94 55 10 (by decide)).trans n10
          have mt94 : MTB V_94 := by unfold MTB; rw [y68, y24]; exact hmt
          have s_94 := sZ.c (fun b b0 b1 => (f_94 55 b (by decide)).trans (nF b (by omega))) (funext fun b => (f_94 68 b (by decide)).trans (nC 68 b (by decide)))
          refine j_al0 hX dX12_group_97 rfl ?_
          refine j_cVV0 (ci := 12) hX hG lk_X12_250 (ok_X12_ends mt94 s_94) (by decide) rfl (Nat.le_of_ble_eq_true rfl) (Nat.le_of_ble_eq_true rfl) (Nat.le_of_ble_eq_true rfl) rfl dX12_group_98 (fun V_98 h_98 => ?_)
          obtain ⟨s_98, f_98⟩ := h_98
          rw [y68, y24] at s_98
          exact j_ret hR dX12_group_101 (by
      have g10 : V_98 55 10 = gO q := (f_98.1 10 (by decide)).trans y10
      have h6 := gO_le hqq.1
      subst er
      refine ⟨grp_s hK htn s_98, by omega, fun s' q' s2 e e2 => ?_, ?_⟩
      · cases e
        have eq : q' = q := grp_u hK htn hqq.1 hqq.2.2 (fun z1 z2 => by rw [← hqq.2.1]; exact hvz z1 z2) e2
        subst eq
        exact ⟨hqq.1, g10, fun a b a0 a1 b0 b1 => by rw [f_98.2 60 _ (by decide)]; exact t_94 a b a0 a1 b0 b1⟩
      · exact ⟨fun b hb => (f_98.1 b (by omega)).trans ((f_94 55 b (by decide)).trans ((nF b (by omega)).trans (fZ.1 b (by omega)))), fun a b ha hb => (f_98.2 a b ha).trans ((f_94 a b (by simp; exact hb)).trans ((nC a b ha).trans (fZ.2 a b ha)))⟩)
        refine j_al0 hX dX12_group_63 rfl ?_
        refine j_il1 hX dX12_group_64 ?_
        refine j_if_ne (tgt := 78) hX dX12_group_65 (by decide) (fun h_65 => ?_) (fun h_65 => ?_)
        · skip
          refine j_il1 hX dX12_group_78 ?_
          refine j_iconst hX dX12_group_79 ⟨by decide, by decide⟩ ?_
          refine j_icmp_ne (tgt := 87) hX dX12_group_80 (by decide) (fun h_80 => ?_) (fun h_80 => ?_)
          · skip
            refine j_bipush hX dX12_group_87 (by decide) ⟨by decide, by decide⟩ ?_
            first | exact jn_89 _ (x_72.toNat - 2) _ (grp_q (by omega) (b_72 (by decide))) (by rw [if_pos (by omega)]; exact s_72) (fT_t fT60 f_72) (fun _ z => v_72 _ rfl z) | exact jn_89 _ 5 _ ⟨by decide, rfl, Or.inr (Or.inl ⟨by omega, rfl⟩)⟩ (by rw [if_neg (by omega)]; exact sT60) fT60 (fun z _ => by omega) | exact jn_89 _ 6 _ ⟨by decide, rfl, Or.inr (Or.inr ⟨by rcases hK with z | z | z | z <;> omega, rfl⟩)⟩ (by rw [if_neg (by omega)]; exact sT60) fT60 (fun z _ => by omega)
          · skip
            refine j_iconst hX dX12_group_83 ⟨by decide, by decide⟩ ?_
            refine j_goto (tgt := 89) hX dX12_group_84 (by decide) ?_
            first | exact jn_89 _ (x_72.toNat - 2) _ (grp_q (by omega) (b_72 (by decide))) (by rw [if_pos (by omega)]; exact s_72) (fT_t fT60 f_72) (fun _ z => v_72 _ rfl z) | exact jn_89 _ 5 _ ⟨by decide, rfl, Or.inr (Or.inl ⟨by omega, rfl⟩)⟩ (by rw [if_neg (by omega)]; exact sT60) fT60 (fun z _ => by omega) | exact jn_89 _ 6 _ ⟨by decide, rfl, Or.inr (Or.inr ⟨by rcases hK with z | z | z | z <;> omega, rfl⟩)⟩ (by rw [if_neg (by omega)]; exact sT60) fT60 (fun z _ => by omega)
        · skip
          refine j_al0 hX dX12_group_68 rfl ?_
          refine j_iconst hX dX12_group_69 ⟨by decide, by decide⟩ ?_
          refine j_bipush hX dX12_group_70 (by decide) ⟨by decide, by decide⟩ ?_
          refine j_cVI2 (ci := 12) hX hG lk_X12_247 (ok_X12_figure mt60 sT60) (by decide) rfl (Nat.le_of_ble_eq_true rfl) (Nat.le_of_ble_eq_true rfl) (Nat.le_of_ble_eq_true rfl) rfl dX12_group_72 (fun x_72 V_72 h_72 => ?_)
          obtain ⟨b_72, v_72, s_72, f_72⟩ := h_72
          rw [x68, x24] at v_72 s_72
          refine j_goto (tgt := 89) hX dX12_group_75 (by decide) ?_
          first | exact jn_89 _ (x_72.toNat - 2) _ (grp_q (by omega) (b_72 (by decide))) (by rw [if_pos (by omega)]; exact s_72) (fT_t fT60 f_72) (fun _ z => v_72 _ rfl z) | exact jn_89 _ 5 _ ⟨by decide, rfl, Or.inr (Or.inl ⟨by omega, rfl⟩)⟩ (by rw [if_neg (by omega)]; exact sT60) fT60 (fun z _ => by omega) | exact jn_89 _ 6 _ ⟨by decide, rfl, Or.inr (Or.inr ⟨by rcases hK with z | z | z | z <;> omega, rfl⟩)⟩ (by rw [if_neg (by omega)]; exact sT60) fT60 (fun z _ => by omega)
      · skip
        exact j_ret hR dX12_group_58 ⟨grp_w hK sW (by simpa using h_55), by rw [fW.1 10 (by decide)]; exact hg0, fun s q s' e => by rw [e] at sW hK; exact fun z => absurd (grp_e hK sW (by simpa using h_55) z) id, fG_f fW⟩
    refine j_il1 hX dX12_group_41 ?_
    refine j_iconst hX dX12_group_42 ⟨by decide, by decide⟩ ?_
    refine j_icmp_ne (tgt := 51) hX dX12_group_43 (by decide) (fun h_43 => ?_) (fun h_43 => ?_)
    · skip
      exact jn_51 _ (by first | (rw [if_neg h_43]; exact hst) | (rw [if_pos h_43]; exact s_48)) (by first | exact fT_0 | exact f_48)
    · skip
      refine j_al0 hX dX12_group_46 rfl ?_
      refine j_iconst hX dX12_group_47 ⟨by decide, by decide⟩ ?_
      refine j_cVV1 (ci := 12) hX hG lk_X12_228 (ok_X12_fails hst (by decide)) (by decide) rfl (Nat.le_of_ble_eq_true rfl) (Nat.le_of_ble_eq_true rfl) (Nat.le_of_ble_eq_true rfl) rfl dX12_group_48 (fun V_48 h_48 => ?_)
      obtain ⟨s_48, f_48⟩ := h_48
      exact jn_51 _ (by first | (rw [if_neg h_43]; exact hst) | (rw [if_pos h_43]; exact s_48)) (by first | exact fT_0 | exact f_48)
  refine j_al0 hX dX12_group_0 rfl ?_
  refine j_ldcS (k := 7) hX dX12_group_1 rfl ?_
  refine j_pVI1 (ci := 12) hX hG lk_X12_218 (ok_X12_isWord (by first | assumption | omega | decide) (by first | assumption | omega | decide) (by first | assumption | rfl)) (by decide) rfl (Nat.le_of_ble_eq_true rfl) (Nat.le_of_ble_eq_true rfl) (Nat.le_of_ble_eq_true rfl) rfl dX12_group_3 ?_
  refine j_ifz_eq (tgt := 13) hX dX12_group_6 (by decide) (fun h_6 => ?_) (fun h_6 => ?_)
  · skip
    refine j_al0 hX dX12_group_13 rfl ?_
    refine j_ldcS (k := 8) hX dX12_group_14 rfl ?_
    refine j_pVI1 (ci := 12) hX hG lk_X12_218 (ok_X12_isWord (by first | assumption | omega | decide) (by first | assumption | omega | decide) (by first | assumption | rfl)) (by decide) rfl (Nat.le_of_ble_eq_true rfl) (Nat.le_of_ble_eq_true rfl) (Nat.le_of_ble_eq_true rfl) rfl dX12_group_16 ?_
    refine j_ifz_eq (tgt := 26) hX dX12_group_19 (by decide) (fun h_19 => ?_) (fun h_19 => ?_)
    · skip
      refine j_al0 hX dX12_group_26 rfl ?_
      refine j_ldcS (k := 9) hX dX12_group_27 rfl ?_
      refine j_pVI1 (ci := 12) hX hG lk_X12_218 (ok_X12_isWord (by first | assumption | omega | decide) (by first | assumption | omega | decide) (by first | assumption | rfl)) (by decide) rfl (Nat.le_of_ble_eq_true rfl) (Nat.le_of_ble_eq_true rfl) (Nat.le_of_ble_eq_true rfl) rfl dX12_group_29 ?_
      refine j_ifz_eq (tgt := 39) hX dX12_group_32 (by decide) (fun h_32 => ?_) (fun h_32 => ?_)
      · skip
        refine j_iconst hX dX12_group_39 ⟨by decide, by decide⟩ ?_
        exact jn_40 _ (by first | exact Or.inl ⟨rfl, isWM_t.mp h_6⟩ | exact Or.inr (Or.inl ⟨rfl, isWM_t.mp h_19⟩) | exact Or.inr (Or.inr (Or.inl ⟨rfl, isWM_t.mp h_32⟩)) | exact Or.inr (Or.inr (Or.inr ⟨rfl, fun s e => ⟨fun z => h_6 (isWM_t.mpr ⟨s, e, z⟩), fun z => h_19 (isWM_t.mpr ⟨s, e, z⟩), fun z => h_32 (isWM_t.mpr ⟨s, e, z⟩)⟩⟩)))
      · skip
        refine j_iconst hX dX12_group_35 ⟨by decide, by decide⟩ ?_
        refine j_goto (tgt := 40) hX dX12_group_36 (by decide) ?_
        exact jn_40 _ (by first | exact Or.inl ⟨rfl, isWM_t.mp h_6⟩ | exact Or.inr (Or.inl ⟨rfl, isWM_t.mp h_19⟩) | exact Or.inr (Or.inr (Or.inl ⟨rfl, isWM_t.mp h_32⟩)) | exact Or.inr (Or.inr (Or.inr ⟨rfl, fun s e => ⟨fun z => h_6 (isWM_t.mpr ⟨s, e, z⟩), fun z => h_19 (isWM_t.mpr ⟨s, e, z⟩), fun z => h_32 (isWM_t.mpr ⟨s, e, z⟩)⟩⟩)))
    · skip
      refine j_iconst hX dX12_group_22 ⟨by decide, by decide⟩ ?_
      refine j_goto (tgt := 40) hX dX12_group_23 (by decide) ?_
      exact jn_40 _ (by first | exact Or.inl ⟨rfl, isWM_t.mp h_6⟩ | exact Or.inr (Or.inl ⟨rfl, isWM_t.mp h_19⟩) | exact Or.inr (Or.inr (Or.inl ⟨rfl, isWM_t.mp h_32⟩)) | exact Or.inr (Or.inr (Or.inr ⟨rfl, fun s e => ⟨fun z => h_6 (isWM_t.mpr ⟨s, e, z⟩), fun z => h_19 (isWM_t.mpr ⟨s, e, z⟩), fun z => h_32 (isWM_t.mpr ⟨s, e, z⟩)⟩⟩)))
  · skip
    refine j_iconst hX dX12_group_9 ⟨by decide, by decide⟩ ?_
    refine j_goto (tgt := 40) hX dX12_group_10 (by decide) ?_
    exact jn_40 _ (by first | exact Or.inl ⟨rfl, isWM_t.mp h_6⟩ | exact Or.inr (Or.inl ⟨rfl, isWM_t.mp h_19⟩) | exact Or.inr (Or.inr (Or.inl ⟨rfl, isWM_t.mp h_32⟩)) | exact Or.inr (Or.inr (Or.inr ⟨rfl, fun s e => ⟨fun z => h_6 (isWM_t.mpr ⟨s, e, z⟩), fun z => h_19 (isWM_t.mpr ⟨s, e, z⟩), fun z => h_32 (isWM_t.mpr ⟨s, e, z⟩)⟩⟩)))
