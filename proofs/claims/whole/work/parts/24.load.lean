/-! how a text is read: answers are data and the next token's place, or an error's code and place -/
abbrev PR (α : Type) : Type := Except (Int × Int) α
abbrev wKlein : List Int := [107, 108, 101, 105, 110]
abbrev wSym : List Int := [115, 121, 109]
abbrev wCyclic : List Int := [99, 121, 99, 108, 105, 99]
abbrev wWidth : List Int := [119, 105, 100, 116, 104]
abbrev wWord : List Int := [119, 111, 114, 100]
abbrev wCase : List Int := [99, 97, 115, 101]
abbrev wRing : List Int := [114, 105, 110, 103]
section PARSE
variable (T : Int → Int) (L : Int)
def pSy (c s : Int) : PR Int := if isSy T L s c = true then .ok (sgX T L s) else .error (1, s)
def pWd (w : List Int) (s : Int) : PR Int := if isWd T L s w = true then .ok (sgX T L s) else .error (1, s)
def pNu (lo hi s : Int) : PR Unit := if sgK T L s = 2 then (if sgN T L s < lo ∨ hi < sgN T L s then .error (2, s) else .ok ()) else .error (1, s)
def pGroup (s : Int) : PR (Nat × Int) :=
  if isWd T L s wKlein = true then (pSy T L 59 (sgX T L s)).map (fun a => (5, a))
  else if isWd T L s wSym = true then (pSy T L 59 (sgX T L s)).map (fun a => (6, a))
  else (pWd T L wCyclic s).bind fun s1 => (pNu T L 2 6 s1).bind fun _ => (pSy T L 59 (sgX T L s1)).map (fun a => ((sgN T L s1).toNat - 2, a))
def pWidth (s : Int) : PR (Int × Int) := (pWd T L wWidth s).bind fun s1 => (pNu T L 2 3 s1).bind fun _ => (pSy T L 59 (sgX T L s1)).map (fun a => (sgN T L s1, a))
/-- a term: the place or -1, the element, whether it is inverted -/
def pTerm (g w t s : Int) : PR ((Int × Int × Int) × Int) :=
  (if plF T L s = -1 ∨ w ≤ plF T L s then pNu T L 0 (g - 1) s else .ok ()).bind fun _ =>
    if 8 ≤ t then .error (4, s)
    else if isSy T L (sgX T L s) 45 = true then .ok ((plF T L s, if plF T L s = -1 then sgN T L s else 0, 1), sgX T L (sgX T L s))
    else .ok ((plF T L s, if plF T L s = -1 then sgN T L s else 0, 0), sgX T L s)
def pTerms (g w : Int) : Nat → Int → Int → PR (List (Int × Int × Int) × Int)
  | 0, _, _ => .error (0, 0)
  | n + 1, t, s => (pTerm T L g w t s).bind fun r =>
    if isSy T L r.2 42 = true then (pTerms g w n (t + 1) (sgX T L r.2)).map (fun z => (r.1 :: z.1, z.2))
    else (pSy T L 59 r.2).map (fun a => ([r.1], a))
/-- the states of a case's word -/
def pPl (g : Int) (seen : List Int) : Nat → Int → Int → PR (Int × Int)
  | 0, wd, s => .ok (wd, s)
  | n + 1, wd, s => (pNu T L 0 (g - 1) s).bind fun _ => if n = 0 ∧ wd * g + sgN T L s ∈ seen then .error (3, s) else pPl g seen n (wd * g + sgN T L s) (sgX T L s)
def pCase (g w : Int) (seen : List Int) (s : Int) : PR ((Int × Int) × Int) :=
  (pPl T L g seen w.toNat 0 s).bind fun r => (pSy T L 61 r.2).bind fun s2 => (pNu T L 0 (g - 1) s2).bind fun _ => (pSy T L 59 (sgX T L s2)).map (fun a => ((r.1, sgN T L s2), a))
def pCases (g w : Int) : Nat → Int → List Int → Int → PR (List (Int × Int) × Int)
  | 0, _, _, _ => .error (0, 0)
  | n + 1, c, seen, s => if isWd T L s wCase = true then (if 12 ≤ c then .error (4, s) else (pCase T L g w seen (sgX T L s)).bind fun r =>
      (pCases g w n (c + 1) (r.1.1 :: seen) r.2).map (fun z => (r.1 :: z.1, z.2))) else .ok ([], s)
def pCells (g : Int) : Nat → Int → Int → PR (List Int × Int)
  | 0, _, _ => .error (0, 0)
  | n + 1, c, s => if 0 < c ∧ isSy T L s 59 = true then .ok ([], sgX T L s) else (pNu T L 0 (g - 1) s).bind fun _ =>
      if 16 ≤ c then .error (4, s) else (pCells g n (c + 1) (sgX T L s)).map (fun z => (sgN T L s :: z.1, z.2))
def pRing (g s : Int) : PR (List Int × Int) := (pWd T L wRing s).bind fun s1 => pCells T L g 17 0 s1
def pEnd (s : Int) : PR Unit := if sgK T L s = 0 then .ok () else .error (1, s)
/-- the whole text: group, width, terms, cases, cells -/
def pAll : PR (Nat × Int × List (Int × Int × Int) × List (Int × Int) × List Int) :=
  (pGroup T L (sgS T L 0)).bind fun a => (pWidth T L a.2).bind fun b => ((pWd T L wWord b.2).bind fun s => pTerms T L (gO a.1) b.1 9 0 s).bind fun c =>
    (pCases T L (gO a.1) b.1 13 0 [] c.2).bind fun d => (pRing T L (gO a.1) d.2).bind fun e => (pEnd T L e.2).bind fun _ => .ok (a.1, b.1, c.1, d.1, e.1)
end PARSE
/-- the table by the group word; by the cases -/
def tabF (q : Nat) (w : Int) (v : Int) (ds : List (Int × Int × Int)) (e : Int) : Int := ds.foldl (fun v d => gM q v (facF q (gO q) w d.1 d.2.1 d.2.2 e)) v
def casT : List (Int × Int) → (Int → Int) → Int → Int
  | [], f => f
  | d :: r, f => casT r (fun j => if j = d.1 then d.2 else f j)
/-- the reader's answer, the code and the place that it leaves -/
def LR {α : Type} (V' : VV) (x : Int) (r : PR α) (P : α → Prop) : Prop := match r with
  | .ok a => x = 1 ∧ (V' 1 5 = 0 ∧ V' 1 6 = -1) ∧ P a
  | .error e => x = 0 ∧ V' 1 5 = e.1 ∧ V' 1 6 = e.2
theorem LR.z {α : Type} {V : VV} {x : Int} {r : PR α} {P : α → Prop} (h : LR V x r P) : x = 0 ∨ x = 1 := by
  cases r with
  | ok a => exact Or.inr h.1
  | error e => exact Or.inl h.1
theorem LR.t {α : Type} {V : VV} {x : Int} {r : PR α} {P : α → Prop} (h : LR V x r P) (hx : ¬ x = 0) : ∃ a, r = .ok a ∧ (V 1 5 = 0 ∧ V 1 6 = -1) ∧ P a := by
  cases r with
  | ok a => exact ⟨a, rfl, h.2⟩
  | error e => exact absurd h.1 hx
theorem LR.f {α : Type} {V : VV} {x : Int} {r : PR α} {P : α → Prop} (h : LR V x r P) (hx : x = 0) : ∃ e, r = .error e ∧ V 1 5 = e.1 ∧ V 1 6 = e.2 := by
  cases r with
  | ok a => have := h.1; omega
  | error e => exact ⟨e, rfl, h.2⟩
theorem LR.ok {α : Type} {V : VV} {r : PR α} {P : α → Prop} {a : α} (e : r = .ok a) (h : V 1 5 = 0 ∧ V 1 6 = -1) (hp : P a) : LR V 1 r P := by subst e; exact ⟨rfl, h, hp⟩
theorem LR.er {α : Type} {V : VV} {r : PR α} {P : α → Prop} {e : Int × Int} (e1 : r = .error e) (h : V 1 5 = e.1 ∧ V 1 6 = e.2) : LR V 0 r P := by subst e1; exact ⟨rfl, h⟩
theorem LR.map {α β : Type} {V : VV} {x : Int} {r : PR α} {P : α → Prop} {Q : β → Prop} {f : α → β} (h : LR V x r P) (hp : ∀ a, r = .ok a → P a → Q (f a)) : LR V x (r.map f) Q := by
  cases r with
  | ok a => exact ⟨h.1, h.2.1, hp a rfl h.2.2⟩
  | error e => exact h
theorem LR.mono {α : Type} {V : VV} {x : Int} {r : PR α} {P Q : α → Prop} (h : LR V x r P) (hp : ∀ a, r = .ok a → P a → Q a) : LR V x r Q := by
  cases r with
  | ok a => exact ⟨h.1, h.2.1, hp a rfl h.2.2⟩
  | error e => exact h
theorem bi_ok {α β : Type} {a : α} {f : α → PR β} : (Except.ok a : PR α).bind f = f a := rfl
theorem bi_er {α β : Type} {e : Int × Int} {f : α → PR β} : (Except.error e : PR α).bind f = .error e := rfl
theorem ma_ok {α β : Type} {a : α} {f : α → β} : (Except.ok a : PR α).map f = .ok (f a) := rfl
theorem ma_er {α β : Type} {e : Int × Int} {f : α → β} : (Except.error e : PR α).map f = .error e := rfl
theorem TB_e {V W : VV} (h : TB V) (e : W 2 1 = V 2 1) (e' : W 3 = V 3) : TB W := by unfold TB at h ⊢; rw [e, e']; exact h
theorem pNu_ok {T : Int → Int} {L lo hi s : Int} {u : Unit} (h : pNu T L lo hi s = .ok u) : sgK T L s = 2 ∧ lo ≤ sgN T L s ∧ sgN T L s ≤ hi := by
  unfold pNu at h
  split at h
  · split at h
    · cases h
    · rename_i a b; exact ⟨a, by omega, by omega⟩
  · cases h
theorem facF_b {q : Nat} {w pl el b e : Int} (hq : q < 7) (h : pl = -1 ∧ 0 ≤ el ∧ el < gO q ∨ 0 ≤ pl) : 0 ≤ facF q (gO q) w pl el b e ∧ facF q (gO q) w pl el b e < gO q := by
  have h6 := gO_le hq
  have hd := dg_b (g := gO q) (e := e) (j := (w - 1 - pl).toNat) (by omega)
  have hz : 0 ≤ (if pl = -1 then el else dg (gO q) e (w - 1 - pl).toNat) ∧ (if pl = -1 then el else dg (gO q) e (w - 1 - pl).toNat) < gO q := by split <;> omega
  unfold facF
  split
  · exact hz
  · exact gV_lt hq hz
theorem facF_c {q : Nat} {g w pl el el' b e : Int} (h : pl ≠ -1) : facF q g w pl el b e = facF q g w pl el' b e := by unfold facF; rw [if_neg h, if_neg h]
theorem pTerm_ok {T : Int → Int} {L g w t s : Int} {d : (Int × Int × Int) × Int} (h : pTerm T L g w t s = .ok d) : t < 8 ∧ (d.1.1 = -1 ∧ 0 ≤ d.1.2.1 ∧ d.1.2.1 < g ∨ 0 ≤ d.1.1 ∧ d.1.1 < w) := by
  unfold pTerm at h
  cases hc : (if plF T L s = -1 ∨ w ≤ plF T L s then pNu T L 0 (g - 1) s else .ok ()) with
  | error e => rw [hc] at h; cases h
  | ok u =>
    rw [hc, bi_ok] at h
    have key : t < 8 ∧ d.1.1 = plF T L s ∧ d.1.2.1 = (if plF T L s = -1 then sgN T L s else 0) := by
      split at h
      · cases h
      · split at h <;> cases h <;> exact ⟨by omega, rfl, rfl⟩
    refine ⟨key.1, ?_⟩
    rw [key.2.1, key.2.2]
    by_cases e : plF T L s = -1 ∨ w ≤ plF T L s
    · rw [if_pos e] at hc
      have h1 := pNu_ok hc
      have e2 : plF T L s = -1 := by
        unfold plF
        rw [if_neg (by omega)]
      left
      rw [if_pos e2]
      omega
    · have := plF_b (T := T) (L := L) (s := s)
      right
      omega

set_option maxHeartbeats 4000000 in
theorem ok_X4_fail {V : VV} {c : Int}  : Ok NC yX4_fail cX4_fail 2 (some .boolean) 0 0 [vA 1, vI c] V (pI (fun x9 V' => x9 = 0 ∧ V' = up (up V 1 5 c) 1 6 (V 2 3))) := by
  refine Ok.intro (by decide +kernel) (Nat.le_of_ble_eq_true rfl) (fun X G hX hG hR hoa hoV => ?_)
  show J X G 0 [vA 1, vI c] [] V
  refine j_al0 hX dX4_fail_0 rfl ?_
  refine j_il1 hX dX4_fail_1 ?_
  refine j_putI hX hG fp_X4_47 rfl (by decide) dX4_fail_2 ?_
  refine j_al0 hX dX4_fail_5 rfl ?_
  refine j_al0 hX dX4_fail_6 rfl ?_
  refine j_getR (q := 2) hX hG fl_X4_12 rfl rfl (by decide) dX4_fail_7 ?_
  refine j_getI hX hG fl_X4_72 (Or.inl rfl) (by decide) dX4_fail_10 ?_
  refine j_eqS (st' := [vI (V 2 3), vA 1]) (by simp [up]) ?_
  refine j_putI hX hG fp_X4_43 rfl (by decide) dX4_fail_13 ?_
  refine j_iconst hX dX4_fail_16 ⟨by decide, by decide⟩ ?_
  exact j_retZ hR dX4_fail_17 (by omega) ⟨rfl, rfl⟩
set_option maxHeartbeats 4000000 in
theorem ok_X4_takeWord {V : VV} {s k : Int} {q : String × Nat × String × List Int} (ht : TB V) (hk : TK V s) (hz : V 1 5 = 0 ∧ V 1 6 = -1) (hq : strs[k.toNat]? = some q) : Ok NC yX4_takeWord cX4_takeWord 2 (some .boolean) 5 107 [vA 1, vS k] V (pI (fun x9 V' => LR V' x9 (pWd (V 3) (V 2 1) q.2.2.2 s) (fun s' => TK V' s') ∧ V' 2 1 = V 2 1 ∧ fr [1, 2] V V')) := by
  refine Ok.intro (by decide +kernel) (Nat.le_of_ble_eq_true rfl) (fun X G hX hG hR hoa hoV => ?_)
  show J X G 0 [vA 1, vS k] [] V
  refine j_al0 hX dX4_takeWord_0 rfl ?_
  refine j_getR (q := 2) hX hG fl_X4_12 rfl rfl (by decide) dX4_takeWord_1 ?_
  refine j_al1 hX dX4_takeWord_4 rfl ?_
  refine j_pVI1 (ci := 9) hX hG lk_X4_75 (ok_X9_isWord (by first | assumption | omega | decide) (by first | assumption | omega | decide) (by first | assumption | rfl)) (by decide) rfl (Nat.le_of_ble_eq_true rfl) (Nat.le_of_ble_eq_true rfl) (Nat.le_of_ble_eq_true rfl) rfl dX4_takeWord_5 ?_
  refine j_ifz_ne (tgt := 17) hX dX4_takeWord_8 (by decide) (fun h_8 => ?_) (fun h_8 => ?_)
  · skip
    refine j_al0 hX dX4_takeWord_17 rfl ?_
    refine j_getR (q := 2) hX hG fl_X4_12 rfl rfl (by decide) dX4_takeWord_18 ?_
    refine j_cVV0 (ci := 9) hX hG lk_X4_83 (ok_X9_advance_tk (by first | assumption | omega | decide) (by first | assumption | omega | decide)) (by decide) rfl (Nat.le_of_ble_eq_true rfl) (Nat.le_of_ble_eq_true rfl) (Nat.le_of_ble_eq_true rfl) rfl dX4_takeWord_21 (fun V_21 h_21 => ?_)
    obtain ⟨tk_21, l_21, f_21⟩ := h_21
    refine j_iconst hX dX4_takeWord_24 ⟨by decide, by decide⟩ ?_
    exact j_retZ hR dX4_takeWord_25 (by omega) ⟨LR.ok (by unfold pWd; rw [if_pos h_8]) ⟨(f_21 1 5 (by decide)).trans hz.1, (f_21 1 6 (by decide)).trans hz.2⟩ tk_21, l_21, fr_w f_21 (by decide)⟩
  · skip
    refine j_al0 hX dX4_takeWord_11 rfl ?_
    refine j_iconst hX dX4_takeWord_12 ⟨by decide, by decide⟩ ?_
    refine j_cVI1 (ci := 4) hX hG lk_X4_79 (ok_X4_fail ) (by decide) rfl (Nat.le_of_ble_eq_true rfl) (Nat.le_of_ble_eq_true rfl) (Nat.le_of_ble_eq_true rfl) rfl dX4_takeWord_13 (fun x_13 V_13 h_13 => ?_)
    obtain ⟨e_13, e2_13⟩ := h_13; subst e_13; subst e2_13
    exact j_retZ hR dX4_takeWord_16 (by omega) ⟨LR.er (e := (1, s)) (by unfold pWd; rw [if_neg h_8]) ⟨by simp [up], by simp [up]; exact hk.2.2.1⟩, by simp [up], fr_u (fr_u fr_0 (by decide)) (by decide)⟩
set_option maxHeartbeats 4000000 in
theorem ok_X4_takeSymbol {V : VV} {s c : Int} (ht : TB V) (hk : TK V s) (hz : V 1 5 = 0 ∧ V 1 6 = -1) : Ok NC yX4_takeSymbol cX4_takeSymbol 2 (some .boolean) 3 65 [vA 1, vI c] V (pI (fun x9 V' => LR V' x9 (pSy (V 3) (V 2 1) c s) (fun s' => TK V' s') ∧ V' 2 1 = V 2 1 ∧ fr [1, 2] V V')) := by
  refine Ok.intro (by decide +kernel) (Nat.le_of_ble_eq_true rfl) (fun X G hX hG hR hoa hoV => ?_)
  show J X G 0 [vA 1, vI c] [] V
  refine j_al0 hX dX4_takeSymbol_0 rfl ?_
  refine j_getR (q := 2) hX hG fl_X4_12 rfl rfl (by decide) dX4_takeSymbol_1 ?_
  refine j_il1 hX dX4_takeSymbol_4 ?_
  refine j_pVI1 (ci := 9) hX hG lk_X4_86 (ok_X9_isSymbol (by first | assumption | omega | decide) (by first | assumption | omega | decide)) (by decide) rfl (Nat.le_of_ble_eq_true rfl) (Nat.le_of_ble_eq_true rfl) (Nat.le_of_ble_eq_true rfl) rfl dX4_takeSymbol_5 ?_
  refine j_ifz_ne (tgt := 17) hX dX4_takeSymbol_8 (by decide) (fun h_8 => ?_) (fun h_8 => ?_)
  · skip
    refine j_al0 hX dX4_takeSymbol_17 rfl ?_
    refine j_getR (q := 2) hX hG fl_X4_12 rfl rfl (by decide) dX4_takeSymbol_18 ?_
    refine j_cVV0 (ci := 9) hX hG lk_X4_83 (ok_X9_advance_tk (by first | assumption | omega | decide) (by first | assumption | omega | decide)) (by decide) rfl (Nat.le_of_ble_eq_true rfl) (Nat.le_of_ble_eq_true rfl) (Nat.le_of_ble_eq_true rfl) rfl dX4_takeSymbol_21 (fun V_21 h_21 => ?_)
    obtain ⟨tk_21, l_21, f_21⟩ := h_21
    refine j_iconst hX dX4_takeSymbol_24 ⟨by decide, by decide⟩ ?_
    exact j_retZ hR dX4_takeSymbol_25 (by omega) ⟨LR.ok (by unfold pSy; rw [if_pos h_8]) ⟨(f_21 1 5 (by decide)).trans hz.1, (f_21 1 6 (by decide)).trans hz.2⟩ tk_21, l_21, fr_w f_21 (by decide)⟩
  · skip
    refine j_al0 hX dX4_takeSymbol_11 rfl ?_
    refine j_iconst hX dX4_takeSymbol_12 ⟨by decide, by decide⟩ ?_
    refine j_cVI1 (ci := 4) hX hG lk_X4_79 (ok_X4_fail ) (by decide) rfl (Nat.le_of_ble_eq_true rfl) (Nat.le_of_ble_eq_true rfl) (Nat.le_of_ble_eq_true rfl) rfl dX4_takeSymbol_13 (fun x_13 V_13 h_13 => ?_)
    obtain ⟨e_13, e2_13⟩ := h_13; subst e_13; subst e2_13
    exact j_retZ hR dX4_takeSymbol_16 (by omega) ⟨LR.er (e := (1, s)) (by unfold pSy; rw [if_neg h_8]) ⟨by simp [up], by simp [up]; exact hk.2.2.1⟩, by simp [up], fr_u (fr_u fr_0 (by decide)) (by decide)⟩
set_option maxHeartbeats 4000000 in
theorem ok_X4_isNumber {V : VV} {s lo hi : Int} (hk : TK V s) (hz : V 1 5 = 0 ∧ V 1 6 = -1) : Ok NC yX4_isNumber cX4_isNumber 3 (some .boolean) 1 21 [vA 1, vI lo, vI hi] V (pI (fun x9 V' => LR V' x9 (pNu (V 3) (V 2 1) lo hi s) (fun _ => True) ∧ fr [1] V V')) := by
  refine Ok.intro (by decide +kernel) (Nat.le_of_ble_eq_true rfl) (fun X G hX hG hR hoa hoV => ?_)
  show J X G 0 [vA 1, vI lo, vI hi] [] V
  obtain ⟨k0, k1, k2, k3, k4, k5⟩ := hk
  refine j_al0 hX dX4_isNumber_0 rfl ?_
  refine j_getR (q := 2) hX hG fl_X4_12 rfl rfl (by decide) dX4_isNumber_1 ?_
  refine j_getI hX hG fl_X4_90 (Or.inl rfl) (by decide) dX4_isNumber_4 ?_
  refine j_iconst hX dX4_isNumber_7 ⟨by decide, by decide⟩ ?_
  refine j_icmp_eq (tgt := 17) hX dX4_isNumber_8 (by decide) (fun h_8 => ?_) (fun h_8 => ?_)
  · skip
    have k6 := k5 h_8
    refine j_al0 hX dX4_isNumber_17 rfl ?_
    refine j_getR (q := 2) hX hG fl_X4_12 rfl rfl (by decide) dX4_isNumber_18 ?_
    refine j_getI hX hG fl_X4_93 (Or.inl rfl) (by decide) dX4_isNumber_21 ?_
    refine j_il1 hX dX4_isNumber_24 ?_
    refine j_icmp_lt (tgt := 39) hX dX4_isNumber_25 (by decide) (fun h_25 => ?_) (fun h_25 => ?_)
    · skip
      refine j_al0 hX dX4_isNumber_39 rfl ?_
      refine j_iconst hX dX4_isNumber_40 ⟨by decide, by decide⟩ ?_
      refine j_cVI1 (ci := 4) hX hG lk_X4_79 (ok_X4_fail ) (by decide) rfl (Nat.le_of_ble_eq_true rfl) (Nat.le_of_ble_eq_true rfl) (Nat.le_of_ble_eq_true rfl) rfl dX4_isNumber_41 (fun x_41 V_41 h_41 => ?_)
      obtain ⟨e_41, e2_41⟩ := h_41; subst e_41; subst e2_41
      exact j_retZ hR dX4_isNumber_44 (by omega) ⟨LR.er (e := (2, s)) (by unfold pNu; rw [if_pos (by omega), if_pos (by omega)]) ⟨by simp [up], by simp [up]; omega⟩, fr_u (fr_u fr_0 (by decide)) (by decide)⟩
    · skip
      refine j_al0 hX dX4_isNumber_28 rfl ?_
      refine j_getR (q := 2) hX hG fl_X4_12 rfl rfl (by decide) dX4_isNumber_29 ?_
      refine j_getI hX hG fl_X4_93 (Or.inl rfl) (by decide) dX4_isNumber_32 ?_
      refine j_il2 hX dX4_isNumber_35 ?_
      refine j_icmp_le (tgt := 45) hX dX4_isNumber_36 (by decide) (fun h_36 => ?_) (fun h_36 => ?_)
      · skip
        refine j_iconst hX dX4_isNumber_45 ⟨by decide, by decide⟩ ?_
        exact j_retZ hR dX4_isNumber_46 (by omega) ⟨LR.ok (by unfold pNu; rw [if_pos (by omega), if_neg (by omega)]) hz trivial, fr_0⟩
      · skip
        refine j_al0 hX dX4_isNumber_39 rfl ?_
        refine j_iconst hX dX4_isNumber_40 ⟨by decide, by decide⟩ ?_
        refine j_cVI1 (ci := 4) hX hG lk_X4_79 (ok_X4_fail ) (by decide) rfl (Nat.le_of_ble_eq_true rfl) (Nat.le_of_ble_eq_true rfl) (Nat.le_of_ble_eq_true rfl) rfl dX4_isNumber_41 (fun x_41 V_41 h_41 => ?_)
        obtain ⟨e_41, e2_41⟩ := h_41; subst e_41; subst e2_41
        exact j_retZ hR dX4_isNumber_44 (by omega) ⟨LR.er (e := (2, s)) (by unfold pNu; rw [if_pos (by omega), if_pos (by omega)]) ⟨by simp [up], by simp [up]; omega⟩, fr_u (fr_u fr_0 (by decide)) (by decide)⟩
  · skip
    refine j_al0 hX dX4_isNumber_11 rfl ?_
    refine j_iconst hX dX4_isNumber_12 ⟨by decide, by decide⟩ ?_
    refine j_cVI1 (ci := 4) hX hG lk_X4_79 (ok_X4_fail ) (by decide) rfl (Nat.le_of_ble_eq_true rfl) (Nat.le_of_ble_eq_true rfl) (Nat.le_of_ble_eq_true rfl) rfl dX4_isNumber_13 (fun x_13 V_13 h_13 => ?_)
    obtain ⟨e_13, e2_13⟩ := h_13; subst e_13; subst e2_13
    exact j_retZ hR dX4_isNumber_16 (by omega) ⟨LR.er (e := (1, s)) (by unfold pNu; rw [if_neg (by omega)]) ⟨by simp [up], by simp [up]; omega⟩, fr_u (fr_u fr_0 (by decide)) (by decide)⟩
set_option maxHeartbeats 4000000 in
theorem ok_X4_isState {V : VV} {s g : Int} (hk : TK V s) (hz : V 1 5 = 0 ∧ V 1 6 = -1) (hg : V 4 1 = g ∧ 2 ≤ g ∧ g ≤ 6) : Ok NC yX4_isState cX4_isState 1 (some .boolean) 2 43 [vA 1] V (pI (fun x9 V' => LR V' x9 (pNu (V 3) (V 2 1) 0 (g - 1) s) (fun _ => True) ∧ fr [1] V V')) := by
  refine Ok.intro (by decide +kernel) (Nat.le_of_ble_eq_true rfl) (fun X G hX hG hR hoa hoV => ?_)
  show J X G 0 [vA 1] [] V
  refine j_al0 hX dX4_isState_0 rfl ?_
  refine j_iconst hX dX4_isState_1 ⟨by decide, by decide⟩ ?_
  refine j_al0 hX dX4_isState_2 rfl ?_
  refine j_getR (q := 4) hX hG fl_X4_21 rfl rfl (by decide) dX4_isState_3 ?_
  refine j_getI hX hG fl_X4_96 (Or.inl rfl) (by decide) dX4_isState_6 ?_
  refine j_iconst hX dX4_isState_9 ⟨by decide, by decide⟩ ?_
  refine j_isub hX dX4_isState_10 (by omega) ?_
  refine j_cVI2 (ci := 4) hX hG lk_X4_99 (ok_X4_isNumber (by first | assumption | omega | decide) (by first | assumption | omega | decide)) (by decide) rfl (Nat.le_of_ble_eq_true rfl) (Nat.le_of_ble_eq_true rfl) (Nat.le_of_ble_eq_true rfl) rfl dX4_isState_11 (fun x_11 V_11 h_11 => ?_)
  rw [hg.1] at h_11
  exact j_retZ hR dX4_isState_14 (LR.z h_11.1) h_11
set_option maxHeartbeats 4000000 in
theorem ok_X4_readGroup {V : VV} {s : Int} (ht : TB V) (hk : TK V s) (hz : V 1 5 = 0 ∧ V 1 6 = -1) : Ok NC yX4_readGroup cX4_readGroup 1 (some .boolean) 6 128 [vA 1] V (pI (fun x9 V' => LR V' x9 (pGroup (V 3) (V 2 1) s) (fun r => GP V' 4 r.1 ∧ TK V' r.2) ∧ V' 2 1 = V 2 1 ∧ fr [1, 2, 4, 5] V V')) := by
  refine Ok.intro (by decide +kernel) (Nat.le_of_ble_eq_true rfl) (fun X G hX hG hR hoa hoV => ?_)
  show J X G 0 [vA 1] [] V
  have ff_i : fr [] V V := fr_0
  have eT_i : V 3 = V 3 := rfl
  have l_i : V 2 1 = V 2 1 := rfl
  have tb_i := ht
  have tk_i := hk
  have z_i := hz
  have jn_79 : ∀ (W : VV) (n : Nat) (s1 : Int), (TK W s1) → (TB W) → (W 2 1 = V 2 1) → (W 3 = V 3) → (fr [1, 2, 4, 5] V W) → (W 1 5 = 0 ∧ W 1 6 = -1) → (GP W 4 n) → (pGroup (V 3) (V 2 1) s = (pSy (V 3) (V 2 1) 59 (sgX (V 3) (V 2 1) s1)).map (fun a => (n, a))) → J X G 79 [vA 1] [] W := by
    intro W n s1 tk_W tb_W l_W eT_W ff_W z_W g_W spW
    refine j_al0 hX dX4_readGroup_79 rfl ?_
    refine j_getR (q := 2) hX hG fl_X4_12 rfl rfl (by decide) dX4_readGroup_80 ?_
    refine j_cVV0 (ci := 9) hX hG lk_X4_83 (ok_X9_advance_tk (by first | assumption | omega | decide) (by first | assumption | omega | decide)) (by decide) rfl (Nat.le_of_ble_eq_true rfl) (Nat.le_of_ble_eq_true rfl) (Nat.le_of_ble_eq_true rfl) rfl dX4_readGroup_83 (fun V_83 h_83 => ?_)
    obtain ⟨tk_83, q_83, f_83⟩ := h_83
    rw [eT_W, l_W] at tk_83
    have eT_83 : V_83 3 = V 3 := (funext fun b => f_83 3 b (by decide)).trans eT_W
    have l_83 : V_83 2 1 = V 2 1 := q_83.trans l_W
    have tb_83 : TB V_83 := TB_e ht l_83 eT_83
    have ff_83 : fr [1, 2, 4, 5] V V_83 := fr_t (fr_w ff_W (by decide)) (fr_w f_83 (by decide))
    have z_83 : V_83 1 5 = 0 ∧ V_83 1 6 = -1 := ⟨(f_83 1 5 (by decide)).trans z_W.1, (f_83 1 6 (by decide)).trans z_W.2⟩
    have g_83 : GP V_83 4 n := g_W.sm (fun b => f_83 4 b (by decide)) (fun b => f_83 5 b (by decide))
    refine j_al0 hX dX4_readGroup_86 rfl ?_
    refine j_bipush hX dX4_readGroup_87 (by decide) ⟨by decide, by decide⟩ ?_
    refine j_cVI1 (ci := 4) hX hG lk_X4_122 (ok_X4_takeSymbol (by first | assumption | omega | decide) (by first | assumption | omega | decide) (by first | assumption | omega | decide)) (by decide) rfl (Nat.le_of_ble_eq_true rfl) (Nat.le_of_ble_eq_true rfl) (Nat.le_of_ble_eq_true rfl) rfl dX4_readGroup_89 (fun x_89 V_89 h_89 => ?_)
    obtain ⟨r_89, q_89, f_89⟩ := h_89
    rw [eT_83, l_83] at r_89
    have eT_89 : V_89 3 = V 3 := (funext fun b => f_89 3 b (by decide)).trans eT_83
    have l_89 : V_89 2 1 = V 2 1 := q_89.trans l_83
    have tb_89 : TB V_89 := TB_e ht l_89 eT_89
    have ff_89 : fr [1, 2, 4, 5] V V_89 := fr_t (fr_w ff_83 (by decide)) (fr_w f_89 (by decide))
    exact j_retZ hR dX4_readGroup_92 (LR.z r_89) ⟨by rw [spW]; exact r_89.map (fun a _ ha => ⟨g_83.sm (fun b => f_89 4 b (by decide)) (fun b => f_89 5 b (by decide)), ha⟩), l_89, ff_89⟩
  refine j_al0 hX dX4_readGroup_0 rfl ?_
  refine j_getR (q := 2) hX hG fl_X4_12 rfl rfl (by decide) dX4_readGroup_1 ?_
  refine j_ldcS (k := 0) hX dX4_readGroup_4 rfl ?_
  refine j_pVI1 (ci := 9) hX hG lk_X4_75 (ok_X9_isWord (by first | assumption | omega | decide) (by first | assumption | omega | decide) (by first | assumption | rfl)) (by decide) rfl (Nat.le_of_ble_eq_true rfl) (Nat.le_of_ble_eq_true rfl) (Nat.le_of_ble_eq_true rfl) rfl dX4_readGroup_6 ?_
  refine j_ifz_eq (tgt := 22) hX dX4_readGroup_9 (by decide) (fun h_9 => ?_) (fun h_9 => ?_)
  · skip
    refine j_al0 hX dX4_readGroup_22 rfl ?_
    refine j_getR (q := 2) hX hG fl_X4_12 rfl rfl (by decide) dX4_readGroup_23 ?_
    refine j_ldcS (k := 1) hX dX4_readGroup_26 rfl ?_
    refine j_pVI1 (ci := 9) hX hG lk_X4_75 (ok_X9_isWord (by first | assumption | omega | decide) (by first | assumption | omega | decide) (by first | assumption | rfl)) (by decide) rfl (Nat.le_of_ble_eq_true rfl) (Nat.le_of_ble_eq_true rfl) (Nat.le_of_ble_eq_true rfl) rfl dX4_readGroup_28 ?_
    refine j_ifz_eq (tgt := 44) hX dX4_readGroup_31 (by decide) (fun h_31 => ?_) (fun h_31 => ?_)
    · skip
      refine j_al0 hX dX4_readGroup_44 rfl ?_
      refine j_ldcS (k := 2) hX dX4_readGroup_45 rfl ?_
      refine j_cVI1 (ci := 4) hX hG lk_X4_115 (ok_X4_takeWord (by first | assumption | omega | decide) (by first | assumption | omega | decide) (by first | assumption | omega | decide) (by first | assumption | rfl)) (by decide) rfl (Nat.le_of_ble_eq_true rfl) (Nat.le_of_ble_eq_true rfl) (Nat.le_of_ble_eq_true rfl) rfl dX4_readGroup_47 (fun x_47 V_47 h_47 => ?_)
      have hn9 : ¬ isWd (V 3) (V 2 1) s wKlein = true := h_9
      have hn31 : ¬ isWd (V 3) (V 2 1) s wSym = true := h_31
      obtain ⟨r_47, q_47, f_47⟩ := h_47
      have eT_47 : V_47 3 = V 3 := (funext fun b => f_47 3 b (by decide)).trans eT_i
      have l_47 : V_47 2 1 = V 2 1 := q_47.trans l_i
      have tb_47 : TB V_47 := TB_e ht l_47 eT_47
      have ff_47 : fr [1, 2, 4, 5] V V_47 := fr_t (fr_w ff_i (by decide)) (fr_w f_47 (by decide))
      refine j_if_eq (tgt := 63) hX dX4_readGroup_50 (by decide) (fun h_50 => ?_) (fun h_50 => ?_)
      · skip
        refine j_iconst hX dX4_readGroup_63 ⟨by decide, by decide⟩ ?_
        exact j_retZ hR dX4_readGroup_64 (by omega) (by first | (obtain ⟨e, e1, e2⟩ := LR.f r_57 h_60; exact ⟨LR.er (e := e) (by unfold pGroup; rw [if_neg hn9, if_neg hn31, sp_47, bi_ok, e1, bi_er]) e2, l_57, ff_57⟩) | (obtain ⟨e, e1, e2⟩ := LR.f r_47 h_50; exact ⟨LR.er (e := e) (by unfold pGroup; rw [if_neg hn9, if_neg hn31, e1, bi_er]) e2, l_47, ff_47⟩))
      · skip
        obtain ⟨s_47, sp_47, z_47, tk_47⟩ := LR.t r_47 h_50
        refine j_al0 hX dX4_readGroup_53 rfl ?_
        refine j_iconst hX dX4_readGroup_54 ⟨by decide, by decide⟩ ?_
        refine j_bipush hX dX4_readGroup_55 (by decide) ⟨by decide, by decide⟩ ?_
        refine j_cVI2 (ci := 4) hX hG lk_X4_99 (ok_X4_isNumber (by first | assumption | omega | decide) (by first | assumption | omega | decide)) (by decide) rfl (Nat.le_of_ble_eq_true rfl) (Nat.le_of_ble_eq_true rfl) (Nat.le_of_ble_eq_true rfl) rfl dX4_readGroup_57 (fun x_57 V_57 h_57 => ?_)
        obtain ⟨r_57, f_57⟩ := h_57
        have q_57 : V_57 2 1 = V_47 2 1 := f_57 2 1 (by decide)
        rw [eT_47, l_47] at r_57
        have eT_57 : V_57 3 = V 3 := (funext fun b => f_57 3 b (by decide)).trans eT_47
        have l_57 : V_57 2 1 = V 2 1 := q_57.trans l_47
        have tb_57 : TB V_57 := TB_e ht l_57 eT_57
        have ff_57 : fr [1, 2, 4, 5] V V_57 := fr_t (fr_w ff_47 (by decide)) (fr_w f_57 (by decide))
        have tk_57 := TK.sm tk_47 (fun b => f_57 2 b (by decide)) (fun b => f_57 3 b (by decide))
        refine j_if_ne (tgt := 65) hX dX4_readGroup_60 (by decide) (fun h_60 => ?_) (fun h_60 => ?_)
        · skip
          obtain ⟨s_57, sp_57, z_57, u_57⟩ := LR.t r_57 h_60
          have hnum := pNu_ok sp_57
          refine j_al0 hX dX4_readGroup_65 rfl ?_
          refine j_getR (q := 4) hX hG fl_X4_21 rfl rfl (by decide) dX4_readGroup_66 ?_
          refine j_al0 hX dX4_readGroup_69 rfl ?_
          refine j_getR (q := 2) hX hG fl_X4_12 rfl rfl (by decide) dX4_readGroup_70 ?_
          refine j_getI hX hG fl_X4_93 (Or.inl rfl) (by decide) dX4_readGroup_73 ?_
          obtain ⟨k0, k1, k2, k3, k4, k5⟩ := tk_57
          have hN : V_57 2 4 = sgN (V 3) (V 2 1) s_47 := by rw [k5 (by rw [k3, eT_57, l_57]; exact hnum.1), eT_57, l_57]
          rw [hN]
          have tk_57 : TK V_57 s_47 := ⟨k0, k1, k2, k3, k4, k5⟩
          refine j_cVV1 (ci := 2) hX hG lk_X4_118 (ok_X2_becomeCyclic (Or.inl rfl) (by first | assumption | omega | decide)) (by decide) rfl (Nat.le_of_ble_eq_true rfl) (Nat.le_of_ble_eq_true rfl) (Nat.le_of_ble_eq_true rfl) rfl dX4_readGroup_76 (fun V_76 h_76 => ?_)
          obtain ⟨g_76, f0_76⟩ := h_76
          have f_76 := fr_s2 f0_76
          have q_76 : V_76 2 1 = V_57 2 1 := f_76 2 1 (by decide)
          have eT_76 : V_76 3 = V 3 := (funext fun b => f_76 3 b (by decide)).trans eT_57
          have l_76 : V_76 2 1 = V 2 1 := q_76.trans l_57
          have tb_76 : TB V_76 := TB_e ht l_76 eT_76
          have ff_76 : fr [1, 2, 4, 5] V V_76 := fr_t (fr_w ff_57 (by decide)) (fr_w f_76 (by decide))
          have tk_76 := TK.sm tk_57 (fun b => f_76 2 b (by decide)) (fun b => f_76 3 b (by decide))
          have z_76 : V_76 1 5 = 0 ∧ V_76 1 6 = -1 := ⟨(f_76 1 5 (by decide)).trans z_57.1, (f_76 1 6 (by decide)).trans z_57.2⟩
          have tkJ := tk_76
          have tbJ := tb_76
          have lJ := l_76
          have eTJ := eT_76
          have ffJ := ff_76
          have zJ := z_76
          have gJ := g_76
          have spJ : pGroup (V 3) (V 2 1) s = (pSy (V 3) (V 2 1) 59 (sgX (V 3) (V 2 1) s_47)).map (fun a => ((sgN (V 3) (V 2 1) s_47).toNat - 2, a)) := by unfold pGroup; rw [if_neg hn9, if_neg hn31, sp_47, bi_ok, sp_57, bi_ok]
          try dsimp only [Int.reduceAdd]
          exact jn_79 _ _ _ tkJ tbJ lJ eTJ ffJ zJ gJ spJ
        · skip
          refine j_iconst hX dX4_readGroup_63 ⟨by decide, by decide⟩ ?_
          exact j_retZ hR dX4_readGroup_64 (by omega) (by first | (obtain ⟨e, e1, e2⟩ := LR.f r_57 h_60; exact ⟨LR.er (e := e) (by unfold pGroup; rw [if_neg hn9, if_neg hn31, sp_47, bi_ok, e1, bi_er]) e2, l_57, ff_57⟩) | (obtain ⟨e, e1, e2⟩ := LR.f r_47 h_50; exact ⟨LR.er (e := e) (by unfold pGroup; rw [if_neg hn9, if_neg hn31, e1, bi_er]) e2, l_47, ff_47⟩))
    · skip
      refine j_al0 hX dX4_readGroup_34 rfl ?_
      refine j_getR (q := 4) hX hG fl_X4_21 rfl rfl (by decide) dX4_readGroup_35 ?_
      refine j_cVV0 (ci := 2) hX hG lk_X4_110 (ok_X2_becomeSym (Or.inl rfl)) (by decide) rfl (Nat.le_of_ble_eq_true rfl) (Nat.le_of_ble_eq_true rfl) (Nat.le_of_ble_eq_true rfl) rfl dX4_readGroup_38 (fun V_38 h_38 => ?_)
      obtain ⟨g_38, f0_38⟩ := h_38
      have f_38 := fr_s2 f0_38
      have q_38 : V_38 2 1 = V 2 1 := f_38 2 1 (by decide)
      have eT_38 : V_38 3 = V 3 := (funext fun b => f_38 3 b (by decide)).trans eT_i
      have l_38 : V_38 2 1 = V 2 1 := q_38.trans l_i
      have tb_38 : TB V_38 := TB_e ht l_38 eT_38
      have ff_38 : fr [1, 2, 4, 5] V V_38 := fr_t (fr_w ff_i (by decide)) (fr_w f_38 (by decide))
      have tk_38 := TK.sm tk_i (fun b => f_38 2 b (by decide)) (fun b => f_38 3 b (by decide))
      have z_38 : V_38 1 5 = 0 ∧ V_38 1 6 = -1 := ⟨(f_38 1 5 (by decide)).trans z_i.1, (f_38 1 6 (by decide)).trans z_i.2⟩
      have tkJ := tk_38
      have tbJ := tb_38
      have lJ := l_38
      have eTJ := eT_38
      have ffJ := ff_38
      have zJ := z_38
      have gJ := g_38
      have spJ : pGroup (V 3) (V 2 1) s = (pSy (V 3) (V 2 1) 59 (sgX (V 3) (V 2 1) s)).map (fun a => (6, a)) := by unfold pGroup; rw [if_neg h_9, if_pos h_31]
      try dsimp only [Int.reduceAdd]
      refine j_goto (tgt := 79) hX dX4_readGroup_41 (by decide) ?_
      exact jn_79 _ _ _ tkJ tbJ lJ eTJ ffJ zJ gJ spJ
  · skip
    refine j_al0 hX dX4_readGroup_12 rfl ?_
    refine j_getR (q := 4) hX hG fl_X4_21 rfl rfl (by decide) dX4_readGroup_13 ?_
    refine j_cVV0 (ci := 2) hX hG lk_X4_105 (ok_X2_becomeKlein (Or.inl rfl)) (by decide) rfl (Nat.le_of_ble_eq_true rfl) (Nat.le_of_ble_eq_true rfl) (Nat.le_of_ble_eq_true rfl) rfl dX4_readGroup_16 (fun V_16 h_16 => ?_)
    obtain ⟨g_16, f0_16⟩ := h_16
    have f_16 := fr_s2 f0_16
    have q_16 : V_16 2 1 = V 2 1 := f_16 2 1 (by decide)
    have eT_16 : V_16 3 = V 3 := (funext fun b => f_16 3 b (by decide)).trans eT_i
    have l_16 : V_16 2 1 = V 2 1 := q_16.trans l_i
    have tb_16 : TB V_16 := TB_e ht l_16 eT_16
    have ff_16 : fr [1, 2, 4, 5] V V_16 := fr_t (fr_w ff_i (by decide)) (fr_w f_16 (by decide))
    have tk_16 := TK.sm tk_i (fun b => f_16 2 b (by decide)) (fun b => f_16 3 b (by decide))
    have z_16 : V_16 1 5 = 0 ∧ V_16 1 6 = -1 := ⟨(f_16 1 5 (by decide)).trans z_i.1, (f_16 1 6 (by decide)).trans z_i.2⟩
    have tkJ := tk_16
    have tbJ := tb_16
    have lJ := l_16
    have eTJ := eT_16
    have ffJ := ff_16
    have zJ := z_16
    have gJ := g_16
    have spJ : pGroup (V 3) (V 2 1) s = (pSy (V 3) (V 2 1) 59 (sgX (V 3) (V 2 1) s)).map (fun a => (5, a)) := by unfold pGroup; rw [if_pos h_9]
    try dsimp only [Int.reduceAdd]
    refine j_goto (tgt := 79) hX dX4_readGroup_19 (by decide) ?_
    exact jn_79 _ _ _ tkJ tbJ lJ eTJ ffJ zJ gJ spJ
set_option maxHeartbeats 4000000 in
theorem ok_X4_readWidth {V : VV} {s : Int} {q : Nat} (ht : TB V) (hk : TK V s) (hz : V 1 5 = 0 ∧ V 1 6 = -1) (hgp : GP V 4 q) (hv : 0 ≤ V 6 7 ∧ V 6 7 ≤ 900000) : Ok NC yX4_readWidth cX4_readWidth 1 (some .boolean) 6 128 [vA 1] V (pI (fun x9 V' => LR V' x9 (pWidth (V 3) (V 2 1) s) (fun r => RO V' 6 ∧ V' 6 3 = gO q ∧ V' 6 4 = r.1 ∧ (∀ e, 0 ≤ e → e < 216 → V' 7 e = 0) ∧ TK V' r.2) ∧ V' 2 1 = V 2 1 ∧ fr [1, 2, 6, 7] V V' ∧ V 6 7 ≤ V' 6 7 ∧ V' 6 7 ≤ V 6 7 + 1)) := by
  refine Ok.intro (by decide +kernel) (Nat.le_of_ble_eq_true rfl) (fun X G hX hG hR hoa hoV => ?_)
  show J X G 0 [vA 1] [] V
  have ff_i : fr [] V V := fr_0
  have eT_i : V 3 = V 3 := rfl
  have l_i : V 2 1 = V 2 1 := rfl
  have tb_i := ht
  have tk_i := hk
  have z_i := hz
  have hgO := gO_le hgp.1
  have hg1 := hgp.2.1
  refine j_al0 hX dX4_readWidth_0 rfl ?_
  refine j_ldcS (k := 3) hX dX4_readWidth_1 rfl ?_
  refine j_cVI1 (ci := 4) hX hG lk_X4_115 (ok_X4_takeWord (by first | assumption | omega | decide) (by first | assumption | omega | decide) (by first | assumption | omega | decide) (by first | assumption | rfl)) (by decide) rfl (Nat.le_of_ble_eq_true rfl) (Nat.le_of_ble_eq_true rfl) (Nat.le_of_ble_eq_true rfl) rfl dX4_readWidth_3 (fun x_3 V_3 h_3 => ?_)
  obtain ⟨r_3, q_3, f_3⟩ := h_3
  have eT_3 : V_3 3 = V 3 := (funext fun b => f_3 3 b (by decide)).trans eT_i
  have l_3 : V_3 2 1 = V 2 1 := q_3.trans l_i
  have tb_3 : TB V_3 := TB_e ht l_3 eT_3
  have ff_3 : fr [1, 2, 6, 7] V V_3 := fr_t (fr_w ff_i (by decide)) (fr_w f_3 (by decide))
  refine j_if_eq (tgt := 18) hX dX4_readWidth_6 (by decide) (fun h_6 => ?_) (fun h_6 => ?_)
  · skip
    refine j_iconst hX dX4_readWidth_18 ⟨by decide, by decide⟩ ?_
    exact j_retZ hR dX4_readWidth_19 (by omega) (by first | (obtain ⟨e, e1, e2⟩ := LR.f r_12 h_15; exact ⟨LR.er (e := e) (by unfold pWidth; rw [sp_3, bi_ok, e1, bi_er]) e2, l_12, ff_12, by rw [f_12 6 7 (by decide), f_3 6 7 (by decide)]; omega⟩) | (obtain ⟨e, e1, e2⟩ := LR.f r_3 h_6; exact ⟨LR.er (e := e) (by unfold pWidth; rw [e1, bi_er]) e2, l_3, ff_3, by rw [f_3 6 7 (by decide)]; omega⟩))
  · skip
    obtain ⟨s_3, sp_3, z_3, tk_3⟩ := LR.t r_3 h_6
    refine j_al0 hX dX4_readWidth_9 rfl ?_
    refine j_iconst hX dX4_readWidth_10 ⟨by decide, by decide⟩ ?_
    refine j_iconst hX dX4_readWidth_11 ⟨by decide, by decide⟩ ?_
    refine j_cVI2 (ci := 4) hX hG lk_X4_99 (ok_X4_isNumber (by first | assumption | omega | decide) (by first | assumption | omega | decide)) (by decide) rfl (Nat.le_of_ble_eq_true rfl) (Nat.le_of_ble_eq_true rfl) (Nat.le_of_ble_eq_true rfl) rfl dX4_readWidth_12 (fun x_12 V_12 h_12 => ?_)
    obtain ⟨r_12, f_12⟩ := h_12
    have q_12 : V_12 2 1 = V_3 2 1 := f_12 2 1 (by decide)
    rw [eT_3, l_3] at r_12
    have eT_12 : V_12 3 = V 3 := (funext fun b => f_12 3 b (by decide)).trans eT_3
    have l_12 : V_12 2 1 = V 2 1 := q_12.trans l_3
    have tb_12 : TB V_12 := TB_e ht l_12 eT_12
    have ff_12 : fr [1, 2, 6, 7] V V_12 := fr_t (fr_w ff_3 (by decide)) (fr_w f_12 (by decide))
    have tk_12 := TK.sm tk_3 (fun b => f_12 2 b (by decide)) (fun b => f_12 3 b (by decide))
    refine j_if_ne (tgt := 20) hX dX4_readWidth_15 (by decide) (fun h_15 => ?_) (fun h_15 => ?_)
    · skip
      obtain ⟨s_12, sp_12, z_12, u_12⟩ := LR.t r_12 h_15
      have hnum := pNu_ok sp_12
      refine j_al0 hX dX4_readWidth_20 rfl ?_
      refine j_getR (q := 6) hX hG fl_X4_28 rfl rfl (by decide) dX4_readWidth_21 ?_
      refine j_al0 hX dX4_readWidth_24 rfl ?_
      refine j_getR (q := 4) hX hG fl_X4_21 rfl rfl (by decide) dX4_readWidth_25 ?_
      refine j_getI hX hG fl_X4_96 (Or.inl rfl) (by decide) dX4_readWidth_28 ?_
      refine j_al0 hX dX4_readWidth_31 rfl ?_
      refine j_getR (q := 2) hX hG fl_X4_12 rfl rfl (by decide) dX4_readWidth_32 ?_
      refine j_getI hX hG fl_X4_93 (Or.inl rfl) (by decide) dX4_readWidth_35 ?_
      obtain ⟨k0, k1, k2, k3, k4, k5⟩ := tk_12
      have hN : V_12 2 4 = sgN (V 3) (V 2 1) s_3 := by rw [k5 (by rw [k3, eT_12, l_12]; exact hnum.1), eT_12, l_12]
      have h41 : V_12 4 1 = gO q := by rw [ff_12 4 1 (by decide)]; exact hg1
      have h67 : V_12 6 7 = V 6 7 := by rw [f_12 6 7 (by decide), f_3 6 7 (by decide)]
      rw [hN, h41]
      have tk_12 : TK V_12 s_3 := ⟨k0, k1, k2, k3, k4, k5⟩
      refine j_cVV2 (ci := 8) hX hG lk_X4_127 (ok_X8_restart (Or.inl rfl) (by first | assumption | omega | decide) (by first | assumption | omega | decide) (by first | assumption | omega | decide)) (by decide) rfl (Nat.le_of_ble_eq_true rfl) (Nat.le_of_ble_eq_true rfl) (Nat.le_of_ble_eq_true rfl) rfl dX4_readWidth_38 (fun V_38 h_38 => ?_)
      obtain ⟨ro_38, e3_38, e4_38, v_38, t0_38, f0_38⟩ := h_38
      have f_38 := fr_s2 f0_38
      have q_38 : V_38 2 1 = V_12 2 1 := f_38 2 1 (by decide)
      have eT_38 : V_38 3 = V 3 := (funext fun b => f_38 3 b (by decide)).trans eT_12
      have l_38 : V_38 2 1 = V 2 1 := q_38.trans l_12
      have tb_38 : TB V_38 := TB_e ht l_38 eT_38
      have ff_38 : fr [1, 2, 6, 7] V V_38 := fr_t (fr_w ff_12 (by decide)) (fr_w f_38 (by decide))
      have tk_38 := TK.sm tk_12 (fun b => f_38 2 b (by decide)) (fun b => f_38 3 b (by decide))
      have z_38 : V_38 1 5 = 0 ∧ V_38 1 6 = -1 := ⟨(f_38 1 5 (by decide)).trans z_12.1, (f_38 1 6 (by decide)).trans z_12.2⟩
      try dsimp only [Int.reduceAdd]
      refine j_al0 hX dX4_readWidth_41 rfl ?_
      refine j_getR (q := 2) hX hG fl_X4_12 rfl rfl (by decide) dX4_readWidth_42 ?_
      refine j_cVV0 (ci := 9) hX hG lk_X4_83 (ok_X9_advance_tk (by first | assumption | omega | decide) (by first | assumption | omega | decide)) (by decide) rfl (Nat.le_of_ble_eq_true rfl) (Nat.le_of_ble_eq_true rfl) (Nat.le_of_ble_eq_true rfl) rfl dX4_readWidth_45 (fun V_45 h_45 => ?_)
      obtain ⟨tk_45, q_45, f_45⟩ := h_45
      rw [eT_38, l_38] at tk_45
      have eT_45 : V_45 3 = V 3 := (funext fun b => f_45 3 b (by decide)).trans eT_38
      have l_45 : V_45 2 1 = V 2 1 := q_45.trans l_38
      have tb_45 : TB V_45 := TB_e ht l_45 eT_45
      have ff_45 : fr [1, 2, 6, 7] V V_45 := fr_t (fr_w ff_38 (by decide)) (fr_w f_45 (by decide))
      have z_45 : V_45 1 5 = 0 ∧ V_45 1 6 = -1 := ⟨(f_45 1 5 (by decide)).trans z_38.1, (f_45 1 6 (by decide)).trans z_38.2⟩
      refine j_al0 hX dX4_readWidth_48 rfl ?_
      refine j_bipush hX dX4_readWidth_49 (by decide) ⟨by decide, by decide⟩ ?_
      refine j_cVI1 (ci := 4) hX hG lk_X4_122 (ok_X4_takeSymbol (by first | assumption | omega | decide) (by first | assumption | omega | decide) (by first | assumption | omega | decide)) (by decide) rfl (Nat.le_of_ble_eq_true rfl) (Nat.le_of_ble_eq_true rfl) (Nat.le_of_ble_eq_true rfl) rfl dX4_readWidth_51 (fun x_51 V_51 h_51 => ?_)
      obtain ⟨r_51, q_51, f_51⟩ := h_51
      rw [eT_45, l_45] at r_51
      have eT_51 : V_51 3 = V 3 := (funext fun b => f_51 3 b (by decide)).trans eT_45
      have l_51 : V_51 2 1 = V 2 1 := q_51.trans l_45
      have tb_51 : TB V_51 := TB_e ht l_51 eT_51
      have ff_51 : fr [1, 2, 6, 7] V V_51 := fr_t (fr_w ff_45 (by decide)) (fr_w f_51 (by decide))
      exact j_retZ hR dX4_readWidth_54 (LR.z r_51) ⟨by unfold pWidth; rw [sp_3, bi_ok, sp_12, bi_ok]; exact r_51.map (fun a _ ha => ⟨ro_38.sm (fun b => by rw [f_51 6 b (by decide), f_45 6 b (by decide)]), by rw [f_51 6 3 (by decide), f_45 6 3 (by decide), e3_38], by rw [f_51 6 4 (by decide), f_45 6 4 (by decide), e4_38], fun e h0 h1 => by rw [f_51 7 e (by decide), f_45 7 e (by decide)]; exact t0_38 e h0 h1, ha⟩), l_51, ff_51, by rw [f_51 6 7 (by decide), f_45 6 7 (by decide), v_38, h67]; omega⟩
    · skip
      refine j_iconst hX dX4_readWidth_18 ⟨by decide, by decide⟩ ?_
      exact j_retZ hR dX4_readWidth_19 (by omega) (by first | (obtain ⟨e, e1, e2⟩ := LR.f r_12 h_15; exact ⟨LR.er (e := e) (by unfold pWidth; rw [sp_3, bi_ok, e1, bi_er]) e2, l_12, ff_12, by rw [f_12 6 7 (by decide), f_3 6 7 (by decide)]; omega⟩) | (obtain ⟨e, e1, e2⟩ := LR.f r_3 h_6; exact ⟨LR.er (e := e) (by unfold pWidth; rw [e1, bi_er]) e2, l_3, ff_3, by rw [f_3 6 7 (by decide)]; omega⟩))
