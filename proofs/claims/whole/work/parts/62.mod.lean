def fM (V W : VV) : Prop := (∀ b, (b < 25 ∨ 31 < b) → W 55 b = V 55 b) ∧ ∀ a b, a ≠ 55 → a ≠ 63 → W a b = V a b
theorem fM_f {V W : VV} (h : fT V W) : fM V W := ⟨fun b hb => h.1 b (by omega), fun a b ha _ => h.2 a b ha⟩
theorem fM_t {V W Z : VV} (h : fM V W) (h' : fM W Z) : fM V Z := ⟨fun b hb => (h'.1 b hb).trans (h.1 b hb), fun a b ha hb => (h'.2 a b ha hb).trans (h.2 a b ha hb)⟩
def VD (g w : Int) (d : Int × Int × Int) : Prop := ((d.1 = -1 ∧ 0 ≤ d.2.1 ∧ d.2.1 < g) ∨ (0 ≤ d.1 ∧ d.1 < w)) ∧ (d.2.2 = 0 ∨ d.2.2 = 1)
def TMS (W : VV) (g w : Int) (ds : List (Int × Int × Int)) : Prop := W 55 31 = ds.length ∧ ∀ j : Nat, j < ds.length → ∃ d, ds[j]? = some d ∧ VD g w d ∧ W 63 (j : Int) = encT d
theorem TMS.c {V W : VV} {g w : Int} {ds : List (Int × Int × Int)} (h : TMS V g w ds) (e : W 55 31 = V 55 31) (e' : ∀ b, W 63 b = V 63 b) : TMS W g w ds := ⟨e.trans h.1, fun j hj => by
  obtain ⟨d, a, b, c⟩ := h.2 j hj
  exact ⟨d, a, b, (e' _).trans c⟩⟩
theorem tms_S {V W : VV} {g w : Int} {ds : List (Int × Int × Int)} {d : Int × Int × Int} (h : TMS V g w ds) (hd : VD g w d) (e : W 55 31 = ds.length + 1) (e' : ∀ b, b ≠ (ds.length : Int) → W 63 b = V 63 b) (e2 : W 63 (ds.length : Int) = encT d) : TMS W g w (ds ++ [d]) := by
  refine ⟨by rw [e, List.length_append]; push_cast; rfl, fun j hj => ?_⟩
  rw [List.length_append] at hj
  have hj2 : j < ds.length + 1 := hj
  by_cases q : j < ds.length
  · obtain ⟨x, a, b, c⟩ := h.2 j q
    exact ⟨x, by rw [List.getElem?_append_left q]; exact a, b, by rw [e' _ (by omega)]; exact c⟩
  · have ej : j = ds.length := by omega
    subst ej
    exact ⟨d, by rw [List.getElem?_append_right (Nat.le_refl _), Nat.sub_self]; rfl, hd, e2⟩
def TOTL (T : Int → Int) (L g w m : Int) (rr : PR Int) (acc : List (Int × Int × Int)) : PR (List (Int × Int × Int) × Int) := if m = 0 then rr.bind (fun s => (pSy T L 59 s).map fun a => (acc, a)) else rr.bind fun s => (pTerms T L g w (9 - acc.length) acc.length s).map fun z => (acc ++ z.1, z.2)
section TOTAL
variable {T : Int → Int} {L g w m : Int} {rr : PR Int} {acc : List (Int × Int × Int)}
theorem tot_0 : (rr.bind fun s1 => pTerms T L g w 9 0 s1) = TOTL T L g w 1 rr [] := by
  unfold TOTL
  rw [if_neg (by decide)]
  cases rr with
  | error e => rfl
  | ok s =>
    show pTerms T L g w 9 0 s = (pTerms T L g w 9 0 s).map fun z => ([] ++ z.1, z.2)
    cases pTerms T L g w 9 0 s <;> rfl
theorem tot_1 {A : PR (List (Int × Int × Int) × Int)} (hm : ¬ m = 0) (h : A = TOTL T L g w m rr acc) : A = rr.bind fun s => (pTerms T L g w (9 - acc.length) acc.length s).map fun z => (acc ++ z.1, z.2) := by
  rw [h]; exact if_neg hm
theorem tot_w {z : Int × Int} : TOTL T L g w m (.error z) acc = .error z := by
  unfold TOTL
  split <;> rfl
theorem tot_z {W : VV} (hm : m = 0) (h : STA W (rr.bind (pSy T L 59))) : STA W ((TOTL T L g w m rr acc).map Prod.snd) := by
  unfold TOTL
  rw [if_pos hm]
  cases rr with
  | error e => exact h
  | ok s =>
    show STA W (((pSy T L 59 s).map fun a => (acc, a)).map Prod.snd)
    have h1 : STA W (pSy T L 59 s) := h
    cases hp : pSy T L 59 s with
    | error e => rw [hp] at h1; exact h1
    | ok a => rw [hp] at h1; exact h1
theorem tot_a {ds : List (Int × Int × Int)} {s' : Int} (hm : m = 0) (h : TOTL T L g w m rr acc = .ok (ds, s')) : acc = ds := by
  unfold TOTL at h
  rw [if_pos hm] at h
  cases rr with
  | error e => cases h
  | ok s =>
    have h1 : (pSy T L 59 s).map (fun a => (acc, a)) = .ok (ds, s') := h
    cases hp : pSy T L 59 s with
    | error e => rw [hp] at h1; cases h1
    | ok a => rw [hp] at h1; exact congrArg Prod.fst (Except.ok.inj h1)
theorem pT_S {n : Nat} {t s s' : Int} {d : Int × Int × Int} (h : pTerm T L g w t s = .ok (d, s')) : pTerms T L g w (n + 1) t s = if isSy T L s' 42 = true then (pTerms T L g w n (t + 1) (sgX T L s')).map (fun z => (d :: z.1, z.2)) else (pSy T L 59 s').map (fun a => ([d], a)) := by
  show (pTerm T L g w t s).bind _ = _
  rw [h]; rfl
theorem pT_E {n : Nat} {t s : Int} {e : Int × Int} (h : pTerm T L g w t s = .error e) : pTerms T L g w (n + 1) t s = .error e := by
  show (pTerm T L g w t s).bind _ = _
  rw [h]; rfl
theorem tot_e {A : PR (List (Int × Int × Int) × Int)} {s : Int} {e : Int × Int} (hl : acc.length ≤ 8) (h : A = Except.bind (.ok s) fun s => (pTerms T L g w (9 - acc.length) acc.length s).map fun z => (acc ++ z.1, z.2)) (he : pTerm T L g w acc.length s = .error e) : A = .error e := by
  rw [h]
  show (pTerms T L g w (9 - acc.length) acc.length s).map _ = _
  rw [show 9 - acc.length = (8 - acc.length) + 1 by omega, pT_E he]; rfl
theorem trm_r {W : VV} {t s : Int} (h : STA W (Except.bind (.ok s) fun s => (pTerm T L g w t s).map Prod.snd)) (h0 : W 55 29 = 0) : ∃ d s2, pTerm T L g w t s = .ok (d, s2) ∧ STA W (.ok s2) := by
  have h1 : STA W ((pTerm T L g w t s).map Prod.snd) := h
  cases hp : pTerm T L g w t s with
  | error e => rw [hp] at h1; exact absurd (h1.2.2.1.symm.trans h0) h1.2.2.2.2
  | ok a => rw [hp] at h1; exact ⟨a.1, a.2, rfl, h1⟩
theorem trm_e {W : VV} {t s : Int} (h : STA W (Except.bind (.ok s) fun s => (pTerm T L g w t s).map Prod.snd)) (h0 : W 55 29 ≠ 0) : ∃ e, pTerm T L g w t s = .error e ∧ STA W (.error e) := by
  have h1 : STA W ((pTerm T L g w t s).map Prod.snd) := h
  cases hp : pTerm T L g w t s with
  | error e => rw [hp] at h1; exact ⟨e, rfl, h1⟩
  | ok a => rw [hp] at h1; exact absurd h1.2.2.1 h0
theorem trm_S {A : PR (List (Int × Int × Int) × Int)} {s s' x : Int} {d : Int × Int × Int} (hl : acc.length ≤ 8) (h : A = Except.bind (.ok s) fun s => (pTerms T L g w (9 - acc.length) acc.length s).map fun z => (acc ++ z.1, z.2)) (e : pTerm T L g w acc.length s = .ok (d, s')) (hx : x = if isSM T L 42 (.ok s') = true then 1 else 0) : A = TOTL T L g w x (tsR T L 42 (.ok s')) (acc ++ [d]) := by
  rw [h]
  show (pTerms T L g w (9 - acc.length) acc.length s).map _ = _
  rw [show 9 - acc.length = (8 - acc.length) + 1 by omega, pT_S e]
  unfold TOTL
  have el : ((acc ++ [d]).length : Int) = acc.length + 1 := by rw [List.length_append]; push_cast; rfl
  have en : 9 - (acc ++ [d]).length = 8 - acc.length := by rw [List.length_append]; show 9 - (acc.length + 1) = _; omega
  by_cases q : isSy T L s' 42 = true
  · have hx1 : x = 1 := by rw [hx]; exact if_pos q
    rw [if_pos q, hx1, if_neg (by decide)]
    show Except.map _ (Except.map _ (pTerms T L g w (8 - acc.length) (acc.length + 1) (sgX T L s'))) = Except.bind (if isSy T L s' 42 = true then .ok (sgX T L s') else .ok s') _
    rw [if_pos q]
    show _ = Except.map _ (pTerms T L g w (9 - (acc ++ [d]).length) ((acc ++ [d]).length : Int) (sgX T L s'))
    rw [en, el]
    cases pTerms T L g w (8 - acc.length) (acc.length + 1) (sgX T L s') with
    | error z => rfl
    | ok z =>
      show Except.ok (acc ++ (d :: z.1), z.2) = Except.ok ((acc ++ [d]) ++ z.1, z.2)
      rw [List.append_assoc]; rfl
  · have hx1 : x = 0 := by rw [hx]; exact if_neg q
    rw [if_neg q, hx1, if_pos rfl]
    show _ = Except.bind (if isSy T L s' 42 = true then .ok (sgX T L s') else .ok s') _
    rw [if_neg q]
    show Except.map _ (Except.map _ (pSy T L 59 s')) = Except.map _ (pSy T L 59 s')
    cases pSy T L 59 s' <;> rfl
theorem pT_v {t s s' : Int} {d : Int × Int × Int} (hw : w = 2 ∨ w = 3) (e : pTerm T L g w t s = .ok (d, s')) : t < 8 ∧ VD g w d := by
  unfold pTerm at e
  have key : ∀ x : PR Unit, (x.bind fun _ => if 8 ≤ t then .error (4, s) else if isSy T L (sgX T L s) 45 = true then Except.ok ((plF T L s, if plF T L s = -1 then sgN T L s else 0, (1 : Int)), sgX T L (sgX T L s)) else .ok ((plF T L s, if plF T L s = -1 then sgN T L s else 0, (0 : Int)), sgX T L s)) = .ok (d, s') → x = .ok () ∧ ¬ 8 ≤ t ∧ d = (plF T L s, (if plF T L s = -1 then sgN T L s else 0), if isSy T L (sgX T L s) 45 = true then 1 else 0) := by
    intro x hx
    cases x with
    | error z => cases hx
    | ok u =>
      have hx2 : (if 8 ≤ t then Except.error ((4 : Int), s) else if isSy T L (sgX T L s) 45 = true then Except.ok ((plF T L s, if plF T L s = -1 then sgN T L s else 0, (1 : Int)), sgX T L (sgX T L s)) else .ok ((plF T L s, if plF T L s = -1 then sgN T L s else 0, (0 : Int)), sgX T L s)) = .ok (d, s') := hx
      by_cases q8 : 8 ≤ t
      · rw [if_pos q8] at hx2; cases hx2
      · rw [if_neg q8] at hx2
        refine ⟨rfl, q8, ?_⟩
        by_cases qs : isSy T L (sgX T L s) 45 = true
        · rw [if_pos qs] at hx2 ⊢
          exact (congrArg Prod.fst (Except.ok.inj hx2)).symm
        · rw [if_neg qs] at hx2 ⊢
          exact (congrArg Prod.fst (Except.ok.inj hx2)).symm
  obtain ⟨h1, h2, h3⟩ := key _ e
  refine ⟨by omega, ?_, ?_⟩
  · rw [h3]
    show (plF T L s = -1 ∧ 0 ≤ (if plF T L s = -1 then sgN T L s else 0) ∧ (if plF T L s = -1 then sgN T L s else 0) < g) ∨ (0 ≤ plF T L s ∧ plF T L s < w)
    by_cases c : plF T L s = -1 ∨ w ≤ plF T L s
    · rw [if_pos c] at h1
      have hn := pNu_t.mp h1
      have hp : plF T L s = -1 := by unfold plF; rw [if_neg (by omega)]
      refine Or.inl ⟨hp, ?_⟩
      rw [if_pos hp]; omega
    · refine Or.inr ⟨?_, by omega⟩
      have c1 : ¬ plF T L s = -1 := fun z => c (Or.inl z)
      unfold plF at c1 ⊢
      by_cases z : sgK T L s = 1 ∧ sgE T L s - s = 1 ∧ T s ≤ 99
      · rw [if_pos z]
        have := sgK_1 z.1
        omega
      · rw [if_neg z] at c1; exact absurd rfl c1
  · rw [h3]
    show (if isSy T L (sgX T L s) 45 = true then (1 : Int) else 0) = 0 ∨ (if isSy T L (sgX T L s) 45 = true then (1 : Int) else 0) = 1
    split
    · exact Or.inr rfl
    · exact Or.inl rfl
end TOTAL
set_option maxHeartbeats 4000000 in
theorem ok_X12_terms {V : VV} {r : PR Int} (hmt : MTB V) (hst : STA V r) (hg0 : 2 ≤ V 55 10 ∧ V 55 10 ≤ 6) (hw0 : V 55 11 = 2 ∨ V 55 11 = 3) : Ok NA yX12_terms cX12_terms 3 none 7 150 [vA 55] V (pV (fun V' => STA V' ((((r.bind (pWd (V 68) (V 55 24) wWord)).bind fun s1 => pTerms (V 68) (V 55 24) (V 55 10) (V 55 11) 9 0 s1)).map Prod.snd) ∧ (∀ ds s', ((r.bind (pWd (V 68) (V 55 24) wWord)).bind fun s1 => pTerms (V 68) (V 55 24) (V 55 10) (V 55 11) 9 0 s1) = .ok (ds, s') → TMS V' (V 55 10) (V 55 11) ds) ∧ fM V V')) := by
  refine Ok.intro (by decide +kernel) (Nat.le_of_ble_eq_true rfl) (fun X G hX hG hR hoa hoV => ?_)
  show J X G 0 [vA 55, vU, vU] [] V
  refine j_al0 hX dX12_terms_0 rfl ?_
  refine j_ldcSw (k := 13) hX dX12_terms_1 rfl ?_
  refine j_cVV1 (ci := 12) hX hG lk_X12_261 (ok_X12_must (by first | assumption | omega | decide) (by first | assumption | omega | decide) (by first | assumption | rfl)) (by decide) rfl (Nat.le_of_ble_eq_true rfl) (Nat.le_of_ble_eq_true rfl) (Nat.le_of_ble_eq_true rfl) rfl dX12_terms_4 (fun V_4 h_4 => ?_)
  obtain ⟨s_4, f_4⟩ := h_4
  refine j_al0 hX dX12_terms_7 rfl ?_
  refine j_iconst hX dX12_terms_8 ⟨by decide, by decide⟩ ?_
  refine j_putI hX hG fp_X12_265 rfl (by decide) dX12_terms_9 ?_
  generalize hN : up _ 55 31 0 = N
  have s4 : STA N (r.bind (pWd (V 68) (V 55 24) wWord)) := s_4.c (fun b b0 b1 => by rw [← hN, up_n _ (by omega)]) (by rw [← hN, up_r _ (by decide)])
  have f4 : fM V N := ⟨fun b hb => by rw [← hN, up_n _ (by omega)]; exact f_4.1 b (by omega), fun a b ha hb => by rw [← hN, up_n _ (by omega)]; exact f_4.2 a b ha⟩
  have t4 : TMS N (V 55 10) (V 55 11) [] := ⟨by rw [← hN, up_s]; rfl, fun j hj => absurd hj (Nat.not_lt_zero _)⟩
  clear hN
  refine j_iconst hX dX12_terms_12 ⟨by decide, by decide⟩ ?_
  refine j_is1 hX dX12_terms_13 rfl ?_
  have lp_14 : ∀ (f9 : Nat) (m : Int) (rr : PR Int) (acc : List (Int × Int × Int)) (W : VV), (((r.bind (pWd (V 68) (V 55 24) wWord)).bind fun s1 => pTerms (V 68) (V 55 24) (V 55 10) (V 55 11) 9 0 s1) = TOTL (V 68) (V 55 24) (V 55 10) (V 55 11) m rr acc) → (STA W rr) → (TMS W (V 55 10) (V 55 11) acc) → (acc.length ≤ 8) → (fM V W) → ((9 - acc.length)) < f9 → J X G 14 [vA 55, vI m, vU] [] W := by
    intro f9
    induction f9 with
    | zero => intro m rr acc W _ _ _ _ _ hm; exact absurd hm (Nat.not_lt_zero _)
    | succ f9 ih_14 =>
      intro m rr acc W hT9 sW tW la fW hm
      have w68 : W 68 = V 68 := funext fun b => fW.2 68 b (by decide) (by decide)
      have w24 : W 55 24 = V 55 24 := fW.1 24 (by decide)
      have w10 : W 55 10 = V 55 10 := fW.1 10 (by decide)
      have w11 : W 55 11 = V 55 11 := fW.1 11 (by decide)
      have w31 : W 55 31 = acc.length := tW.1
      have mtW : MTB W := by unfold MTB; rw [w68, w24]; exact hmt
      refine j_il1 hX dX12_terms_14 ?_
      refine j_if_eq (tgt := 82) hX dX12_terms_15 (by decide) (fun h_15 => ?_) (fun h_15 => ?_)
      · skip
        refine j_al0 hX dX12_terms_82 rfl ?_
        refine j_cVV0 (ci := 12) hX hG lk_X12_250 (ok_X12_ends mtW sW) (by decide) rfl (Nat.le_of_ble_eq_true rfl) (Nat.le_of_ble_eq_true rfl) (Nat.le_of_ble_eq_true rfl) rfl dX12_terms_83 (fun V_83 h_83 => ?_)
        obtain ⟨s_83, f_83⟩ := h_83
        rw [w68, w24] at s_83
        exact j_ret hR dX12_terms_86 (by
      first
      | (refine ⟨?_, fun ds s' e => ?_, fM_t fW (fM_f f_83)⟩
         · rw [hT9]; exact tot_z (by assumption) s_83
         · rw [hT9] at e
           have ea := tot_a (by assumption) e
           rw [← ea]
           exact tW.c (f_83.1 31 (by decide)) (fun b => f_83.2 63 b (by decide)))
      | (obtain ⟨z, ez, zw⟩ := sW.er h_22
         subst ez
         have hTz := tot_w (T := V 68) (L := V 55 24) (g := V 55 10) (w := V 55 11) (m := m) (z := z) (acc := acc)
         refine ⟨by rw [hT9, hTz]; exact s_83, fun ds s' e => (by rw [hT9, hTz] at e; cases e), fM_t fW (fM_f f_83)⟩))
      · skip
        refine j_al0 hX dX12_terms_18 rfl ?_
        refine j_pVI0 (ci := 12) hX hG lk_X12_204 (ok_X12_isWrong ) (by decide) rfl (Nat.le_of_ble_eq_true rfl) (Nat.le_of_ble_eq_true rfl) (Nat.le_of_ble_eq_true rfl) rfl dX12_terms_19 ?_
        refine j_ifz_ne (tgt := 82) hX dX12_terms_22 (by decide) (fun h_22 => ?_) (fun h_22 => ?_)
        · skip
          refine j_al0 hX dX12_terms_82 rfl ?_
          refine j_cVV0 (ci := 12) hX hG lk_X12_250 (ok_X12_ends mtW sW) (by decide) rfl (Nat.le_of_ble_eq_true rfl) (Nat.le_of_ble_eq_true rfl) (Nat.le_of_ble_eq_true rfl) rfl dX12_terms_83 (fun V_83 h_83 => ?_)
          obtain ⟨s_83, f_83⟩ := h_83
          rw [w68, w24] at s_83
          exact j_ret hR dX12_terms_86 (by
      first
      | (refine ⟨?_, fun ds s' e => ?_, fM_t fW (fM_f f_83)⟩
         · rw [hT9]; exact tot_z (by assumption) s_83
         · rw [hT9] at e
           have ea := tot_a (by assumption) e
           rw [← ea]
           exact tW.c (f_83.1 31 (by decide)) (fun b => f_83.2 63 b (by decide)))
      | (obtain ⟨z, ez, zw⟩ := sW.er h_22
         subst ez
         have hTz := tot_w (T := V 68) (L := V 55 24) (g := V 55 10) (w := V 55 11) (m := m) (z := z) (acc := acc)
         refine ⟨by rw [hT9, hTz]; exact s_83, fun ds s' e => (by rw [hT9, hTz] at e; cases e), fM_t fW (fM_f f_83)⟩))
        · skip
          obtain ⟨s, er, rt⟩ := sW.r (Classical.byContradiction h_22)
          subst er
          have hT1 := tot_1 h_15 hT9
          have jn_40 : ∀ (b : Int), (b = 0 ↔ 8 ≤ (acc.length : Int)) → J X G 40 [vA 55, vI m, vU] [vI b, vA 55] W := by
            intro b hb9
            refine j_cVI1 (ci := 12) hX hG lk_X12_268 (ok_X12_term mtW sW (by rw [w10]; exact hg0) (by rw [w11]; exact hw0) hb9) (by decide) rfl (Nat.le_of_ble_eq_true rfl) (Nat.le_of_ble_eq_true rfl) (Nat.le_of_ble_eq_true rfl) rfl dX12_terms_40 (fun x_40 V_40 h_40 => ?_)
            obtain ⟨b_40, v_40, s_40, f_40⟩ := h_40
            rw [w68, w24, w10, w11] at v_40 s_40
            refine j_is2 hX dX12_terms_43 rfl ?_
            refine j_al0 hX dX12_terms_44 rfl ?_
            refine j_pVI0 (ci := 12) hX hG lk_X12_204 (ok_X12_isWrong ) (by decide) rfl (Nat.le_of_ble_eq_true rfl) (Nat.le_of_ble_eq_true rfl) (Nat.le_of_ble_eq_true rfl) rfl dX12_terms_45 ?_
            refine j_ifz_eq (tgt := 52) hX dX12_terms_48 (by decide) (fun h_48 => ?_) (fun h_48 => ?_)
            · skip
              obtain ⟨d, s2, hp2, h9⟩ : ∃ d s2, pTerm (V 68) (V 55 24) (V 55 10) (V 55 11) (acc.length : Int) s = .ok (d, s2) ∧ STA V_40 (.ok s2) := trm_r s_40 (Classical.byContradiction h_48)
              have hvd := pT_v hw0 hp2
              have hv9 := v_40 s d s2 rfl hp2
              have l31 : V_40 55 31 = acc.length := (f_40.1 31 (by decide)).trans w31
              refine j_al0 hX dX12_terms_52 rfl ?_
              refine j_getR (q := 63) hX hG fl_X12_31 rfl rfl (by decide) dX12_terms_53 ?_
              refine j_al0 hX dX12_terms_56 rfl ?_
              refine j_getI hX hG fl_X12_265 (Or.inl rfl) (by decide) dX12_terms_57 ?_
              refine j_il2 hX dX12_terms_60 ?_
              refine j_iast (n := 8) hX hG (by decide) (by omega) dX12_terms_61 ?_
              refine j_al0 hX dX12_terms_62 rfl ?_
              refine j_dup hX dX12_terms_63 rfl ?_
              refine j_getI hX hG fl_X12_265 (Or.inl rfl) (by decide) dX12_terms_64 ?_
              refine j_iconst hX dX12_terms_67 ⟨by decide, by decide⟩ ?_
              refine j_iadd hX dX12_terms_68 (by rw [up_n _ (by omega), l31]; omega) ?_
              refine j_putI hX hG fp_X12_265 rfl (by decide) dX12_terms_69 ?_
              generalize hN : up _ 55 31 _ = Y
              have y31 : Y 55 31 = acc.length + 1 := by rw [← hN, up_s, up_n _ (by omega), l31]
              have yF : ∀ b, b ≠ 31 → Y 55 b = V_40 55 b := fun b hb => by rw [← hN, up_n _ (by omega), up_n _ (by omega)]
              have yC : ∀ a b, a ≠ 55 → a ≠ 63 → Y a b = V_40 a b := fun a b ha hb => by rw [← hN, up_n _ (by omega), up_n _ (by omega)]
              have y63 : ∀ b, b ≠ (acc.length : Int) → Y 63 b = V_40 63 b := fun b hb => by rw [← hN, up_n _ (by omega), up_n _ (by omega)]
              have y6 : Y 63 (acc.length : Int) = x_40 := by rw [← hN, up_n _ (by omega), l31, up_s]
              clear hN
              have fY : fM W Y := ⟨fun b hb => (yF b (by omega)).trans (f_40.1 b (by omega)), fun a b ha hb => (yC a b ha hb).trans (f_40.2 a b ha)⟩
              have f7 := fM_t fW fY
              have y68 : Y 68 = V 68 := funext fun b => f7.2 68 b (by decide) (by decide)
              have y24 : Y 55 24 = V 55 24 := f7.1 24 (by decide)
              have mtY : MTB Y := by unfold MTB; rw [y68, y24]; exact hmt
              have sY : STA Y (.ok s2) := STA.c h9 (fun b b0 b1 => yF b (by omega)) (funext fun b => yC 68 b (by decide) (by decide))
              refine j_al0 hX dX12_terms_72 rfl ?_
              refine j_bipush hX dX12_terms_73 (by decide) ⟨by decide, by decide⟩ ?_
              refine j_cVI1 (ci := 12) hX hG lk_X12_234 (ok_X12_takesSign mtY sY (by decide)) (by decide) rfl (Nat.le_of_ble_eq_true rfl) (Nat.le_of_ble_eq_true rfl) (Nat.le_of_ble_eq_true rfl) rfl dX12_terms_75 (fun x_75 V_75 h_75 => ?_)
              obtain ⟨e_75, s_75, f_75⟩ := h_75
              rw [y68, y24] at e_75 s_75
              refine j_is1 hX dX12_terms_78 rfl ?_
              have t7 : TMS V_75 (V 55 10) (V 55 11) (acc ++ [d]) := tms_S tW hvd.2 (by rw [f_75.1 31 (by decide)]; exact y31) (fun b hb => (f_75.2 63 b (by decide)).trans ((y63 b (by omega)).trans (f_40.2 63 b (by decide)))) (by rw [f_75.2 63 _ (by decide), y6]; exact hv9)
              refine j_goto (tgt := 14) hX dX12_terms_79 (by decide) ?_
              refine j_fg2 ?_
              exact ih_14 _ (tsR (V 68) (V 55 24) 42 (.ok s2)) (acc ++ [d]) _ (trm_S (by omega) hT1 hp2 e_75) s_75 t7 (by rw [List.length_append]; show acc.length + 1 ≤ 8; omega) (fM_t f7 (fM_f f_75)) (by rw [List.length_append]; show 9 - (acc.length + 1) < _; omega)
            · skip
              exact j_ret hR dX12_terms_51 (by
      obtain ⟨z, ez, zw⟩ := trm_e s_40 h_48
      have hTz := tot_e (by omega) hT1 ez
      refine ⟨by rw [hTz]; exact zw, fun ds s' e => (by rw [hTz] at e; cases e), fM_t fW (fM_f f_40)⟩)
          refine j_al0 hX dX12_terms_25 rfl ?_
          refine j_al0 hX dX12_terms_26 rfl ?_
          refine j_getI hX hG fl_X12_265 (Or.inl rfl) (by decide) dX12_terms_27 ?_
          refine j_bipush hX dX12_terms_30 (by decide) ⟨by decide, by decide⟩ ?_
          refine j_icmp_ge (tgt := 39) hX dX12_terms_32 (by decide) (fun h_32 => ?_) (fun h_32 => ?_)
          · skip
            refine j_iconst hX dX12_terms_39 ⟨by decide, by decide⟩ ?_
            exact jn_40 _ (by omega)
          · skip
            refine j_iconst hX dX12_terms_35 ⟨by decide, by decide⟩ ?_
            refine j_goto (tgt := 40) hX dX12_terms_36 (by decide) ?_
            exact jn_40 _ (by omega)
  exact lp_14 _ 1 (r.bind (pWd (V 68) (V 55 24) wWord)) [] _ tot_0 s4 t4 (by decide) f4 (Nat.lt_succ_self _)
