theorem facF_el {q : Nat} {g w pl el n b e : Int} (h : pl = -1 → el = n) : facF q g w pl el b e = facF q g w pl (if pl = -1 then n else 0) b e := by
  by_cases hp : pl = -1
  · rw [if_pos hp, h hp]
  · exact facF_c hp
theorem ma_id {α β : Type} {r : PR (List α × β)} : r.map (fun z => ([] ++ z.1, z.2)) = r := by cases r <;> rfl
theorem ma_ma {α β γ : Type} {r : PR α} {f : α → β} {g : β → γ} : (r.map f).map g = r.map (fun a => g (f a)) := by cases r <;> rfl
theorem pTerms_er {T : Int → Int} {L g w t s : Int} {n : Nat} {e : Int × Int} (h : pTerm T L g w t s = .error e) : pTerms T L g w (n + 1) t s = .error e := by
  show (pTerm T L g w t s).bind _ = _
  rw [h]; rfl
theorem pTerms_go {T : Int → Int} {L g w t s : Int} {n : Nat} {d : (Int × Int × Int) × Int} (h : pTerm T L g w t s = .ok d) (h2 : isSy T L d.2 42 = true) : pTerms T L g w (n + 1) t s = (pTerms T L g w n (t + 1) (sgX T L d.2)).map (fun z => (d.1 :: z.1, z.2)) := by
  show (pTerm T L g w t s).bind _ = _
  rw [h, bi_ok, if_pos h2]
theorem pTerms_no {T : Int → Int} {L g w t s : Int} {n : Nat} {d : (Int × Int × Int) × Int} (h : pTerm T L g w t s = .ok d) (h2 : ¬ isSy T L d.2 42 = true) : pTerms T L g w (n + 1) t s = (pSy T L 59 d.2).map (fun a => ([d.1], a)) := by
  show (pTerm T L g w t s).bind _ = _
  rw [h, bi_ok, if_neg h2]
theorem tabF_app {q : Nat} {w v e : Int} {a : List (Int × Int × Int)} {d : Int × Int × Int} : tabF q w v (a ++ [d]) e = gM q (tabF q w v a e) (facF q (gO q) w d.1 d.2.1 d.2.2 e) := by
  unfold tabF
  rw [List.foldl_append]
  rfl
theorem casT_app {a : List (Int × Int)} {d : Int × Int} : ∀ {f : Int → Int}, casT (a ++ [d]) f = fun j => if j = d.1 then d.2 else casT a f j := by
  induction a with
  | nil => intro f; rfl
  | cons x r ih => intro f; exact ih
theorem RO.pow {V : VV} {r : Int} (h : RO V r) : V r 5 = V r 3 ^ (V r 4).toNat := by
  obtain ⟨h1, h2, h3⟩ := h
  rcases h2 with ⟨a, b⟩ | ⟨a, b⟩
  · rw [h3, b, a]
    show _ = V r 3 ^ 2
    simp [Int.pow_succ]
  · rw [h3, b, a]
    show _ = V r 3 ^ 3
    simp [Int.pow_succ]
theorem pw216 {g : Int} (h : 2 ≤ g ∧ g ≤ 6) {p : Int} (hp : p ≤ 3) : 1 ≤ g ^ p.toNat ∧ g ^ p.toNat ≤ 216 := by
  have : p.toNat = 0 ∨ p.toNat = 1 ∨ p.toNat = 2 ∨ p.toNat = 3 := by omega
  rcases this with e | e | e | e <;> rw [e] <;> rcases g26 h with e | e | e | e | e <;> subst e <;> decide
theorem pPl_go {T : Int → Int} {L g wd s : Int} {seen : List Int} {n : Nat} {u : Unit} (h : pNu T L 0 (g - 1) s = .ok u) (h2 : ¬ (n = 0 ∧ wd * g + sgN T L s ∈ seen)) : pPl T L g seen (n + 1) wd s = pPl T L g seen n (wd * g + sgN T L s) (sgX T L s) := by
  show (pNu T L 0 (g - 1) s).bind _ = _
  rw [h, bi_ok, if_neg h2]
theorem pPl_er {T : Int → Int} {L g wd s : Int} {seen : List Int} {n : Nat} {e : Int × Int} (h : pNu T L 0 (g - 1) s = .error e) : pPl T L g seen (n + 1) wd s = .error e := by
  show (pNu T L 0 (g - 1) s).bind _ = _
  rw [h]; rfl
theorem pPl_3 {T : Int → Int} {L g wd s : Int} {seen : List Int} {n : Nat} {u : Unit} (h : pNu T L 0 (g - 1) s = .ok u) (h2 : n = 0 ∧ wd * g + sgN T L s ∈ seen) : pPl T L g seen (n + 1) wd s = .error (3, s) := by
  show (pNu T L 0 (g - 1) s).bind _ = _
  rw [h, bi_ok, if_pos h2]
theorem pCases_no {T : Int → Int} {L g w c s : Int} {seen : List Int} {n : Nat} (h : ¬ isWd T L s wCase = true) : pCases T L g w (n + 1) c seen s = .ok ([], s) := by
  show (if isWd T L s wCase = true then _ else _) = _
  rw [if_neg h]
theorem pCases_4 {T : Int → Int} {L g w c s : Int} {seen : List Int} {n : Nat} (h : isWd T L s wCase = true) (h2 : 12 ≤ c) : pCases T L g w (n + 1) c seen s = .error (4, s) := by
  show (if isWd T L s wCase = true then _ else _) = _
  rw [if_pos h, if_pos h2]
theorem pCases_er {T : Int → Int} {L g w c s : Int} {seen : List Int} {n : Nat} {e : Int × Int} (h : isWd T L s wCase = true) (h2 : ¬ 12 ≤ c) (h3 : pCase T L g w seen (sgX T L s) = .error e) : pCases T L g w (n + 1) c seen s = .error e := by
  show (if isWd T L s wCase = true then _ else _) = _
  rw [if_pos h, if_neg h2, h3]; rfl
theorem pCases_go {T : Int → Int} {L g w c s : Int} {seen : List Int} {n : Nat} {r : (Int × Int) × Int} (h : isWd T L s wCase = true) (h2 : ¬ 12 ≤ c) (h3 : pCase T L g w seen (sgX T L s) = .ok r) : pCases T L g w (n + 1) c seen s = (pCases T L g w n (c + 1) (r.1.1 :: seen) r.2).map (fun z => (r.1 :: z.1, z.2)) := by
  show (if isWd T L s wCase = true then _ else _) = _
  rw [if_pos h, if_neg h2, h3]; rfl
theorem pCells_no {T : Int → Int} {L g c s : Int} {n : Nat} (h : 0 < c ∧ isSy T L s 59 = true) : pCells T L g (n + 1) c s = .ok ([], sgX T L s) := by
  show (if 0 < c ∧ isSy T L s 59 = true then _ else _) = _
  rw [if_pos h]
theorem pCells_er {T : Int → Int} {L g c s : Int} {n : Nat} {e : Int × Int} (h : ¬ (0 < c ∧ isSy T L s 59 = true)) (h2 : pNu T L 0 (g - 1) s = .error e) : pCells T L g (n + 1) c s = .error e := by
  show (if 0 < c ∧ isSy T L s 59 = true then _ else _) = _
  rw [if_neg h, h2]; rfl
theorem pCells_4 {T : Int → Int} {L g c s : Int} {n : Nat} {u : Unit} (h : ¬ (0 < c ∧ isSy T L s 59 = true)) (h2 : pNu T L 0 (g - 1) s = .ok u) (h3 : 16 ≤ c) : pCells T L g (n + 1) c s = .error (4, s) := by
  show (if 0 < c ∧ isSy T L s 59 = true then _ else _) = _
  rw [if_neg h, h2, bi_ok, if_pos h3]
theorem pCells_go {T : Int → Int} {L g c s : Int} {n : Nat} {u : Unit} (h : ¬ (0 < c ∧ isSy T L s 59 = true)) (h2 : pNu T L 0 (g - 1) s = .ok u) (h3 : ¬ 16 ≤ c) : pCells T L g (n + 1) c s = (pCells T L g n (c + 1) (sgX T L s)).map (fun z => (sgN T L s :: z.1, z.2)) := by
  show (if 0 < c ∧ isSy T L s 59 = true then _ else _) = _
  rw [if_neg h, h2, bi_ok, if_neg h3]
theorem getD_app {l : List Int} {x : Int} {k : Int} (h0 : 0 ≤ k) (h1 : k ≤ l.length) : (l ++ [x]).getD k.toNat 0 = if k = l.length then x else l.getD k.toNat 0 := by
  rw [List.getD_eq_getElem?_getD]
  by_cases e : k = l.length
  · rw [if_pos e, e]
    simp
  · rw [if_neg e, List.getElem?_append_left (by omega), List.getD_eq_getElem?_getD]

theorem TRgo {V V' : VV} {q : Nat} {w pl el b : Int} (ho : RO V 6) (htr : TR V 6) (h3 : V 6 3 = gO q) (hq : q < 7) (e5 : V' 6 5 = V 6 5) (e3 : V' 6 3 = gO q) (hp : pl = -1 ∧ 0 ≤ el ∧ el < gO q ∨ 0 ≤ pl) (h : ∀ e, 0 ≤ e → e < V 6 5 → V' 7 e = gM q (V 7 e) (facF q (gO q) w pl el b e)) : TR V' 6 := fun e h0 h1 => by
  rw [e5] at h1
  rw [e3]
  show 0 ≤ V' 7 e ∧ V' 7 e < gO q
  rw [h e h0 h1]
  have := htr e h0 h1
  rw [h3] at this
  exact gM_lt hq this (facF_b hq hp)
theorem RO.sm6 {V W : VV} (h : RO V 6) (e : ∀ b, b ≠ 7 → W 6 b = V 6 b) : RO W 6 := by
  unfold RO at h ⊢
  rw [e 3 (by decide), e 4 (by decide), e 5 (by decide), e 6 (by decide)]
  exact h
set_option maxHeartbeats 4000000 in
theorem ok_X4_readTerm {V : VV} {s t : Int} {q : Nat} (ht : TB V) (hk : TK V s) (hz : V 1 5 = 0 ∧ V 1 6 = -1) (hgp : GP V 4 q) (ho : RO V 6) (htr : TR V 6) (h3 : V 6 3 = gO q) (hv : 0 ≤ V 6 7 ∧ V 6 7 ≤ 950000) (ht8 : 0 ≤ t ∧ t ≤ 8) : Ok NC yX4_readTerm cX4_readTerm 5 (some .boolean) 4 92 [vA 1, vI t] V (pI (fun x9 V' => LR V' x9 (pTerm (V 3) (V 2 1) (gO q) (V 6 4) t s) (fun r => TK V' r.2 ∧ TR V' 6 ∧ ∀ e, 0 ≤ e → e < V 6 5 → V' 7 e = gM q (V 7 e) (facF q (gO q) (V 6 4) r.1.1 r.1.2.1 r.1.2.2 e)) ∧ V' 2 1 = V 2 1 ∧ fr [1, 2, 6, 7] V V' ∧ (∀ b, b ≠ 7 → V' 6 b = V 6 b) ∧ V 6 7 ≤ V' 6 7 ∧ V' 6 7 ≤ V 6 7 + 1)) := by
  refine Ok.intro (by decide +kernel) (Nat.le_of_ble_eq_true rfl) (fun X G hX hG hR hoa hoV => ?_)
  show J X G 0 [vA 1, vI t, vU, vU, vU] [] V
  have ff_i : fr [] V V := fr_0
  have eT_i : V 3 = V 3 := rfl
  have l_i : V 2 1 = V 2 1 := rfl
  have tb_i := ht
  have tk_i := hk
  have z_i := hz
  have hO6 := gO_le hgp.1
  have hpl9 := plF_b (T := V 3) (L := V 2 1) (s := s)
  have hob := ho.b
  have hpl9 := plF_b (T := V 3) (L := V 2 1) (s := s)
  have jn_33 : ∀ (W : VV), (TK W s) → (fr [1] V W) → (W 1 5 = 0 ∧ W 1 6 = -1) → ((if plF (V 3) (V 2 1) s = -1 ∨ V 6 4 ≤ plF (V 3) (V 2 1) s then pNu (V 3) (V 2 1) 0 (gO q - 1) s else .ok ()) = .ok ()) → (plF (V 3) (V 2 1) s = -1 ∧ 0 ≤ W 2 4 ∧ W 2 4 < gO q ∧ W 2 4 = sgN (V 3) (V 2 1) s ∨ 0 ≤ plF (V 3) (V 2 1) s ∧ plF (V 3) (V 2 1) s < V 6 4) → J X G 33 [vA 1, vI t, vI (plF (V 3) (V 2 1) s), vU, vU] [] W := by
    intro W tk_W f_W z_W hcW hcN
    have q_W : W 2 1 = V 2 1 := f_W 2 1 (by decide)
    have l_W := q_W
    have eT_W : W 3 = V 3 := funext fun b => f_W 3 b (by decide)
    have tb_W : TB W := TB_e ht l_W eT_W
    have ff_W : fr [1, 2, 6, 7] V W := fr_w f_W (by decide)
    refine j_il1 hX dX4_readTerm_33 ?_
    refine j_bipush hX dX4_readTerm_34 (by decide) ⟨by decide, by decide⟩ ?_
    refine j_icmp_lt (tgt := 45) hX dX4_readTerm_36 (by decide) (fun h_36 => ?_) (fun h_36 => ?_)
    · skip
      refine j_al0 hX dX4_readTerm_45 rfl ?_
      refine j_getR (q := 2) hX hG fl_X4_12 rfl rfl (by decide) dX4_readTerm_46 ?_
      refine j_getI hX hG fl_X4_93 (Or.inl rfl) (by decide) dX4_readTerm_49 ?_
      refine j_is3 hX dX4_readTerm_52 rfl ?_
      refine j_al0 hX dX4_readTerm_53 rfl ?_
      refine j_getR (q := 2) hX hG fl_X4_12 rfl rfl (by decide) dX4_readTerm_54 ?_
      refine j_cVV0 (ci := 9) hX hG lk_X4_83 (ok_X9_advance_tk (by first | assumption | omega | decide) (by first | assumption | omega | decide)) (by decide) rfl (Nat.le_of_ble_eq_true rfl) (Nat.le_of_ble_eq_true rfl) (Nat.le_of_ble_eq_true rfl) rfl dX4_readTerm_57 (fun V_57 h_57 => ?_)
      obtain ⟨tk_57, q_57, f_57⟩ := h_57
      rw [eT_W, l_W] at tk_57
      have eT_57 : V_57 3 = V 3 := (funext fun b => f_57 3 b (by decide)).trans eT_W
      have l_57 : V_57 2 1 = V 2 1 := q_57.trans l_W
      have tb_57 : TB V_57 := TB_e ht l_57 eT_57
      have ff_57 : fr [1, 2, 6, 7] V V_57 := fr_t (fr_w ff_W (by decide)) (fr_w f_57 (by decide))
      have z_57 : V_57 1 5 = 0 ∧ V_57 1 6 = -1 := ⟨(f_57 1 5 (by decide)).trans z_W.1, (f_57 1 6 (by decide)).trans z_W.2⟩
      have jn_83 : ∀ (Z : VV) (b s2 : Int), (TK Z s2) → (fr [1, 2] W Z) → (Z 2 1 = V 2 1) → (Z 1 5 = 0 ∧ Z 1 6 = -1) → ((if isSy (V 3) (V 2 1) (sgX (V 3) (V 2 1) s) 45 = true then (Except.ok ((plF (V 3) (V 2 1) s, if plF (V 3) (V 2 1) s = -1 then sgN (V 3) (V 2 1) s else 0, 1), sgX (V 3) (V 2 1) (sgX (V 3) (V 2 1) s)) : PR ((Int × Int × Int) × Int)) else .ok ((plF (V 3) (V 2 1) s, if plF (V 3) (V 2 1) s = -1 then sgN (V 3) (V 2 1) s else 0, 0), sgX (V 3) (V 2 1) s)) = .ok ((plF (V 3) (V 2 1) s, if plF (V 3) (V 2 1) s = -1 then sgN (V 3) (V 2 1) s else 0, b), s2)) → J X G 83 [vA 1, vI t, vI (plF (V 3) (V 2 1) s), vI (W 2 4), vI b] [] Z := by
        intro Z b s2 tk_Z f_Z l_Z z_Z spZ
        have ff_Z : fr [1, 2] V Z := fr_t (fr_w f_W (by decide)) f_Z
        have ro_Z : RO Z 6 := ho.sm (fun b => ff_Z 6 b (by decide))
        have tr_Z : TR Z 6 := fun e h0 h1 => by rw [show Z (6 + 1) e = V (6 + 1) e from ff_Z 7 e (by decide), show Z 6 3 = V 6 3 from ff_Z 6 3 (by decide)]; exact htr e h0 (by rw [show Z 6 5 = V 6 5 from ff_Z 6 5 (by decide)] at h1; exact h1)
        have gp_Z : GP Z 4 q := hgp.sm (fun b => ff_Z 4 b (by decide)) (fun b => ff_Z 5 b (by decide))
        have a3_Z : Z 6 3 = gO q := (ff_Z 6 3 (by decide)).trans h3
        have a4_Z : Z 6 4 = V 6 4 := ff_Z 6 4 (by decide)
        have a5_Z : Z 6 5 = V 6 5 := ff_Z 6 5 (by decide)
        have a7_Z : Z 6 7 = V 6 7 := ff_Z 6 7 (by decide)
        refine j_al0 hX dX4_readTerm_83 rfl ?_
        refine j_getR (q := 6) hX hG fl_X4_28 rfl rfl (by decide) dX4_readTerm_84 ?_
        refine j_al0 hX dX4_readTerm_87 rfl ?_
        refine j_getR (q := 4) hX hG fl_X4_21 rfl rfl (by decide) dX4_readTerm_88 ?_
        refine j_il2 hX dX4_readTerm_91 ?_
        refine j_il3 hX dX4_readTerm_92 ?_
        refine j_il4 hX dX4_readTerm_93 ?_
        refine j_cVV4 (ci := 8) hX hG lk_X4_146 (ok_X8_takeFactor (by first | assumption | omega | decide) (by first | assumption | omega | decide) (by first | assumption | omega | decide) (by first | assumption | omega | decide) (by rw [a4_Z]; omega) (by first | assumption | omega | decide)) (by decide) rfl (Nat.le_of_ble_eq_true rfl) (Nat.le_of_ble_eq_true rfl) (Nat.le_of_ble_eq_true rfl) rfl dX4_readTerm_95 (fun V_95 h_95 => ?_)
        refine j_iconst hX dX4_readTerm_98 ⟨by decide, by decide⟩ ?_
        exact j_retZ hR dX4_readTerm_99 (by omega) (by obtain ⟨t1, t2, t3⟩ := h_95; exact ⟨LR.ok (a := ((plF (V 3) (V 2 1) s, if plF (V 3) (V 2 1) s = -1 then sgN (V 3) (V 2 1) s else 0, b), s2)) (by unfold pTerm; rw [hcW, bi_ok, if_neg (by omega), spZ]) ⟨(t3 1 5 (by decide) (by decide)).trans z_Z.1, (t3 1 6 (by decide) (by decide)).trans z_Z.2⟩ ⟨TK.sm tk_Z (fun b => t3 2 b (by omega) (by decide)) (fun b => t3 3 b (by omega) (by decide)), TRgo (w := V 6 4) (pl := plF (V 3) (V 2 1) s) (el := W 2 4) (b := b) ho htr h3 hgp.1 (by rw [t3 6 5 (by decide) (by decide), a5_Z]) (by rw [t3 6 3 (by decide) (by decide), a3_Z]) (by omega) (fun e h0 h1 => by rw [t1 e h0 (by rw [a5_Z]; exact h1), a3_Z, a4_Z, show Z 7 e = V 7 e from ff_Z 7 e (by decide)]), fun e h0 h1 => by rw [t1 e h0 (by rw [a5_Z]; exact h1), a3_Z, a4_Z, show Z 7 e = V 7 e from ff_Z 7 e (by decide)]; show gM q _ (facF q _ _ _ (W 2 4) b e) = gM q _ (facF q _ _ _ (if plF (V 3) (V 2 1) s = -1 then sgN (V 3) (V 2 1) s else 0) b e); rw [facF_el (n := sgN (V 3) (V 2 1) s) (by omega)]⟩, by rw [t3 2 1 (by decide) (by decide)]; exact l_Z, fun a c h => by simp only [List.mem_cons, List.not_mem_nil, or_false, not_or] at h; rw [t3 a c (by omega) (by omega)]; exact ff_Z a c (by simp; omega), fun b hb => by rw [t3 6 b (by omega) (by decide)]; exact ff_Z 6 b (by decide), by rw [t2, a7_Z]; omega⟩)
      refine j_al0 hX dX4_readTerm_60 rfl ?_
      refine j_getR (q := 2) hX hG fl_X4_12 rfl rfl (by decide) dX4_readTerm_61 ?_
      refine j_bipush hX dX4_readTerm_64 (by decide) ⟨by decide, by decide⟩ ?_
      refine j_pVI1 (ci := 9) hX hG lk_X4_86 (ok_X9_isSymbol (by first | assumption | omega | decide) (by first | assumption | omega | decide)) (by decide) rfl (Nat.le_of_ble_eq_true rfl) (Nat.le_of_ble_eq_true rfl) (Nat.le_of_ble_eq_true rfl) rfl dX4_readTerm_66 ?_
      refine j_is4 hX dX4_readTerm_69 rfl ?_
      refine j_il4 hX dX4_readTerm_71 ?_
      refine j_ifz_eq (tgt := 83) hX dX4_readTerm_73 (by decide) (fun h_73 => ?_) (fun h_73 => ?_)
      · skip
        exact jn_83 _ _ _ (by first | exact tk_80 | exact tk_57) (by first | exact fr_t (fr_w f_57 (by decide)) (fr_w f_80 (by decide)) | exact fr_w f_57 (by decide)) (by first | exact l_80 | exact l_57) (by first | exact z_80 | exact z_57) (by first | (rw [if_pos h_73]; rw [eT_57, l_57] at h_73; rw [if_pos h_73]; done) | (rw [if_neg h_73]; rw [eT_57, l_57] at h_73; rw [if_neg h_73]))
      · skip
        refine j_al0 hX dX4_readTerm_76 rfl ?_
        refine j_getR (q := 2) hX hG fl_X4_12 rfl rfl (by decide) dX4_readTerm_77 ?_
        refine j_cVV0 (ci := 9) hX hG lk_X4_83 (ok_X9_advance_tk (by first | assumption | omega | decide) (by first | assumption | omega | decide)) (by decide) rfl (Nat.le_of_ble_eq_true rfl) (Nat.le_of_ble_eq_true rfl) (Nat.le_of_ble_eq_true rfl) rfl dX4_readTerm_80 (fun V_80 h_80 => ?_)
        obtain ⟨tk_80, q_80, f_80⟩ := h_80
        rw [eT_57, l_57] at tk_80
        have eT_80 : V_80 3 = V 3 := (funext fun b => f_80 3 b (by decide)).trans eT_57
        have l_80 : V_80 2 1 = V 2 1 := q_80.trans l_57
        have tb_80 : TB V_80 := TB_e ht l_80 eT_80
        have ff_80 : fr [1, 2, 6, 7] V V_80 := fr_t (fr_w ff_57 (by decide)) (fr_w f_80 (by decide))
        have z_80 : V_80 1 5 = 0 ∧ V_80 1 6 = -1 := ⟨(f_80 1 5 (by decide)).trans z_57.1, (f_80 1 6 (by decide)).trans z_57.2⟩
        exact jn_83 _ _ _ (by first | exact tk_80 | exact tk_57) (by first | exact fr_t (fr_w f_57 (by decide)) (fr_w f_80 (by decide)) | exact fr_w f_57 (by decide)) (by first | exact l_80 | exact l_57) (by first | exact z_80 | exact z_57) (by first | (rw [if_pos h_73]; rw [eT_57, l_57] at h_73; rw [if_pos h_73]; done) | (rw [if_neg h_73]; rw [eT_57, l_57] at h_73; rw [if_neg h_73]))
    · skip
      refine j_al0 hX dX4_readTerm_39 rfl ?_
      refine j_iconst hX dX4_readTerm_40 ⟨by decide, by decide⟩ ?_
      refine j_cVI1 (ci := 4) hX hG lk_X4_79 (ok_X4_fail ) (by decide) rfl (Nat.le_of_ble_eq_true rfl) (Nat.le_of_ble_eq_true rfl) (Nat.le_of_ble_eq_true rfl) rfl dX4_readTerm_41 (fun x_41 V_41 h_41 => ?_)
      obtain ⟨e_41, e2_41⟩ := h_41; subst e_41; subst e2_41
      exact j_retZ hR dX4_readTerm_44 (by omega) ⟨LR.er (e := (4, s)) (by unfold pTerm; rw [hcW, bi_ok, if_pos (by omega)]) ⟨by simp [up], by simp [up]; exact tk_W.2.2.1⟩, by simp [up]; exact l_W, fr_u (fr_u ff_W (by decide)) (by decide), fun b _ => by simp [up]; exact f_W 6 b (by decide), by simp only [up_n _ (show ¬ ((6 : Int) = 1 ∧ (7 : Int) = 6) by decide), up_n _ (show ¬ ((6 : Int) = 1 ∧ (7 : Int) = 5) by decide)]; rw [f_W 6 7 (by decide)]; omega⟩
  refine j_al0 hX dX4_readTerm_0 rfl ?_
  refine j_getR (q := 2) hX hG fl_X4_12 rfl rfl (by decide) dX4_readTerm_1 ?_
  refine j_pVI0 (ci := 9) hX hG lk_X4_136 (ok_X9_place (by first | assumption | omega | decide) (by first | assumption | omega | decide)) (by decide) rfl (Nat.le_of_ble_eq_true rfl) (Nat.le_of_ble_eq_true rfl) (Nat.le_of_ble_eq_true rfl) rfl dX4_readTerm_4 ?_
  refine j_is2 hX dX4_readTerm_7 rfl ?_
  refine j_il2 hX dX4_readTerm_8 ?_
  refine j_iconst hX dX4_readTerm_9 ⟨by decide, by decide⟩ ?_
  refine j_icmp_eq (tgt := 24) hX dX4_readTerm_10 (by decide) (fun h_10 => ?_) (fun h_10 => ?_)
  · skip
    refine j_al0 hX dX4_readTerm_24 rfl ?_
    refine j_cVI0 (ci := 4) hX hG lk_X4_143 (ok_X4_isState (by first | assumption | omega | decide) (by first | assumption | omega | decide) ⟨hgp.2.1, by omega, by omega⟩) (by decide) rfl (Nat.le_of_ble_eq_true rfl) (Nat.le_of_ble_eq_true rfl) (Nat.le_of_ble_eq_true rfl) rfl dX4_readTerm_25 (fun x_25 V_25 h_25 => ?_)
    obtain ⟨r_25, f_25⟩ := h_25
    have q_25 : V_25 2 1 = V 2 1 := f_25 2 1 (by decide)
    have eT_25 : V_25 3 = V 3 := (funext fun b => f_25 3 b (by decide)).trans eT_i
    have l_25 : V_25 2 1 = V 2 1 := q_25.trans l_i
    have tb_25 : TB V_25 := TB_e ht l_25 eT_25
    have ff_25 : fr [1, 2, 6, 7] V V_25 := fr_t (fr_w ff_i (by decide)) (fr_w f_25 (by decide))
    have tk_25 := TK.sm tk_i (fun b => f_25 2 b (by decide)) (fun b => f_25 3 b (by decide))
    refine j_if_ne (tgt := 33) hX dX4_readTerm_28 (by decide) (fun h_28 => ?_) (fun h_28 => ?_)
    · skip
      exact jn_33 _ (by first | exact tk_25 | exact hk) (by first | exact f_25 | exact fr_0) (by first | exact (LR.t r_25 h_28).elim fun u h => h.2.1 | exact hz) (by first | exact (LR.t r_25 h_28).elim fun u h => by rw [if_pos (by omega)]; exact h.1 | rw [if_neg (by omega)]) (by first | (right; omega) | (left; obtain ⟨u, sp_25, b, c⟩ := LR.t r_25 h_28; obtain ⟨k0, k1, k2, k3, k4, k5⟩ := tk_25; rw [eT_25, l_25] at k3 k5; have hn := pNu_ok sp_25; have := k5 (by omega); exact ⟨by first | omega | (unfold plF; rw [if_neg (by omega)]), by omega, by omega, this⟩))
    · skip
      refine j_iconst hX dX4_readTerm_31 ⟨by decide, by decide⟩ ?_
      exact j_retZ hR dX4_readTerm_32 (by omega) (by obtain ⟨e, e1, e2⟩ := LR.f r_25 h_28; exact ⟨LR.er (e := e) (by unfold pTerm; rw [if_pos (by omega), e1, bi_er]) e2, l_25, ff_25, fun b _ => f_25 6 b (by decide), by rw [f_25 6 7 (by decide)]; omega⟩)
  · skip
    refine j_il2 hX dX4_readTerm_13 ?_
    refine j_al0 hX dX4_readTerm_14 rfl ?_
    refine j_getR (q := 6) hX hG fl_X4_28 rfl rfl (by decide) dX4_readTerm_15 ?_
    refine j_getI hX hG fl_X4_140 (Or.inl rfl) (by decide) dX4_readTerm_18 ?_
    refine j_icmp_lt (tgt := 33) hX dX4_readTerm_21 (by decide) (fun h_21 => ?_) (fun h_21 => ?_)
    · skip
      exact jn_33 _ (by first | exact tk_25 | exact hk) (by first | exact f_25 | exact fr_0) (by first | exact (LR.t r_25 h_28).elim fun u h => h.2.1 | exact hz) (by first | exact (LR.t r_25 h_28).elim fun u h => by rw [if_pos (by omega)]; exact h.1 | rw [if_neg (by omega)]) (by first | (right; omega) | (left; obtain ⟨u, sp_25, b, c⟩ := LR.t r_25 h_28; obtain ⟨k0, k1, k2, k3, k4, k5⟩ := tk_25; rw [eT_25, l_25] at k3 k5; have hn := pNu_ok sp_25; have := k5 (by omega); exact ⟨by first | omega | (unfold plF; rw [if_neg (by omega)]), by omega, by omega, this⟩))
    · skip
      refine j_al0 hX dX4_readTerm_24 rfl ?_
      refine j_cVI0 (ci := 4) hX hG lk_X4_143 (ok_X4_isState (by first | assumption | omega | decide) (by first | assumption | omega | decide) ⟨hgp.2.1, by omega, by omega⟩) (by decide) rfl (Nat.le_of_ble_eq_true rfl) (Nat.le_of_ble_eq_true rfl) (Nat.le_of_ble_eq_true rfl) rfl dX4_readTerm_25 (fun x_25 V_25 h_25 => ?_)
      obtain ⟨r_25, f_25⟩ := h_25
      have q_25 : V_25 2 1 = V 2 1 := f_25 2 1 (by decide)
      have eT_25 : V_25 3 = V 3 := (funext fun b => f_25 3 b (by decide)).trans eT_i
      have l_25 : V_25 2 1 = V 2 1 := q_25.trans l_i
      have tb_25 : TB V_25 := TB_e ht l_25 eT_25
      have ff_25 : fr [1, 2, 6, 7] V V_25 := fr_t (fr_w ff_i (by decide)) (fr_w f_25 (by decide))
      have tk_25 := TK.sm tk_i (fun b => f_25 2 b (by decide)) (fun b => f_25 3 b (by decide))
      refine j_if_ne (tgt := 33) hX dX4_readTerm_28 (by decide) (fun h_28 => ?_) (fun h_28 => ?_)
      · skip
        exact jn_33 _ (by first | exact tk_25 | exact hk) (by first | exact f_25 | exact fr_0) (by first | exact (LR.t r_25 h_28).elim fun u h => h.2.1 | exact hz) (by first | exact (LR.t r_25 h_28).elim fun u h => by rw [if_pos (by omega)]; exact h.1 | rw [if_neg (by omega)]) (by first | (right; omega) | (left; obtain ⟨u, sp_25, b, c⟩ := LR.t r_25 h_28; obtain ⟨k0, k1, k2, k3, k4, k5⟩ := tk_25; rw [eT_25, l_25] at k3 k5; have hn := pNu_ok sp_25; have := k5 (by omega); exact ⟨by first | omega | (unfold plF; rw [if_neg (by omega)]), by omega, by omega, this⟩))
      · skip
        refine j_iconst hX dX4_readTerm_31 ⟨by decide, by decide⟩ ?_
        exact j_retZ hR dX4_readTerm_32 (by omega) (by obtain ⟨e, e1, e2⟩ := LR.f r_25 h_28; exact ⟨LR.er (e := e) (by unfold pTerm; rw [if_pos (by omega), e1, bi_er]) e2, l_25, ff_25, fun b _ => f_25 6 b (by decide), by rw [f_25 6 7 (by decide)]; omega⟩)
set_option maxHeartbeats 4000000 in
theorem ok_X4_readTerms {V : VV} {s : Int} {q : Nat} (ht : TB V) (hk : TK V s) (hz : V 1 5 = 0 ∧ V 1 6 = -1) (hgp : GP V 4 q) (ho : RO V 6) (htr : TR V 6) (h3 : V 6 3 = gO q) (hv : 0 ≤ V 6 7 ∧ V 6 7 ≤ 900000) (ht0 : ∀ e, 0 ≤ e → e < V 6 5 → V 7 e = 0) : Ok NC yX4_readTerms cX4_readTerms 2 (some .boolean) 6 128 [vA 1] V (pI (fun x9 V' => LR V' x9 ((pWd (V 3) (V 2 1) wWord s).bind fun s1 => pTerms (V 3) (V 2 1) (gO q) (V 6 4) 9 0 s1) (fun r => TK V' r.2 ∧ TR V' 6 ∧ ∀ e, 0 ≤ e → e < V 6 5 → V' 7 e = tabF q (V 6 4) 0 r.1 e) ∧ V' 2 1 = V 2 1 ∧ fr [1, 2, 6, 7] V V' ∧ (∀ b, b ≠ 7 → V' 6 b = V 6 b) ∧ V 6 7 ≤ V' 6 7 ∧ V' 6 7 ≤ V 6 7 + 9)) := by
  refine Ok.intro (by decide +kernel) (Nat.le_of_ble_eq_true rfl) (fun X G hX hG hR hoa hoV => ?_)
  show J X G 0 [vA 1, vU] [] V
  have ff_i : fr [] V V := fr_0
  have eT_i : V 3 = V 3 := rfl
  have l_i : V 2 1 = V 2 1 := rfl
  have tb_i := ht
  have tk_i := hk
  have z_i := hz
  have hO6 := gO_le hgp.1
  have a3_i := h3
  have a4_i : V 6 4 = V 6 4 := rfl
  have a5_i : V 6 5 = V 6 5 := rfl
  have gp_i := hgp
  have ro_i := ho
  have tr_i := htr
  have hob := ho.b
  refine j_al0 hX dX4_readTerms_0 rfl ?_
  refine j_ldcS (k := 4) hX dX4_readTerms_1 rfl ?_
  refine j_cVI1 (ci := 4) hX hG lk_X4_115 (ok_X4_takeWord (by first | assumption | omega | decide) (by first | assumption | omega | decide) (by first | assumption | omega | decide) (by first | assumption | rfl)) (by decide) rfl (Nat.le_of_ble_eq_true rfl) (Nat.le_of_ble_eq_true rfl) (Nat.le_of_ble_eq_true rfl) rfl dX4_readTerms_3 (fun x_3 V_3 h_3 => ?_)
  obtain ⟨r_3, q_3, f_3⟩ := h_3
  have eT_3 : V_3 3 = V 3 := (funext fun b => f_3 3 b (by decide)).trans eT_i
  have l_3 : V_3 2 1 = V 2 1 := q_3.trans l_i
  have tb_3 : TB V_3 := TB_e ht l_3 eT_3
  have ff_3 : fr [1, 2, 6, 7] V V_3 := fr_t (fr_w ff_i (by decide)) (fr_w f_3 (by decide))
  have tr_3 : TR V_3 6 := fun e h0 h1 => by rw [show V_3 (6 + 1) e = V (6 + 1) e from f_3 7 e (by decide), show V_3 6 3 = V 6 3 from f_3 6 3 (by decide)]; exact tr_i e h0 (by rw [show V_3 6 5 = V 6 5 from f_3 6 5 (by decide)] at h1; exact h1)
  refine j_if_ne (tgt := 11) hX dX4_readTerms_6 (by decide) (fun h_6 => ?_) (fun h_6 => ?_)
  · skip
    obtain ⟨s_3, sp_3, z_3, tk_3⟩ := LR.t r_3 h_6
    refine j_iconst hX dX4_readTerms_11 ⟨by decide, by decide⟩ ?_
    refine j_is1 hX dX4_readTerms_12 rfl ?_
    have lp_13 : ∀ (f9 : Nat) (t s1 : Int) (done : List (Int × Int × Int)) (W : VV), (0 ≤ t ∧ t ≤ 8) → (TK W s1) → (W 2 1 = V 2 1) → (fr [1, 2, 6, 7] V W) → (W 1 5 = 0 ∧ W 1 6 = -1) → (pTerms (V 3) (V 2 1) (gO q) (V 6 4) 9 0 s_3 = (pTerms (V 3) (V 2 1) (gO q) (V 6 4) (9 - t).toNat t s1).map (fun z => (done ++ z.1, z.2))) → (TR W 6) → (∀ e, 0 ≤ e → e < V 6 5 → W 7 e = tabF q (V 6 4) 0 done e) → (∀ b, b ≠ 7 → W 6 b = V 6 b) → (V 6 7 ≤ W 6 7 ∧ W 6 7 ≤ V 6 7 + t) → ((9 - t).toNat) < f9 → J X G 13 [vA 1, vI t] [] W := by
      intro f9
      induction f9 with
      | zero => intro t s1 done W _ _ _ _ _ _ _ _ _ _ hm; exact absurd hm (Nat.not_lt_zero _)
      | succ f9 ih_13 =>
        intro t s1 done W hb tk_W l_W ff_W z_W hsp tr_W hT h6 h7 hm
        refine j_il1 hX dX4_readTerms_13 ?_
        refine j_bipush hX dX4_readTerms_14 (by decide) ⟨by decide, by decide⟩ ?_
        refine j_icmp_gt (tgt := 61) hX dX4_readTerms_16 (by decide) (fun h_16 => ?_) (fun h_16 => ?_)
        · skip
          exfalso; omega
        · skip
          have hn9 : (9 - t).toNat = (8 - t).toNat + 1 := by omega
          have eT_W : W 3 = V 3 := funext fun b => ff_W 3 b (by decide)
          have tb_W : TB W := TB_e ht l_W eT_W
          have gp_W : GP W 4 q := hgp.sm (fun b => ff_W 4 b (by decide)) (fun b => ff_W 5 b (by decide))
          have ro_W : RO W 6 := ho.sm6 h6
          have a3_W : W 6 3 = gO q := (h6 3 (by decide)).trans h3
          have a4_W : W 6 4 = V 6 4 := h6 4 (by decide)
          have a5_W : W 6 5 = V 6 5 := h6 5 (by decide)
          refine j_al0 hX dX4_readTerms_19 rfl ?_
          refine j_il1 hX dX4_readTerms_20 ?_
          refine j_cVI1 (ci := 4) hX hG lk_X4_133 (ok_X4_readTerm (by first | assumption | omega | decide) (by first | assumption | omega | decide) (by first | assumption | omega | decide) (by first | assumption | omega | decide) (by first | assumption | omega | decide) (by first | assumption | omega | decide) (by first | assumption | omega | decide) (by first | assumption | omega | decide) (by first | assumption | omega | decide)) (by decide) rfl (Nat.le_of_ble_eq_true rfl) (Nat.le_of_ble_eq_true rfl) (Nat.le_of_ble_eq_true rfl) rfl dX4_readTerms_21 (fun x_21 V_21 h_21 => ?_)
          obtain ⟨r_21, q_21, f_21, h6_21, h7_21, h8_21⟩ := h_21
          rw [eT_W, l_W] at r_21
          rw [a4_W] at r_21
          have eT_21 : V_21 3 = V 3 := (funext fun b => f_21 3 b (by decide)).trans eT_W
          have l_21 : V_21 2 1 = V 2 1 := q_21.trans l_W
          have tb_21 : TB V_21 := TB_e ht l_21 eT_21
          have ff_21 : fr [1, 2, 6, 7] V V_21 := fr_t (fr_w ff_W (by decide)) (fr_w f_21 (by decide))
          refine j_if_ne (tgt := 29) hX dX4_readTerms_24 (by decide) (fun h_24 => ?_) (fun h_24 => ?_)
          · skip
            obtain ⟨d, sp_21, z_21, tk_21, tr_21, hT21a⟩ := LR.t r_21 h_24
            have hT21 : ∀ e, 0 ≤ e → e < V 6 5 → V_21 7 e = gM q (tabF q (V 6 4) 0 done e) (facF q (gO q) (V 6 4) d.1.1 d.1.2.1 d.1.2.2 e) := fun e h0 h1 => by rw [hT21a e h0 (by rw [a5_W]; exact h1), hT e h0 h1]
            have ht89 := (pTerm_ok sp_21).1
            refine j_al0 hX dX4_readTerms_29 rfl ?_
            refine j_getR (q := 2) hX hG fl_X4_12 rfl rfl (by decide) dX4_readTerms_30 ?_
            refine j_bipush hX dX4_readTerms_33 (by decide) ⟨by decide, by decide⟩ ?_
            refine j_pVI1 (ci := 9) hX hG lk_X4_86 (ok_X9_isSymbol (by first | assumption | omega | decide) (by first | assumption | omega | decide)) (by decide) rfl (Nat.le_of_ble_eq_true rfl) (Nat.le_of_ble_eq_true rfl) (Nat.le_of_ble_eq_true rfl) rfl dX4_readTerms_35 ?_
            refine j_ifz_ne (tgt := 48) hX dX4_readTerms_38 (by decide) (fun h_38 => ?_) (fun h_38 => ?_)
            · skip
              rw [eT_21, l_21] at h_38
              refine j_al0 hX dX4_readTerms_48 rfl ?_
              refine j_getR (q := 2) hX hG fl_X4_12 rfl rfl (by decide) dX4_readTerms_49 ?_
              refine j_cVV0 (ci := 9) hX hG lk_X4_83 (ok_X9_advance_tk (by first | assumption | omega | decide) (by first | assumption | omega | decide)) (by decide) rfl (Nat.le_of_ble_eq_true rfl) (Nat.le_of_ble_eq_true rfl) (Nat.le_of_ble_eq_true rfl) rfl dX4_readTerms_52 (fun V_52 h_52 => ?_)
              obtain ⟨tk_52, q_52, f_52⟩ := h_52
              rw [eT_21, l_21] at tk_52
              have eT_52 : V_52 3 = V 3 := (funext fun b => f_52 3 b (by decide)).trans eT_21
              have l_52 : V_52 2 1 = V 2 1 := q_52.trans l_21
              have tb_52 : TB V_52 := TB_e ht l_52 eT_52
              have ff_52 : fr [1, 2, 6, 7] V V_52 := fr_t (fr_w ff_21 (by decide)) (fr_w f_52 (by decide))
              have z_52 : V_52 1 5 = 0 ∧ V_52 1 6 = -1 := ⟨(f_52 1 5 (by decide)).trans z_21.1, (f_52 1 6 (by decide)).trans z_21.2⟩
              have tr_52 : TR V_52 6 := fun e h0 h1 => by rw [show V_52 (6 + 1) e = V_21 (6 + 1) e from f_52 7 e (by decide), show V_52 6 3 = V_21 6 3 from f_52 6 3 (by decide)]; exact tr_21 e h0 (by rw [show V_52 6 5 = V_21 6 5 from f_52 6 5 (by decide)] at h1; exact h1)
              refine j_inc1 hX dX4_readTerms_55 rfl (by omega) ?_
              refine j_goto (tgt := 13) hX dX4_readTerms_58 (by decide) ?_
              exact ih_13 _ _ (done ++ [d.1]) _ (by omega) tk_52 l_52 ff_52 z_52 (by rw [hsp, hn9, pTerms_go sp_21 h_38, ma_ma, show (9 - (t + 1)).toNat = (8 - t).toNat by omega]; simp only [List.append_assoc, List.singleton_append]) tr_52 (fun e h0 h1 => by rw [f_52 7 e (by decide), hT21 e h0 h1, tabF_app]) (fun b hb => by rw [f_52 6 b (by decide), h6_21 b hb, h6 b hb]) (by rw [f_52 6 7 (by decide)]; omega) (by omega)
            · skip
              rw [eT_21, l_21] at h_38
              refine j_al0 hX dX4_readTerms_41 rfl ?_
              refine j_bipush hX dX4_readTerms_42 (by decide) ⟨by decide, by decide⟩ ?_
              refine j_cVI1 (ci := 4) hX hG lk_X4_122 (ok_X4_takeSymbol (by first | assumption | omega | decide) (by first | assumption | omega | decide) (by first | assumption | omega | decide)) (by decide) rfl (Nat.le_of_ble_eq_true rfl) (Nat.le_of_ble_eq_true rfl) (Nat.le_of_ble_eq_true rfl) rfl dX4_readTerms_44 (fun x_44 V_44 h_44 => ?_)
              obtain ⟨r_44, q_44, f_44⟩ := h_44
              rw [eT_21, l_21] at r_44
              have eT_44 : V_44 3 = V 3 := (funext fun b => f_44 3 b (by decide)).trans eT_21
              have l_44 : V_44 2 1 = V 2 1 := q_44.trans l_21
              have tb_44 : TB V_44 := TB_e ht l_44 eT_44
              have ff_44 : fr [1, 2, 6, 7] V V_44 := fr_t (fr_w ff_21 (by decide)) (fr_w f_44 (by decide))
              exact j_retZ hR dX4_readTerms_47 (LR.z r_44) ⟨by rw [sp_3, bi_ok, hsp, hn9, pTerms_no sp_21 h_38, ma_ma]; exact r_44.map (fun a _ ha => ⟨ha, (fun e h0 h1 => by rw [show V_44 (6 + 1) e = V_21 (6 + 1) e from f_44 7 e (by decide), show V_44 6 3 = V_21 6 3 from f_44 6 3 (by decide)]; exact tr_21 e h0 (by rw [show V_44 6 5 = V_21 6 5 from f_44 6 5 (by decide)] at h1; exact h1)), fun e h0 h1 => by rw [f_44 7 e (by decide), hT21 e h0 h1, tabF_app]⟩), l_44, ff_44, fun b hb => by rw [f_44 6 b (by decide), h6_21 b hb, h6 b hb], by rw [f_44 6 7 (by decide)]; omega⟩
          · skip
            refine j_iconst hX dX4_readTerms_27 ⟨by decide, by decide⟩ ?_
            exact j_retZ hR dX4_readTerms_28 (by omega) (by obtain ⟨e, e1, e2⟩ := LR.f r_21 h_24; exact ⟨LR.er (e := e) (by rw [sp_3, bi_ok, hsp, hn9, pTerms_er e1, ma_er]) e2, l_21, ff_21, fun b hb => (h6_21 b hb).trans (h6 b hb), by omega⟩)
    exact lp_13 _ _ _ _ _ ⟨by decide, by decide⟩ tk_3 l_3 ff_3 z_3 (ma_id (r := pTerms (V 3) (V 2 1) (gO q) (V 6 4) 9 0 s_3)).symm tr_3 (fun e h0 h1 => by rw [f_3 7 e (by decide), ht0 e h0 h1]; rfl) (fun b _ => f_3 6 b (by decide)) (by rw [f_3 6 7 (by decide)]; omega) (Nat.lt_succ_self _)
  · skip
    refine j_iconst hX dX4_readTerms_9 ⟨by decide, by decide⟩ ?_
    exact j_retZ hR dX4_readTerms_10 (by omega) (by obtain ⟨e, e1, e2⟩ := LR.f r_3 h_6; exact ⟨LR.er (e := e) (by rw [e1, bi_er]) e2, l_3, ff_3, fun b _ => f_3 6 b (by decide), by rw [f_3 6 7 (by decide)]; omega⟩)
set_option maxHeartbeats 4000000 in
theorem ok_X4_readCase {V : VV} {s : Int} {q : Nat} {seen : List Int} (ht : TB V) (hk : TK V s) (hz : V 1 5 = 0 ∧ V 1 6 = -1) (hgp : GP V 4 q) (ho : RO V 6) (htr : TR V 6) (h3 : V 6 3 = gO q) (hv : 0 ≤ V 6 7 ∧ V 6 7 ≤ 950000) (hC : ∀ j, 0 ≤ j → j < 216 → (V 12 j ≠ 0 ↔ j ∈ seen)) : Ok NC yX4_readCase cX4_readCase 3 (some .boolean) 4 86 [vA 1] V (pI (fun x9 V' => LR V' x9 (pCase (V 3) (V 2 1) (gO q) (V 6 4) seen s) (fun r => TK V' r.2 ∧ TR V' 6 ∧ (0 ≤ r.1.1 ∧ r.1.1 < V 6 5) ∧ (∀ e, V' 7 e = if e = r.1.1 then r.1.2 else V 7 e) ∧ (∀ j, 0 ≤ j → j < 216 → (V' 12 j ≠ 0 ↔ j ∈ r.1.1 :: seen))) ∧ V' 2 1 = V 2 1 ∧ fr [1, 2, 6, 7, 12] V V' ∧ (∀ b, b ≠ 7 → V' 6 b = V 6 b) ∧ V 6 7 ≤ V' 6 7 ∧ V' 6 7 ≤ V 6 7 + 1)) := by
  refine Ok.intro (by decide +kernel) (Nat.le_of_ble_eq_true rfl) (fun X G hX hG hR hoa hoV => ?_)
  show J X G 0 [vA 1, vU, vU] [] V
  have ff_i : fr [] V V := fr_0
  have eT_i : V 3 = V 3 := rfl
  have l_i : V 2 1 = V 2 1 := rfl
  have tb_i := ht
  have tk_i := hk
  have z_i := hz
  have hO6 := gO_le hgp.1
  have a3_i := h3
  have a4_i : V 6 4 = V 6 4 := rfl
  have a5_i : V 6 5 = V 6 5 := rfl
  have gp_i := hgp
  have ro_i := ho
  have tr_i := htr
  have hob := ho.b
  have hpow := ho.pow
  rw [h3] at hpow
  refine j_iconst hX dX4_readCase_0 ⟨by decide, by decide⟩ ?_
  refine j_is1 hX dX4_readCase_1 rfl ?_
  refine j_iconst hX dX4_readCase_2 ⟨by decide, by decide⟩ ?_
  refine j_is2 hX dX4_readCase_3 rfl ?_
  have lp_4 : ∀ (f9 : Nat) (wd p s1 : Int) (W : VV), (0 ≤ p ∧ p ≤ V 6 4) → (0 ≤ wd ∧ wd < (gO q : Int) ^ p.toNat) → (TK W s1) → (W 2 1 = V 2 1) → (fr [1, 2] V W) → (W 1 5 = 0 ∧ W 1 6 = -1) → (pPl (V 3) (V 2 1) (gO q) seen (V 6 4).toNat 0 s = pPl (V 3) (V 2 1) (gO q) seen (V 6 4 - p).toNat wd s1) → ((V 6 4 - p).toNat) < f9 → J X G 4 [vA 1, vI wd, vI p] [] W := by
    intro f9
    induction f9 with
    | zero => intro wd p s1 W _ _ _ _ _ _ _ hm; exact absurd hm (Nat.not_lt_zero _)
    | succ f9 ih_4 =>
      intro wd p s1 W hp hw tk_W l_W f_W z_W hsp hm
      have ff_W : fr [1, 2, 6, 7, 12] V W := fr_w f_W (by decide)
      have eT_W : W 3 = V 3 := funext fun b => ff_W 3 b (by decide)
      have tb_W : TB W := TB_e ht l_W eT_W
      have a3_W : W 6 3 = gO q := (f_W 6 3 (by decide)).trans h3
      have a4_W : W 6 4 = V 6 4 := f_W 6 4 (by decide)
      have hpw := pw216 (g := gO q) (by omega) (p := p) (by omega)
      refine j_il2 hX dX4_readCase_4 ?_
      refine j_al0 hX dX4_readCase_5 rfl ?_
      refine j_getR (q := 6) hX hG fl_X4_28 rfl rfl (by decide) dX4_readCase_6 ?_
      refine j_getI hX hG fl_X4_140 (Or.inl rfl) (by decide) dX4_readCase_9 ?_
      refine j_icmp_ge (tgt := 85) hX dX4_readCase_12 (by decide) (fun h_12 => ?_) (fun h_12 => ?_)
      · skip
        have hpe : p = V 6 4 := by omega
        have hwd5 : wd < V 6 5 := by rw [hpow, ← hpe]; exact hw.2
        refine j_al0 hX dX4_readCase_85 rfl ?_
        refine j_getR (q := 12) hX hG fl_X4_39 rfl rfl (by decide) dX4_readCase_86 ?_
        refine j_il1 hX dX4_readCase_89 ?_
        refine j_iconst hX dX4_readCase_90 ⟨by decide, by decide⟩ ?_
        refine j_cSV3 hX hG lk_X4_166 (ok_X11_put_in (n := 216) (by decide) (by first | assumption | decide) (by first | assumption | omega | decide)) (Nat.le_of_ble_eq_true rfl) (Nat.le_of_ble_eq_true rfl) (Nat.le_of_ble_eq_true rfl) rfl dX4_readCase_91 (fun V_91 h_91 => ?_)
        have f_91 : fr [12] W V_91 := h_91 ▸ fr_u fr_0 (by decide)
        have q_91 : V_91 2 1 = W 2 1 := f_91 2 1 (by decide)
        have eT_91 : V_91 3 = V 3 := (funext fun b => f_91 3 b (by decide)).trans eT_W
        have l_91 : V_91 2 1 = V 2 1 := q_91.trans l_W
        have tb_91 : TB V_91 := TB_e ht l_91 eT_91
        have ff_91 : fr [1, 2, 6, 7, 12] V V_91 := fr_t (fr_w ff_W (by decide)) (fr_w f_91 (by decide))
        have tk_91 := TK.sm tk_W (fun b => f_91 2 b (by decide)) (fun b => f_91 3 b (by decide))
        have z_91 : V_91 1 5 = 0 ∧ V_91 1 6 = -1 := ⟨(f_91 1 5 (by decide)).trans z_W.1, (f_91 1 6 (by decide)).trans z_W.2⟩
        have hC91 : ∀ j, 0 ≤ j → j < 216 → (V_91 12 j ≠ 0 ↔ j ∈ wd :: seen) := fun j h0 h1 => by rw [h_91]; by_cases e : j = wd <;> simp [up, e, f_W 12 j (by decide), hC j h0 h1]
        refine j_al0 hX dX4_readCase_94 rfl ?_
        refine j_bipush hX dX4_readCase_95 (by decide) ⟨by decide, by decide⟩ ?_
        refine j_cVI1 (ci := 4) hX hG lk_X4_122 (ok_X4_takeSymbol (by first | assumption | omega | decide) (by first | assumption | omega | decide) (by first | assumption | omega | decide)) (by decide) rfl (Nat.le_of_ble_eq_true rfl) (Nat.le_of_ble_eq_true rfl) (Nat.le_of_ble_eq_true rfl) rfl dX4_readCase_97 (fun x_97 V_97 h_97 => ?_)
        obtain ⟨r_97, q_97, f_97⟩ := h_97
        rw [eT_91, l_91] at r_97
        have eT_97 : V_97 3 = V 3 := (funext fun b => f_97 3 b (by decide)).trans eT_91
        have l_97 : V_97 2 1 = V 2 1 := q_97.trans l_91
        have tb_97 : TB V_97 := TB_e ht l_97 eT_97
        have ff_97 : fr [1, 2, 6, 7, 12] V V_97 := fr_t (fr_w ff_91 (by decide)) (fr_w f_97 (by decide))
        refine j_if_eq (tgt := 110) hX dX4_readCase_100 (by decide) (fun h_100 => ?_) (fun h_100 => ?_)
        · skip
          refine j_iconst hX dX4_readCase_110 ⟨by decide, by decide⟩ ?_
          exact j_retZ hR dX4_readCase_111 (by omega) (by first | (obtain ⟨e, e1, e2⟩ := LR.f r_104 h_107; exact ⟨LR.er (e := e) (by unfold pCase; rw [hsp, show (V 6 4 - p).toNat = 0 by omega]; show (Except.bind (Except.ok (wd, s1)) _ : PR ((Int × Int) × Int)) = _; rw [bi_ok, sp_97, bi_ok, e1, bi_er]) e2, l_104, ff_104, fun b _ => by rw [f_104 6 b (by decide), f_97 6 b (by decide), f_91 6 b (by decide), f_W 6 b (by decide)], by rw [f_104 6 7 (by decide), f_97 6 7 (by decide), f_91 6 7 (by decide), f_W 6 7 (by decide)]; omega⟩) | (obtain ⟨e, e1, e2⟩ := LR.f r_97 h_100; exact ⟨LR.er (e := e) (by unfold pCase; rw [hsp, show (V 6 4 - p).toNat = 0 by omega]; show (Except.bind (Except.ok (wd, s1)) _ : PR ((Int × Int) × Int)) = _; rw [bi_ok, e1, bi_er]) e2, l_97, ff_97, fun b _ => by rw [f_97 6 b (by decide), f_91 6 b (by decide), f_W 6 b (by decide)], by rw [f_97 6 7 (by decide), f_91 6 7 (by decide), f_W 6 7 (by decide)]; omega⟩))
        · skip
          obtain ⟨s_97, sp_97, z_97, tk_97⟩ := LR.t r_97 h_100
          have g104 : V_97 4 1 = gO q := (ff_97 4 1 (by decide)).trans hgp.2.1
          refine j_al0 hX dX4_readCase_103 rfl ?_
          refine j_cVI0 (ci := 4) hX hG lk_X4_143 (ok_X4_isState (by first | assumption | omega | decide) (by first | assumption | omega | decide) ⟨g104, by omega, by omega⟩) (by decide) rfl (Nat.le_of_ble_eq_true rfl) (Nat.le_of_ble_eq_true rfl) (Nat.le_of_ble_eq_true rfl) rfl dX4_readCase_104 (fun x_104 V_104 h_104 => ?_)
          obtain ⟨r_104, f_104⟩ := h_104
          have q_104 : V_104 2 1 = V_97 2 1 := f_104 2 1 (by decide)
          rw [eT_97, l_97] at r_104
          have eT_104 : V_104 3 = V 3 := (funext fun b => f_104 3 b (by decide)).trans eT_97
          have l_104 : V_104 2 1 = V 2 1 := q_104.trans l_97
          have tb_104 : TB V_104 := TB_e ht l_104 eT_104
          have ff_104 : fr [1, 2, 6, 7, 12] V V_104 := fr_t (fr_w ff_97 (by decide)) (fr_w f_104 (by decide))
          have tk_104 := TK.sm tk_97 (fun b => f_104 2 b (by decide)) (fun b => f_104 3 b (by decide))
          refine j_if_ne (tgt := 112) hX dX4_readCase_107 (by decide) (fun h_107 => ?_) (fun h_107 => ?_)
          · skip
            obtain ⟨s_104, sp_104, z_104, u_104⟩ := LR.t r_104 h_107
            have hnum := pNu_ok sp_104
            obtain ⟨k0, k1, k2, k3, k4, k5⟩ := tk_104
            have hN : V_104 2 4 = sgN (V 3) (V 2 1) s_97 := by rw [k5 (by rw [k3, eT_104, l_104]; exact hnum.1), eT_104, l_104]
            have tk_104 : TK V_104 s_97 := ⟨k0, k1, k2, k3, k4, k5⟩
            have e7 : V_104 6 7 = V 6 7 := by rw [f_104 6 7 (by decide), f_97 6 7 (by decide), f_91 6 7 (by decide), f_W 6 7 (by decide)]
            have e77 : ∀ b, V_104 7 b = V 7 b := fun b => by rw [f_104 7 b (by decide), f_97 7 b (by decide), f_91 7 b (by decide), f_W 7 b (by decide)]
            have e6 : ∀ b, V_104 6 b = V 6 b := fun b => by rw [f_104 6 b (by decide), f_97 6 b (by decide), f_91 6 b (by decide), f_W 6 b (by decide)]
            refine j_al0 hX dX4_readCase_112 rfl ?_
            refine j_getR (q := 6) hX hG fl_X4_28 rfl rfl (by decide) dX4_readCase_113 ?_
            refine j_il1 hX dX4_readCase_116 ?_
            refine j_al0 hX dX4_readCase_117 rfl ?_
            refine j_getR (q := 2) hX hG fl_X4_12 rfl rfl (by decide) dX4_readCase_118 ?_
            refine j_getI hX hG fl_X4_93 (Or.inl rfl) (by decide) dX4_readCase_121 ?_
            rw [hN]
            refine j_cVV2 (ci := 8) hX hG lk_X4_170 (ok_X8_give (Or.inl rfl) (by first | assumption | omega | decide) (by first | assumption | omega | decide)) (by decide) rfl (Nat.le_of_ble_eq_true rfl) (Nat.le_of_ble_eq_true rfl) (Nat.le_of_ble_eq_true rfl) rfl dX4_readCase_124 (fun V_124 h_124 => ?_)
            have f_124 : fr [6, 7] V_104 V_124 := h_124 ▸ fr_u (fr_u fr_0 (by decide)) (by decide)
            have q_124 : V_124 2 1 = V_104 2 1 := f_124 2 1 (by decide)
            have eT_124 : V_124 3 = V 3 := (funext fun b => f_124 3 b (by decide)).trans eT_104
            have l_124 : V_124 2 1 = V 2 1 := q_124.trans l_104
            have tb_124 : TB V_124 := TB_e ht l_124 eT_124
            have ff_124 : fr [1, 2, 6, 7, 12] V V_124 := fr_t (fr_w ff_104 (by decide)) (fr_w f_124 (by decide))
            have tk_124 := TK.sm tk_104 (fun b => f_124 2 b (by decide)) (fun b => f_124 3 b (by decide))
            have z_124 : V_124 1 5 = 0 ∧ V_124 1 6 = -1 := ⟨(f_124 1 5 (by decide)).trans z_104.1, (f_124 1 6 (by decide)).trans z_104.2⟩
            try dsimp only [Int.reduceAdd]
            refine j_al0 hX dX4_readCase_127 rfl ?_
            refine j_getR (q := 2) hX hG fl_X4_12 rfl rfl (by decide) dX4_readCase_128 ?_
            refine j_cVV0 (ci := 9) hX hG lk_X4_83 (ok_X9_advance_tk (by first | assumption | omega | decide) (by first | assumption | omega | decide)) (by decide) rfl (Nat.le_of_ble_eq_true rfl) (Nat.le_of_ble_eq_true rfl) (Nat.le_of_ble_eq_true rfl) rfl dX4_readCase_131 (fun V_131 h_131 => ?_)
            obtain ⟨tk_131, q_131, f_131⟩ := h_131
            rw [eT_124, l_124] at tk_131
            have eT_131 : V_131 3 = V 3 := (funext fun b => f_131 3 b (by decide)).trans eT_124
            have l_131 : V_131 2 1 = V 2 1 := q_131.trans l_124
            have tb_131 : TB V_131 := TB_e ht l_131 eT_131
            have ff_131 : fr [1, 2, 6, 7, 12] V V_131 := fr_t (fr_w ff_124 (by decide)) (fr_w f_131 (by decide))
            have z_131 : V_131 1 5 = 0 ∧ V_131 1 6 = -1 := ⟨(f_131 1 5 (by decide)).trans z_124.1, (f_131 1 6 (by decide)).trans z_124.2⟩
            refine j_al0 hX dX4_readCase_134 rfl ?_
            refine j_bipush hX dX4_readCase_135 (by decide) ⟨by decide, by decide⟩ ?_
            refine j_cVI1 (ci := 4) hX hG lk_X4_122 (ok_X4_takeSymbol (by first | assumption | omega | decide) (by first | assumption | omega | decide) (by first | assumption | omega | decide)) (by decide) rfl (Nat.le_of_ble_eq_true rfl) (Nat.le_of_ble_eq_true rfl) (Nat.le_of_ble_eq_true rfl) rfl dX4_readCase_137 (fun x_137 V_137 h_137 => ?_)
            obtain ⟨r_137, q_137, f_137⟩ := h_137
            rw [eT_131, l_131] at r_137
            have eT_137 : V_137 3 = V 3 := (funext fun b => f_137 3 b (by decide)).trans eT_131
            have l_137 : V_137 2 1 = V 2 1 := q_137.trans l_131
            have tb_137 : TB V_137 := TB_e ht l_137 eT_137
            have ff_137 : fr [1, 2, 6, 7, 12] V V_137 := fr_t (fr_w ff_131 (by decide)) (fr_w f_137 (by decide))
            exact j_retZ hR dX4_readCase_140 (LR.z r_137) ⟨by unfold pCase; rw [hsp, show (V 6 4 - p).toNat = 0 by omega]; show LR _ _ (Except.bind (Except.ok (wd, s1)) _ : PR ((Int × Int) × Int)) _; rw [bi_ok, sp_97, bi_ok, sp_104, bi_ok]; exact r_137.map (fun a _ ha => ⟨ha, fun e h0 h1 => by rw [show V_137 (6 + 1) e = _ from f_137 7 e (by decide), f_131 7 e (by decide), h_124, show V_137 6 3 = _ from f_137 6 3 (by decide), f_131 6 3 (by decide), h_124]; rw [show V_137 6 5 = _ from f_137 6 5 (by decide), f_131 6 5 (by decide), h_124] at h1; simp [up, e6] at h1 ⊢; split; (rw [h3]; omega); rw [e77]; exact htr e h0 h1, ⟨hw.1, hwd5⟩, fun e => by rw [f_137 7 e (by decide), f_131 7 e (by decide), h_124]; simp [up, e77], fun j h0 h1 => by rw [f_137 12 j (by decide), f_131 12 j (by decide), f_124 12 j (by decide), f_104 12 j (by decide), f_97 12 j (by decide)]; exact hC91 j h0 h1⟩), l_137, ff_137, fun b hb => by rw [f_137 6 b (by decide), f_131 6 b (by decide), h_124]; simp [up, hb, e6], by rw [f_137 6 7 (by decide), f_131 6 7 (by decide), h_124]; simp [up, e7]; omega⟩
          · skip
            refine j_iconst hX dX4_readCase_110 ⟨by decide, by decide⟩ ?_
            exact j_retZ hR dX4_readCase_111 (by omega) (by first | (obtain ⟨e, e1, e2⟩ := LR.f r_104 h_107; exact ⟨LR.er (e := e) (by unfold pCase; rw [hsp, show (V 6 4 - p).toNat = 0 by omega]; show (Except.bind (Except.ok (wd, s1)) _ : PR ((Int × Int) × Int)) = _; rw [bi_ok, sp_97, bi_ok, e1, bi_er]) e2, l_104, ff_104, fun b _ => by rw [f_104 6 b (by decide), f_97 6 b (by decide), f_91 6 b (by decide), f_W 6 b (by decide)], by rw [f_104 6 7 (by decide), f_97 6 7 (by decide), f_91 6 7 (by decide), f_W 6 7 (by decide)]; omega⟩) | (obtain ⟨e, e1, e2⟩ := LR.f r_97 h_100; exact ⟨LR.er (e := e) (by unfold pCase; rw [hsp, show (V 6 4 - p).toNat = 0 by omega]; show (Except.bind (Except.ok (wd, s1)) _ : PR ((Int × Int) × Int)) = _; rw [bi_ok, e1, bi_er]) e2, l_97, ff_97, fun b _ => by rw [f_97 6 b (by decide), f_91 6 b (by decide), f_W 6 b (by decide)], by rw [f_97 6 7 (by decide), f_91 6 7 (by decide), f_W 6 7 (by decide)]; omega⟩))
      · skip
        have hn9 : (V 6 4 - p).toNat = (V 6 4 - p - 1).toNat + 1 := by omega
        have hg1 : W 4 1 = gO q := (f_W 4 1 (by decide)).trans hgp.2.1
        refine j_al0 hX dX4_readCase_15 rfl ?_
        refine j_cVI0 (ci := 4) hX hG lk_X4_143 (ok_X4_isState (by first | assumption | omega | decide) (by first | assumption | omega | decide) ⟨hg1, by omega, by omega⟩) (by decide) rfl (Nat.le_of_ble_eq_true rfl) (Nat.le_of_ble_eq_true rfl) (Nat.le_of_ble_eq_true rfl) rfl dX4_readCase_16 (fun x_16 V_16 h_16 => ?_)
        obtain ⟨r_16, f_16⟩ := h_16
        have q_16 : V_16 2 1 = W 2 1 := f_16 2 1 (by decide)
        rw [eT_W, l_W] at r_16
        have eT_16 : V_16 3 = V 3 := (funext fun b => f_16 3 b (by decide)).trans eT_W
        have l_16 : V_16 2 1 = V 2 1 := q_16.trans l_W
        have tb_16 : TB V_16 := TB_e ht l_16 eT_16
        have ff_16 : fr [1, 2, 6, 7, 12] V V_16 := fr_t (fr_w ff_W (by decide)) (fr_w f_16 (by decide))
        have tk_16 := TK.sm tk_W (fun b => f_16 2 b (by decide)) (fun b => f_16 3 b (by decide))
        refine j_if_ne (tgt := 24) hX dX4_readCase_19 (by decide) (fun h_19 => ?_) (fun h_19 => ?_)
        · skip
          obtain ⟨s_16, sp_16, z_16, u_16⟩ := LR.t r_16 h_19
          have hnum := pNu_ok sp_16
          obtain ⟨k0, k1, k2, k3, k4, k5⟩ := tk_16
          have hN : V_16 2 4 = sgN (V 3) (V 2 1) s1 := by rw [k5 (by rw [k3, eT_16, l_16]; exact hnum.1), eT_16, l_16]
          have tk_16 : TK V_16 s1 := ⟨k0, k1, k2, k3, k4, k5⟩
          have hw2 := wd_b (g := gO q) (N := (gO q : Int) ^ p.toNat) (by omega) hw (b := sgN (V 3) (V 2 1) s1) (by omega)
          have hpw2 := pw216 (g := gO q) (by omega) (p := p + 1) (by omega)
          rw [pwS _ hp.1] at hpw2
          have hw3 : 0 ≤ wd * gO q ∧ wd * gO q ≤ 216 := by have := Int.mul_nonneg hw.1 (show (0 : Int) ≤ gO q by omega); omega
          refine j_il1 hX dX4_readCase_24 ?_
          refine j_al0 hX dX4_readCase_25 rfl ?_
          refine j_getR (q := 6) hX hG fl_X4_28 rfl rfl (by decide) dX4_readCase_26 ?_
          refine j_getI hX hG fl_X4_161 (Or.inl rfl) (by decide) dX4_readCase_29 ?_
          refine j_eqS (st' := [vI (gO q), vI wd]) (by rw [f_16 6 3 (by decide), a3_W]) ?_
          refine j_imul hX dX4_readCase_32 (by omega) ?_
          refine j_al0 hX dX4_readCase_33 rfl ?_
          refine j_getR (q := 2) hX hG fl_X4_12 rfl rfl (by decide) dX4_readCase_34 ?_
          refine j_getI hX hG fl_X4_93 (Or.inl rfl) (by decide) dX4_readCase_37 ?_
          refine j_eqS (st' := [vI (sgN (V 3) (V 2 1) s1), vI (wd * gO q)]) (by rw [hN]) ?_
          refine j_iadd hX dX4_readCase_40 (by omega) ?_
          refine j_is1 hX dX4_readCase_41 rfl ?_
          refine j_il2 hX dX4_readCase_42 ?_
          refine j_al0 hX dX4_readCase_43 rfl ?_
          refine j_getR (q := 6) hX hG fl_X4_28 rfl rfl (by decide) dX4_readCase_44 ?_
          refine j_getI hX hG fl_X4_140 (Or.inl rfl) (by decide) dX4_readCase_47 ?_
          refine j_eqS (st' := [vI (V 6 4), vI p]) (by rw [f_16 6 4 (by decide), a4_W]) ?_
          refine j_iconst hX dX4_readCase_50 ⟨by decide, by decide⟩ ?_
          refine j_isub hX dX4_readCase_51 (by omega) ?_
          refine j_icmp_ne (tgt := 72) hX dX4_readCase_52 (by decide) (fun h_52 => ?_) (fun h_52 => ?_)
          · skip
            refine j_al0 hX dX4_readCase_72 rfl ?_
            refine j_getR (q := 2) hX hG fl_X4_12 rfl rfl (by decide) dX4_readCase_73 ?_
            refine j_cVV0 (ci := 9) hX hG lk_X4_83 (ok_X9_advance_tk (by first | assumption | omega | decide) (by first | assumption | omega | decide)) (by decide) rfl (Nat.le_of_ble_eq_true rfl) (Nat.le_of_ble_eq_true rfl) (Nat.le_of_ble_eq_true rfl) rfl dX4_readCase_76 (fun V_76 h_76 => ?_)
            obtain ⟨tk_76, q_76, f_76⟩ := h_76
            rw [eT_16, l_16] at tk_76
            have eT_76 : V_76 3 = V 3 := (funext fun b => f_76 3 b (by decide)).trans eT_16
            have l_76 : V_76 2 1 = V 2 1 := q_76.trans l_16
            have tb_76 : TB V_76 := TB_e ht l_76 eT_76
            have ff_76 : fr [1, 2, 6, 7, 12] V V_76 := fr_t (fr_w ff_16 (by decide)) (fr_w f_76 (by decide))
            have z_76 : V_76 1 5 = 0 ∧ V_76 1 6 = -1 := ⟨(f_76 1 5 (by decide)).trans z_16.1, (f_76 1 6 (by decide)).trans z_16.2⟩
            refine j_inc2 hX dX4_readCase_79 rfl (by omega) ?_
            refine j_goto (tgt := 4) hX dX4_readCase_82 (by decide) ?_
            exact ih_4 _ _ _ _ (by omega) (by rw [pwS _ hp.1]; exact hw2) tk_76 l_76 (fr_t f_W (fr_t (fr_w f_16 (by decide)) (fr_w f_76 (by decide)))) z_76 (by rw [hsp, hn9, pPl_go sp_16 (by first | (intro hh; have := hh.1; omega) | (intro hh; exact (hC _ hw2.1 (by omega)).mpr hh.2 (by rw [← f_W 12 _ (by decide), ← f_16 12 _ (by decide)]; exact h_63))), show (V 6 4 - (p + 1)).toNat = (V 6 4 - p - 1).toNat by omega]) (by omega)
          · skip
            refine j_al0 hX dX4_readCase_55 rfl ?_
            refine j_getR (q := 12) hX hG fl_X4_39 rfl rfl (by decide) dX4_readCase_56 ?_
            refine j_il1 hX dX4_readCase_59 ?_
            refine j_pSI2 hX hG lk_X4_162 (ok_X11_at_in (n := 216) (by decide) (by first | assumption | decide) (by omega)) (Nat.le_of_ble_eq_true rfl) (Nat.le_of_ble_eq_true rfl) (Nat.le_of_ble_eq_true rfl) rfl dX4_readCase_60 ?_
            refine j_if_eq (tgt := 72) hX dX4_readCase_63 (by decide) (fun h_63 => ?_) (fun h_63 => ?_)
            · skip
              refine j_al0 hX dX4_readCase_72 rfl ?_
              refine j_getR (q := 2) hX hG fl_X4_12 rfl rfl (by decide) dX4_readCase_73 ?_
              refine j_cVV0 (ci := 9) hX hG lk_X4_83 (ok_X9_advance_tk (by first | assumption | omega | decide) (by first | assumption | omega | decide)) (by decide) rfl (Nat.le_of_ble_eq_true rfl) (Nat.le_of_ble_eq_true rfl) (Nat.le_of_ble_eq_true rfl) rfl dX4_readCase_76 (fun V_76 h_76 => ?_)
              obtain ⟨tk_76, q_76, f_76⟩ := h_76
              rw [eT_16, l_16] at tk_76
              have eT_76 : V_76 3 = V 3 := (funext fun b => f_76 3 b (by decide)).trans eT_16
              have l_76 : V_76 2 1 = V 2 1 := q_76.trans l_16
              have tb_76 : TB V_76 := TB_e ht l_76 eT_76
              have ff_76 : fr [1, 2, 6, 7, 12] V V_76 := fr_t (fr_w ff_16 (by decide)) (fr_w f_76 (by decide))
              have z_76 : V_76 1 5 = 0 ∧ V_76 1 6 = -1 := ⟨(f_76 1 5 (by decide)).trans z_16.1, (f_76 1 6 (by decide)).trans z_16.2⟩
              refine j_inc2 hX dX4_readCase_79 rfl (by omega) ?_
              refine j_goto (tgt := 4) hX dX4_readCase_82 (by decide) ?_
              exact ih_4 _ _ _ _ (by omega) (by rw [pwS _ hp.1]; exact hw2) tk_76 l_76 (fr_t f_W (fr_t (fr_w f_16 (by decide)) (fr_w f_76 (by decide)))) z_76 (by rw [hsp, hn9, pPl_go sp_16 (by first | (intro hh; have := hh.1; omega) | (intro hh; exact (hC _ hw2.1 (by omega)).mpr hh.2 (by rw [← f_W 12 _ (by decide), ← f_16 12 _ (by decide)]; exact h_63))), show (V 6 4 - (p + 1)).toNat = (V 6 4 - p - 1).toNat by omega]) (by omega)
            · skip
              refine j_al0 hX dX4_readCase_66 rfl ?_
              refine j_iconst hX dX4_readCase_67 ⟨by decide, by decide⟩ ?_
              refine j_cVI1 (ci := 4) hX hG lk_X4_79 (ok_X4_fail ) (by decide) rfl (Nat.le_of_ble_eq_true rfl) (Nat.le_of_ble_eq_true rfl) (Nat.le_of_ble_eq_true rfl) rfl dX4_readCase_68 (fun x_68 V_68 h_68 => ?_)
              obtain ⟨e_68, e2_68⟩ := h_68; subst e_68; subst e2_68
              exact j_retZ hR dX4_readCase_71 (by omega) ⟨LR.er (e := (3, s1)) (by unfold pCase; rw [hsp, hn9, pPl_3 sp_16 ⟨by omega, (hC _ hw2.1 (by omega)).mp (by rw [← f_W 12 _ (by decide), ← f_16 12 _ (by decide)]; exact h_63)⟩, bi_er]) ⟨by simp [up], by simp [up]; exact tk_16.2.2.1⟩, by simp [up]; exact l_16, fr_u (fr_u ff_16 (by decide)) (by decide), fun b _ => by simp [up]; rw [f_16 6 b (by decide), f_W 6 b (by decide)], by simp [up]; rw [f_16 6 7 (by decide), f_W 6 7 (by decide)]; omega⟩
        · skip
          refine j_iconst hX dX4_readCase_22 ⟨by decide, by decide⟩ ?_
          exact j_retZ hR dX4_readCase_23 (by omega) (by obtain ⟨e, e1, e2⟩ := LR.f r_16 h_19; exact ⟨LR.er (e := e) (by unfold pCase; rw [hsp, hn9, pPl_er e1, bi_er]) e2, l_16, ff_16, fun b _ => by rw [f_16 6 b (by decide), f_W 6 b (by decide)], by rw [f_16 6 7 (by decide), f_W 6 7 (by decide)]; omega⟩)
  exact lp_4 _ _ _ _ _ (by omega) ⟨by decide, by simp⟩ tk_i rfl fr_0 z_i (by rw [Int.sub_zero]) (Nat.lt_succ_self _)
