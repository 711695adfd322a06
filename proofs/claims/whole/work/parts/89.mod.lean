def fC (V W : VV) : Prop := (∀ b, (b < 25 ∨ 30 < b) → W 55 b = V 55 b) ∧ ∀ a b, a ≠ 55 → a ≠ 61 → a ≠ 64 → W a b = V a b
theorem fC_0 {V : VV} : fC V V := ⟨fun _ _ => rfl, fun _ _ _ _ _ => rfl⟩
theorem fC_f {V W : VV} (h : fT V W) : fC V W := ⟨h.1, fun a b h1 _ _ => h.2 a b h1⟩
theorem fC_t {V W Z : VV} (h : fC V W) (h' : fC W Z) : fC V Z := ⟨fun b hb => (h'.1 b hb).trans (h.1 b hb), fun a b h1 h2 h3 => (h'.2 a b h1 h2 h3).trans (h.2 a b h1 h2 h3)⟩
/-- the cases so far, in the two rows -/
def CST (V W : VV) (acc : List (Int × Int)) : Prop := (∀ e, 0 ≤ e → e < 216 → (W 64 e ≠ 0 ↔ e ∈ (acc.map Prod.fst).reverse)) ∧ ∀ e, W 61 e = casT acc (V 61) e
theorem CST_0 {V : VV} (h : ∀ e, 0 ≤ e → e < 216 → V 64 e = 0) : CST V V [] := ⟨fun e a b => ⟨fun q => absurd (h e a b) q, fun q => by simp at q⟩, fun e => rfl⟩
theorem CST_S {V W Z : VV} {acc : List (Int × Int)} {p x : Int} (h : CST V W acc) (h64 : ∀ i, Z 64 i = if i = p then 1 else W 64 i) (_ : ∀ i : Int, True) (h61 : ∀ i, Z 61 i = if i = p then x else W 61 i) : CST V Z (acc ++ [(p, x)]) := by
  refine ⟨fun e a b => ?_, fun e => ?_⟩
  · rw [h64 e]
    have h1 := h.1 e a b
    have h2 : e ∈ ((acc ++ [(p, x)]).map Prod.fst).reverse ↔ e = p ∨ e ∈ (acc.map Prod.fst).reverse := by simp [or_comm]
    rw [h2]
    by_cases q : e = p
    · rw [if_pos q]; exact ⟨fun _ => Or.inl q, fun _ => by decide⟩
    · rw [if_neg q, h1]; exact ⟨fun z => Or.inr z, fun z => z.resolve_left q⟩
  · rw [h61 e, casT_app]
    show _ = if e = p then x else casT acc (V 61) e
    by_cases q : e = p
    · rw [if_pos q, if_pos q]
    · rw [if_neg q, if_neg q]; exact h.2 e
def TOTC (T : Int → Int) (L g w : Int) (rr : PR Int) (acc : List (Int × Int)) : PR (List (Int × Int) × Int) := rr.bind fun s => (pCases T L g w (13 - acc.length) acc.length ((acc.map Prod.fst).reverse) s).map fun z => (acc ++ z.1, z.2)
theorem ew_m {g e k : Int} (hg : 2 ≤ g ∧ g ≤ 6) (he : 0 ≤ e ∧ e < g ^ k.toNat) (hk : k ≤ 2) : 0 ≤ g * e ∧ g * e ≤ 216 - g := by
  have h1 : 0 ≤ g * e := Int.mul_nonneg (by omega) he.1
  have h2 : g * e ≤ g * (g ^ k.toNat - 1) := Int.mul_le_mul_of_nonneg_left (by omega) (by omega)
  have h3 := pw216 hg (p := (k.toNat : Int) + 1) (by omega)
  rw [show ((k.toNat : Int) + 1).toNat = k.toNat + 1 by omega, Int.pow_succ, Int.mul_comm] at h3
  rw [Int.mul_sub, Int.mul_one] at h2
  omega
theorem ew_k {g e k : Int} (hg : 2 ≤ g ∧ g ≤ 6) (he : 0 ≤ e ∧ e < g ^ k.toNat) (_ : 0 ≤ k) (hk : k ≤ 2 := by omega) : 0 ≤ g * e ∧ g * e ≤ 216 - g := ew_m hg he hk
theorem ew_b {g e k x : Int} (hg : 2 ≤ g ∧ g ≤ 6) (he : 0 ≤ e ∧ e < g ^ k.toNat) (hk : 0 ≤ k) (hx : 0 ≤ x ∧ x ≤ g - 1) : 0 ≤ g * e + x ∧ g * e + x < g ^ (k + 1).toNat := by
  have h1 : 0 ≤ g * e := Int.mul_nonneg (by omega) he.1
  have h2 : g * e ≤ g * (g ^ k.toNat - 1) := Int.mul_le_mul_of_nonneg_left (by omega) (by omega)
  rw [show (k + 1).toNat = k.toNat + 1 by omega, Int.pow_succ, Int.mul_comm (g ^ _) g]
  rw [Int.mul_sub, Int.mul_one] at h2
  omega
section CASES
variable {T : Int → Int} {L g w : Int}
theorem pl_S {rk : PR Int} {seen : List Int} {n e k x : Int} {ct : PR (Int × Int)} (h : rk.bind (pPl T L g seen (n - k).toNat e) = ct) (hk : k + 1 < n) (k0 : 0 ≤ k) (hv : ∀ s, rk = .ok s → pNu T L 0 (g - 1) s = .ok () → x = sgN T L s) : (rk.bind fun s => (pNu T L 0 (g - 1) s).map fun _ => sgX T L s).bind (pPl T L g seen (n - (k + 1)).toNat (g * e + x)) = ct := by
  rw [← h]
  cases rk with
  | error z => rfl
  | ok s =>
    show Except.bind ((pNu T L 0 (g - 1) s).map fun _ => sgX T L s) _ = pPl T L g seen (n - k).toNat e s
    rw [show (n - k).toNat = (n - (k + 1)).toNat + 1 by omega]
    cases hp : pNu T L 0 (g - 1) s with
    | error z => rw [pPl_er hp]; rfl
    | ok u =>
      rw [pPl_go hp (fun q => by omega), hv s rfl hp, Int.mul_comm g e]
      rfl
theorem cb_n {W : VV} {R : PR Int} {p : Int} {l : List Int} (h : p ∉ l) (hs : STA W R) : STA W (R.bind fun s => if p ∈ l then .error (3, s) else .ok s) := by
  cases R with
  | ok s => show STA W (if p ∈ l then _ else _); rw [if_neg h]; exact hs
  | error e => exact hs
theorem cb_y {W : VV} {R : PR Int} {p : Int} {l : List Int} (h : p ∈ l) (hs : STA W (R.bind fun s => .error (3, s))) : STA W (R.bind fun s => if p ∈ l then .error (3, s) else .ok s) := by
  cases R with
  | ok s => show STA W (if p ∈ l then _ else _); rw [if_pos h]; exact hs
  | error e => exact hs
theorem cb_r {W : VV} {rk : PR Int} {p a b : Int} {l : List Int} (h : STA W (Except.bind (rk.bind fun s => (pNu T L a b s).map fun _ => s) fun s => if p ∈ l then .error (3, s) else .ok s)) (h0 : W 55 29 = 0) : ∃ s', rk = .ok s' ∧ pNu T L a b s' = .ok () ∧ p ∉ l ∧ RTS W s' := by
  cases rk with
  | error z => exact absurd (h.2.2.1.symm.trans h0) h.2.2.2.2
  | ok s =>
    have h1 : STA W (Except.bind ((pNu T L a b s).map fun _ => s) fun s => if p ∈ l then .error (3, s) else .ok s) := h
    cases hp : pNu T L a b s with
    | error z => rw [hp] at h1; exact absurd (h1.2.2.1.symm.trans h0) h1.2.2.2.2
    | ok u =>
      rw [hp] at h1
      have h2 : STA W (if p ∈ l then .error (3, s) else .ok s) := h1
      by_cases q : p ∈ l
      · rw [if_pos q] at h2; exact absurd (h2.2.2.1.symm.trans h0) h2.2.2.2.2
      · rw [if_neg q] at h2; exact ⟨s, rfl, hp, q, h2⟩
theorem cb_28 {W : VV} {rk : PR Int} {a b s' : Int} (h : STA W (rk.bind fun s => (pNu T L a b s).map fun _ => s)) (e : rk = .ok s') (hp : pNu T L a b s' = .ok ()) (e68 : W 68 = T) (e24 : W 55 24 = L) : W 55 28 = sgN T L s' := by
  subst e
  obtain ⟨s2, e2, -, -, h4⟩ := lk_ok h (lk_r hp h) e68 e24
  cases e2
  exact h4
theorem cs_ct {rk : PR Int} {seen : List Int} {e s' x : Int} {m : Nat} {ct : PR (Int × Int)} (h : rk.bind (pPl T L g seen m e) = ct) (e1 : rk = .ok s') (hp : pNu T L 0 (g - 1) s' = .ok ()) (hm : m = 1) (hx : x = sgN T L s') (hn : g * e + x ∉ seen) : ct = .ok (g * e + x, sgX T L s') := by
  subst e1
  rw [← h, hm]
  show pPl T L g seen (0 + 1) e s' = _
  rw [hx, Int.mul_comm g e] at hn ⊢
  rw [pPl_go hp (fun q => hn q.2)]
  rfl
theorem cs_z {rk : PR Int} {seen : List Int} {e x : Int} {m : Nat} {ct : PR (Int × Int)} {z : Int × Int} (h : rk.bind (pPl T L g seen m e) = ct) (hz : Except.bind (rk.bind fun s => (pNu T L 0 (g - 1) s).map fun _ => s) (fun s => if g * e + x ∈ seen then .error (3, s) else .ok s) = .error z) (hm : m = 1) (hx : ∀ s', rk = .ok s' → pNu T L 0 (g - 1) s' = .ok () → x = sgN T L s') : ct = .error z := by
  rw [← h, hm]
  cases rk with
  | error y => cases hz; rfl
  | ok s =>
    have h1 : Except.bind ((pNu T L 0 (g - 1) s).map fun _ => s) (fun s => if g * e + x ∈ seen then .error (3, s) else .ok s) = .error z := hz
    show pPl T L g seen (0 + 1) e s = _
    cases hp : pNu T L 0 (g - 1) s with
    | error y =>
      rw [hp] at h1
      have h3 : (Except.error y : PR Int) = .error z := h1
      cases h3
      rw [pPl_er hp]
    | ok u =>
      rw [hp] at h1
      have h2 : (if g * e + x ∈ seen then Except.error (3, s) else Except.ok s) = (Except.error z : PR Int) := h1
      by_cases q : g * e + x ∈ seen
      · rw [if_pos q] at h2
        cases h2
        rw [hx s rfl hp, Int.mul_comm g e] at q
        rw [pPl_3 hp ⟨rfl, q⟩]
      · rw [if_neg q] at h2; cases h2
theorem ts_yes {V : VV} {c : Int} {r : PR Int} (h : isSM T L c r = true) (hs : STA V (tsR T L c r)) : STA V (r.bind (pSy T L c)) := by
  cases r with
  | error e => exact hs
  | ok s =>
    have h1 : isSy T L s c = true := h
    have h2 : STA V (if isSy T L s c = true then .ok (sgX T L s) else .ok s) := hs
    show STA V (if isSy T L s c = true then .ok (sgX T L s) else .error (1, s))
    rw [if_pos h1] at h2 ⊢
    exact h2
theorem cs_4 {acc : List (Int × Int)} {s c : Int} {A : VV} (hw : isWd T L s wCase = true) (lc : c = acc.length ∧ acc.length ≤ 12) (sA : STA A (if c = 12 then .error (4, s) else .ok s)) (h : A 55 29 ≠ 0) : TOTC T L g w (.ok s) acc = .error (4, s) ∧ STA A (.error (4, s)) := by
  by_cases q : c = 12
  · rw [if_pos q] at sA
    refine ⟨?_, sA⟩
    show Except.map _ (pCases T L g w (13 - acc.length) acc.length _ s) = _
    rw [show 13 - acc.length = 0 + 1 by omega, pCases_4 hw (by omega)]
    rfl
  · rw [if_neg q] at sA
    exact absurd sA.2.2.1 h
theorem cs_er {acc : List (Int × Int)} {s : Int} {z : Int × Int} (hw : isWd T L s wCase = true) (lc : acc.length < 12) (h : pPl T L g ((acc.map Prod.fst).reverse) w.toNat 0 (sgX T L s) = .error z) : TOTC T L g w (.ok s) acc = .error z := by
  show Except.map _ (pCases T L g w (13 - acc.length) acc.length _ s) = _
  rw [show 13 - acc.length = (12 - acc.length) + 1 by omega, pCases_er (e := z) hw (by omega) (by unfold pCase; rw [h]; rfl)]
  rfl
theorem cs_go {acc : List (Int × Int)} {s s3 e2 v : Int} (hw : isWd T L s wCase = true) (lc : acc.length < 12) (h : pPl T L g ((acc.map Prod.fst).reverse) w.toNat 0 (sgX T L s) = .ok (e2, s3)) (hv : ∀ s2, pSy T L 61 s3 = .ok s2 → pNu T L 0 (g - 1) s2 = .ok () → v = sgN T L s2) : TOTC T L g w (.ok s) acc = TOTC T L g w (Except.bind (Except.bind (Except.bind ((.ok s3) : PR Int) (pSy T L 61)) fun s => (pNu T L 0 (g - 1) s).map fun _ => sgX T L s) (pSy T L 59)) (acc ++ [(e2, v)]) := by
  show Except.map _ (pCases T L g w (13 - acc.length) acc.length _ s) = _
  have key : pCase T L g w ((acc.map Prod.fst).reverse) (sgX T L s) = (Except.bind (Except.bind (Except.bind ((.ok s3) : PR Int) (pSy T L 61)) fun s => (pNu T L 0 (g - 1) s).map fun _ => sgX T L s) (pSy T L 59)).map fun a => ((e2, v), a) := by
    unfold pCase
    rw [h]
    show Except.bind (pSy T L 61 s3) _ = Except.map _ (Except.bind (Except.bind (pSy T L 61 s3) _) _)
    cases h1 : pSy T L 61 s3 with
    | error z => rfl
    | ok s2 =>
      show Except.bind (pNu T L 0 (g - 1) s2) _ = Except.map _ (Except.bind (Except.map _ (pNu T L 0 (g - 1) s2)) _)
      cases h2 : pNu T L 0 (g - 1) s2 with
      | error z => rfl
      | ok u =>
        show Except.map _ (pSy T L 59 (sgX T L s2)) = Except.map _ (pSy T L 59 (sgX T L s2))
        rw [hv s2 h1 h2]
  rw [show 13 - acc.length = (12 - acc.length) + 1 by omega]
  have el : ((acc ++ [(e2, v)]).length : Int) = acc.length + 1 := by rw [List.length_append]; push_cast; rfl
  have en : 13 - (acc ++ [(e2, v)]).length = 12 - acc.length := by rw [List.length_append]; show 13 - (acc.length + 1) = _; omega
  have em : ((acc ++ [(e2, v)]).map Prod.fst).reverse = e2 :: (acc.map Prod.fst).reverse := by simp
  unfold TOTC
  rw [el, en, em]
  generalize hR : (Except.bind (Except.bind (Except.bind ((.ok s3) : PR Int) (pSy T L 61)) fun s => (pNu T L 0 (g - 1) s).map fun _ => sgX T L s) (pSy T L 59)) = R at key ⊢
  cases R with
  | error z => rw [pCases_er hw (by omega) key]; rfl
  | ok a =>
    rw [pCases_go hw (by omega) key]
    show Except.map _ (Except.map _ (pCases T L g w (12 - acc.length) ((acc.length : Int) + 1) (e2 :: (acc.map Prod.fst).reverse) a)) = Except.map _ (pCases T L g w (12 - acc.length) ((acc.length : Int) + 1) (e2 :: (acc.map Prod.fst).reverse) a)
    cases pCases T L g w (12 - acc.length) ((acc.length : Int) + 1) (e2 :: (acc.map Prod.fst).reverse) a with
    | error z => rfl
    | ok z =>
      show Except.ok (acc ++ ((e2, v) :: z.1), z.2) = Except.ok ((acc ++ [(e2, v)]) ++ z.1, z.2)
      rw [List.append_assoc]; rfl
theorem cs_no {acc : List (Int × Int)} {rr : PR Int} (h : ¬ ∃ s, rr = .ok s ∧ isWd T L s wCase = true) (hl : acc.length ≤ 12 := by omega) : (TOTC T L g w rr acc).map Prod.snd = rr := by
  cases rr with
  | error z => rfl
  | ok s =>
    show Except.map _ (Except.map _ (pCases T L g w (13 - acc.length) acc.length _ s)) = _
    rw [show 13 - acc.length = (12 - acc.length) + 1 by omega, pCases_no (fun q => h ⟨s, rfl, q⟩)]
    rfl
theorem cs_nk {acc cs : List (Int × Int)} {rr : PR Int} {s' : Int} (h : ¬ ∃ s, rr = .ok s ∧ isWd T L s wCase = true) (e : TOTC T L g w rr acc = .ok (cs, s')) (hl : acc.length ≤ 12 := by omega) : acc = cs := by
  cases rr with
  | error z => cases e
  | ok s =>
    have e1 : Except.map (fun z : List (Int × Int) × Int => (acc ++ z.1, z.2)) (pCases T L g w (13 - acc.length) acc.length ((acc.map Prod.fst).reverse) s) = .ok (cs, s') := e
    rw [show 13 - acc.length = (12 - acc.length) + 1 by omega, pCases_no (fun q => h ⟨s, rfl, q⟩)] at e1
    have e2 : (acc ++ [], s) = (cs, s') := Except.ok.inj e1
    rw [List.append_nil] at e2
    exact congrArg Prod.fst e2
end CASES
set_option maxHeartbeats 4000000 in
theorem ok_X12_cases {V : VV} {r : PR Int} (hmt : MTB V) (hst : STA V r) (hg0 : 2 ≤ V 55 10 ∧ V 55 10 ≤ 6) (hw0 : V 55 11 = 2 ∨ V 55 11 = 3) (hcs : ∀ e, 0 ≤ e → e < 216 → V 64 e = 0) : Ok NA yX12_cases cX12_cases 4 none 5 107 [vA 55] V (pV (fun V' => STA V' ((TOTC (V 68) (V 55 24) (V 55 10) (V 55 11) r []).map Prod.snd) ∧ (∀ cs s', TOTC (V 68) (V 55 24) (V 55 10) (V 55 11) r [] = .ok (cs, s') → ∀ e, V' 61 e = casT cs (V 61) e) ∧ fC V V')) := by
  refine Ok.intro (by decide +kernel) (Nat.le_of_ble_eq_true rfl) (fun X G hX hG hR hoa hoV => ?_)
  show J X G 0 [vA 55, vU, vU, vU] [] V
  have hw9 : 2 ≤ V 55 11 ∧ V 55 11 ≤ 3 := by omega
  refine j_iconst hX dX12_cases_0 ⟨by decide, by decide⟩ ?_
  refine j_is1 hX dX12_cases_1 rfl ?_
  have lp_2 : ∀ (f9 : Nat) (c : Int) (rr : PR Int) (acc : List (Int × Int)) (W : VV), (TOTC (V 68) (V 55 24) (V 55 10) (V 55 11) r [] = TOTC (V 68) (V 55 24) (V 55 10) (V 55 11) rr acc) → (STA W rr) → (c = acc.length ∧ acc.length ≤ 12) → (CST V W acc) → (fC V W) → ((13 - acc.length)) < f9 → J X G 2 [vA 55, vI c, vU, vU] [] W := by
    intro f9
    induction f9 with
    | zero => intro c rr acc W _ _ _ _ _ hm; exact absurd hm (Nat.not_lt_zero _)
    | succ f9 ih_2 =>
      intro c rr acc W hT9 sW lc tW fW hm
      have w68 : W 68 = V 68 := funext fun b => fW.2 68 b (by decide) (by decide) (by decide)
      have w24 : W 55 24 = V 55 24 := fW.1 24 (by decide)
      have w10 : W 55 10 = V 55 10 := fW.1 10 (by decide)
      have w11 : W 55 11 = V 55 11 := fW.1 11 (by decide)
      have mtW : MTB W := by unfold MTB; rw [w68, w24]; exact hmt
      refine j_al0 hX dX12_cases_2 rfl ?_
      refine j_ldcSw (k := 14) hX dX12_cases_3 rfl ?_
      refine j_pVI1 (ci := 12) hX hG lk_X12_218 (ok_X12_isWord mtW sW (by first | assumption | rfl)) (by decide) rfl (Nat.le_of_ble_eq_true rfl) (Nat.le_of_ble_eq_true rfl) (Nat.le_of_ble_eq_true rfl) rfl dX12_cases_6 ?_
      refine j_ifz_eq (tgt := 178) hX dX12_cases_9 (by decide) (fun h_9 => ?_) (fun h_9 => ?_)
      · skip
        exact j_ret hR dX12_cases_178 (by
      have hN := fun z => h_9 (isWM_t.mpr z)
      rw [w68, w24] at hN
      refine ⟨?_, fun cs s' e => ?_, fW⟩
      · rw [hT9, cs_no hN]; exact sW
      · rw [hT9] at e
        have e2 := cs_nk hN e
        intro i
        rw [tW.2 i, e2])
      · skip
        obtain ⟨s, er, hwd⟩ := isWM_t.mp h_9
        rw [w68, w24] at hwd
        subst er
        have jn_23 : ∀ (A : VV), (STA A (if c = 12 then .error (4, s) else .ok s)) → (fT W A) → J X G 23 [vA 55, vI c, vU, vU] [] A := by
          intro A sA fA
          have a68 : A 68 = V 68 := (funext fun b => fA.2 68 b (by decide)).trans w68
          have a24 : A 55 24 = V 55 24 := (fA.1 24 (by decide)).trans w24
          have mtA : MTB A := by unfold MTB; rw [a68, a24]; exact hmt
          refine j_al0 hX dX12_cases_23 rfl ?_
          refine j_pVI0 (ci := 12) hX hG lk_X12_204 (ok_X12_isWrong ) (by decide) rfl (Nat.le_of_ble_eq_true rfl) (Nat.le_of_ble_eq_true rfl) (Nat.le_of_ble_eq_true rfl) rfl dX12_cases_24 ?_
          refine j_ifz_eq (tgt := 31) hX dX12_cases_27 (by decide) (fun h_27 => ?_) (fun h_27 => ?_)
          · skip
            have c12 : c ≠ 12 := fun q => by
              rw [if_pos q] at sA
              exact absurd (sA.2.2.1.symm.trans (Classical.byContradiction h_27)) (show ¬ (4 : Int) = 0 by decide)
            have rA : RTS A s := by rw [if_neg c12] at sA; exact sA
            refine j_al0 hX dX12_cases_31 rfl ?_
            refine j_cVV0 (ci := 12) hX hG lk_X12_222 (ok_X12_token mtA (tk_25 rA) rA.2.1) (by decide) rfl (Nat.le_of_ble_eq_true rfl) (Nat.le_of_ble_eq_true rfl) (Nat.le_of_ble_eq_true rfl) rfl dX12_cases_32 (fun V_32 h_32 => ?_)
            have u_32 := tk_to mtA rA h_32
            rw [a68, a24] at u_32
            refine j_iconst hX dX12_cases_35 ⟨by decide, by decide⟩ ?_
            refine j_is2 hX dX12_cases_36 rfl ?_
            refine j_iconst hX dX12_cases_37 ⟨by decide, by decide⟩ ?_
            refine j_is3 hX dX12_cases_38 rfl ?_
            have lp_39 : ∀ (f9 : Nat) (e k : Int) (rk : PR Int) (X2 : VV), (0 ≤ k ∧ k ≤ V 55 11 - 1) → (0 ≤ e ∧ e < V 55 10 ^ k.toNat) → (rk.bind (pPl (V 68) (V 55 24) (V 55 10) ((acc.map Prod.fst).reverse) (V 55 11 - k).toNat e) = (pPl (V 68) (V 55 24) (V 55 10) ((acc.map Prod.fst).reverse) (V 55 11).toNat 0 (sgX (V 68) (V 55 24) s))) → (STA X2 rk) → (fT W X2) → ((V 55 11 - k).toNat) < f9 → J X G 39 [vA 55, vI c, vI e, vI k] [] X2 := by
              intro f9
              induction f9 with
              | zero => intro e k rk X2 _ _ _ _ _ hm; exact absurd hm (Nat.not_lt_zero _)
              | succ f9 ih_39 =>
                intro e k rk X2 hk he hP sX fX hm
                refine j_il3 hX dX12_cases_39 ?_
                refine j_iconst hX dX12_cases_40 ⟨by decide, by decide⟩ ?_
                have x68 : X2 68 = V 68 := (funext fun b => fX.2 68 b (by decide)).trans w68
                have x24 : X2 55 24 = V 55 24 := (fX.1 24 (by decide)).trans w24
                have x10 : X2 55 10 = V 55 10 := (fX.1 10 (by decide)).trans w10
                have x11 : X2 55 11 = V 55 11 := (fX.1 11 (by decide)).trans w11
                have mtX : MTB X2 := by unfold MTB; rw [x68, x24]; exact hmt
                have gk := pw216 hg0 (p := k) (by omega)
                refine j_iadd hX dX12_cases_41 (by omega) ?_
                refine j_al0 hX dX12_cases_42 rfl ?_
                skip
                refine j_getI hX hG fl_X12_113 (Or.inl rfl) (by decide) dX12_cases_43 ?_
                refine j_icmp_ge (tgt := 74) hX dX12_cases_46 (by decide) (fun h_46 => ?_) (fun h_46 => ?_)
                · skip
                  have kw : k = V 55 11 - 1 := by omega
                  have ek := ew_m hg0 he (show k ≤ 2 by omega)
                  refine j_al0 hX dX12_cases_74 rfl ?_
                  refine j_iconst hX dX12_cases_75 ⟨by decide, by decide⟩ ?_
                  refine j_al0 hX dX12_cases_76 rfl ?_
                  refine j_getI hX hG fl_X12_110 (Or.inl rfl) (by decide) dX12_cases_77 ?_
                  refine j_iconst hX dX12_cases_80 ⟨by decide, by decide⟩ ?_
                  refine j_isub hX dX12_cases_81 (by rw [x10]; omega) ?_
                  refine j_cVV2 (ci := 12) hX hG lk_X12_237 (ok_X12_looks sX) (by decide) rfl (Nat.le_of_ble_eq_true rfl) (Nat.le_of_ble_eq_true rfl) (Nat.le_of_ble_eq_true rfl) rfl dX12_cases_82 (fun V_82 h_82 => ?_)
                  obtain ⟨s_82, f_82⟩ := h_82
                  rw [x68, x24, x10] at s_82
                  have b28 := s_82.b28
                  have q10 : V_82 55 10 = V 55 10 := (f_82.1 10 (by decide)).trans x10
                  refine j_al0 hX dX12_cases_85 rfl ?_
                  refine j_getI hX hG fl_X12_110 (Or.inl rfl) (by decide) dX12_cases_86 ?_
                  refine j_il2 hX dX12_cases_89 ?_
                  refine j_eqS (st' := [vI e, vI (V 55 10)]) (by rw [q10]) ?_
                  refine j_imul hX dX12_cases_90 (by omega) ?_
                  refine j_al0 hX dX12_cases_91 rfl ?_
                  refine j_getI hX hG fl_X12_198 (Or.inl rfl) (by decide) dX12_cases_92 ?_
                  refine j_iadd hX dX12_cases_95 (by omega) ?_
                  refine j_is2 hX dX12_cases_96 rfl ?_
                  have jn_118 : ∀ (B : VV), (STA B (Except.bind (rk.bind fun s => (pNu (V 68) (V 55 24) 0 (V 55 10 - 1) s).map fun _ => s) fun s => if (V 55 10 * e + V_82 55 28) ∈ ((acc.map Prod.fst).reverse) then .error (3, s) else .ok s)) → (fT V_82 B) → J X G 118 [vA 55, vI c, vI (V 55 10 * e + V_82 55 28), vI k] [] B := by
                    intro B sB fB
                    have q68 : B 68 = V 68 := (funext fun b => (fB.2 68 b (by decide)).trans (f_82.2 68 b (by decide))).trans x68
                    have b68 := q68
                    have b24 : B 55 24 = V 55 24 := (fB.1 24 (by decide)).trans ((f_82.1 24 (by decide)).trans x24)
                    have mtB : MTB B := by unfold MTB; rw [b68, b24]; exact hmt
                    refine j_al0 hX dX12_cases_118 rfl ?_
                    refine j_pVI0 (ci := 12) hX hG lk_X12_204 (ok_X12_isWrong ) (by decide) rfl (Nat.le_of_ble_eq_true rfl) (Nat.le_of_ble_eq_true rfl) (Nat.le_of_ble_eq_true rfl) rfl dX12_cases_119 ?_
                    refine j_ifz_eq (tgt := 126) hX dX12_cases_122 (by decide) (fun h_122 => ?_) (fun h_122 => ?_)
                    · skip
                      obtain ⟨s', er9, hpn, hnm, rB⟩ := cb_r sB (Classical.byContradiction h_122)
                      have n28 : V_82 55 28 = sgN (V 68) (V 55 24) s' := cb_28 s_82 er9 hpn (show V_82 68 = V 68 from (funext fun b => f_82.2 68 b (by decide)).trans x68) ((f_82.1 24 (by decide)).trans x24)
                      have hsn := (pNu_t.mp hpn).2
                      have eb2 := ew_b hg0 he hk.1 (x := V_82 55 28) (by omega)
                      have eb3 := pw216 hg0 (p := k + 1) (by omega)
                      have hCT := cs_ct hP er9 hpn (show (V 55 11 - k).toNat = 1 by omega) n28 hnm
                      refine j_al0 hX dX12_cases_126 rfl ?_
                      refine j_cVV0 (ci := 12) hX hG lk_X12_222 (ok_X12_token mtB (tk_25 rB) rB.2.1) (by decide) rfl (Nat.le_of_ble_eq_true rfl) (Nat.le_of_ble_eq_true rfl) (Nat.le_of_ble_eq_true rfl) rfl dX12_cases_127 (fun V_127 h_127 => ?_)
                      have u_127 := tk_to mtB rB h_127
                      rw [b68, b24] at u_127
                      refine j_al0 hX dX12_cases_130 rfl ?_
                      refine j_getR (q := 64) hX hG fl_X12_34 rfl rfl (by decide) dX12_cases_131 ?_
                      refine j_il2 hX dX12_cases_134 ?_
                      refine j_iconst hX dX12_cases_135 ⟨by decide, by decide⟩ ?_
                      refine j_zast (n := 216) hX hG (by decide) (by omega) (by omega) dX12_cases_136 ?_
                      generalize hN : up V_127 64 (V 55 10 * e + V_82 55 28) 1 = Y
                      have yF : ∀ b, Y 55 b = V_127 55 b := fun b => by rw [← hN, up_n _ (by omega)]
                      have yC : ∀ a b, a ≠ 64 → Y a b = V_127 a b := fun a b ha => by rw [← hN, up_n _ (by omega)]
                      have y64 : ∀ i, Y 64 i = if i = (V 55 10 * e + V_82 55 28) then 1 else V_127 64 i := fun i => by
                        rw [← hN]
                        by_cases q : i = (V 55 10 * e + V_82 55 28)
                        · rw [if_pos q, q, up_s]
                        · rw [if_neg q, up_n _ (fun z => q z.2)]
                      clear hN
                      have y68 : Y 68 = V 68 := (funext fun b => (yC 68 b (by decide)).trans (u_127.2.2 68 b (by decide))).trans b68
                      have y24 : Y 55 24 = V 55 24 := (yF 24).trans ((u_127.2.1 24 (by decide)).trans b24)
                      have mtY : MTB Y := by unfold MTB; rw [y68, y24]; exact hmt
                      have sY : STA Y (.ok (sgX (V 68) (V 55 24) s')) := STA.c u_127.1 (fun b _ _ => yF b) (funext fun b => yC 68 b (by decide))
                      refine j_al0 hX dX12_cases_137 rfl ?_
                      refine j_bipush hX dX12_cases_138 (by decide) ⟨by decide, by decide⟩ ?_
                      refine j_cVI1 (ci := 12) hX hG lk_X12_234 (ok_X12_takesSign mtY sY (by decide)) (by decide) rfl (Nat.le_of_ble_eq_true rfl) (Nat.le_of_ble_eq_true rfl) (Nat.le_of_ble_eq_true rfl) rfl dX12_cases_140 (fun x_140 V_140 h_140 => ?_)
                      obtain ⟨x_140e, s_140, f_140⟩ := h_140
                      rw [y68, y24] at x_140e s_140
                      have jn_151 : ∀ (D : VV), (STA D (Except.bind ((.ok (sgX (V 68) (V 55 24) s')) : PR Int) (pSy (V 68) (V 55 24) 61))) → (fT Y D) → J X G 151 [vA 55, vI c, vI (V 55 10 * e + V_82 55 28), vI k] [] D := by
                        intro D sD fD
                        have d68 : D 68 = V 68 := (funext fun b => fD.2 68 b (by decide)).trans y68
                        have d24 : D 55 24 = V 55 24 := (fD.1 24 (by decide)).trans y24
                        have d10 : D 55 10 = V 55 10 := (fD.1 10 (by decide)).trans ((yF 10).trans ((u_127.2.1 10 (by decide)).trans ((fB.1 10 (by decide)).trans q10)))
                        have mtD : MTB D := by unfold MTB; rw [d68, d24]; exact hmt
                        refine j_al0 hX dX12_cases_151 rfl ?_
                        refine j_getR (q := 61) hX hG fl_X12_25 rfl rfl (by decide) dX12_cases_152 ?_
                        refine j_il2 hX dX12_cases_155 ?_
                        refine j_al0 hX dX12_cases_156 rfl ?_
                        refine j_iconst hX dX12_cases_157 ⟨by decide, by decide⟩ ?_
                        refine j_al0 hX dX12_cases_158 rfl ?_
                        refine j_getI hX hG fl_X12_110 (Or.inl rfl) (by decide) dX12_cases_159 ?_
                        refine j_iconst hX dX12_cases_162 ⟨by decide, by decide⟩ ?_
                        refine j_isub hX dX12_cases_163 (by rw [d10]; omega) ?_
                        refine j_cVI2 (ci := 12) hX hG lk_X12_247 (ok_X12_figure mtD sD) (by decide) rfl (Nat.le_of_ble_eq_true rfl) (Nat.le_of_ble_eq_true rfl) (Nat.le_of_ble_eq_true rfl) rfl dX12_cases_164 (fun x_164 V_164 h_164 => ?_)
                        obtain ⟨b_164, v_164, s_164, f_164⟩ := h_164
                        rw [d68, d24, d10] at v_164 s_164
                        refine j_iast (n := 216) hX hG (by decide) (by omega) dX12_cases_167 ?_
                        generalize hN : up V_164 61 (V 55 10 * e + V_82 55 28) x_164 = N
                        have nF : ∀ b, N 55 b = V_164 55 b := fun b => by rw [← hN, up_n _ (by omega)]
                        have nC : ∀ a b, a ≠ 61 → N a b = V_164 a b := fun a b ha => by rw [← hN, up_n _ (by omega)]
                        have n61' : ∀ i, N 61 i = if i = (V 55 10 * e + V_82 55 28) then x_164 else V_164 61 i := fun i => by
                          rw [← hN]
                          by_cases q : i = (V 55 10 * e + V_82 55 28)
                          · rw [if_pos q, q, up_s]
                          · rw [if_neg q, up_n _ (fun z => q z.2)]
                        clear hN
                        have n68 : N 68 = V 68 := (funext fun b => (nC 68 b (by decide)).trans (f_164.2 68 b (by decide))).trans d68
                        have n24 : N 55 24 = V 55 24 := (nF 24).trans ((f_164.1 24 (by decide)).trans d24)
                        have mtN : MTB N := by unfold MTB; rw [n68, n24]; exact hmt
                        have sN := STA.c s_164 (W := N) (fun b _ _ => nF b) (funext fun b => nC 68 b (by decide))
                        have ch : ∀ a b, a ≠ 55 → a ≠ 64 → V_164 a b = W a b := fun a b h1 h2 => (f_164.2 a b h1).trans ((fD.2 a b h1).trans ((yC a b h2).trans ((u_127.2.2 a b h1).trans ((fB.2 a b h1).trans ((f_82.2 a b h1).trans (fX.2 a b h1))))))
                        have n64 : ∀ i, N 64 i = if i = (V 55 10 * e + V_82 55 28) then 1 else W 64 i := fun i => by
                          rw [nC 64 i (by decide), f_164.2 64 i (by decide), fD.2 64 i (by decide), y64 i]
                          by_cases q : i = (V 55 10 * e + V_82 55 28)
                          · rw [if_pos q, if_pos q]
                          · rw [if_neg q, if_neg q, u_127.2.2 64 i (by decide), fB.2 64 i (by decide), f_82.2 64 i (by decide), fX.2 64 i (by decide)]
                        have n61 : ∀ i, N 61 i = if i = (V 55 10 * e + V_82 55 28) then x_164 else W 61 i := fun i => by
                          rw [n61' i]
                          by_cases q : i = (V 55 10 * e + V_82 55 28)
                          · rw [if_pos q, if_pos q]
                          · rw [if_neg q, if_neg q, ch 61 i (by decide) (by decide)]
                        have fY9 : fC B N := ⟨fun b hb => (nF b).trans ((f_164.1 b hb).trans ((fD.1 b hb).trans ((yF b).trans (u_127.2.1 b hb)))), fun a b h1 h2 h3 => (nC a b h2).trans ((f_164.2 a b h1).trans ((fD.2 a b h1).trans ((yC a b h3).trans (u_127.2.2 a b h1))))⟩
                        have vq : ∀ s2, pSy (V 68) (V 55 24) 61 (sgX (V 68) (V 55 24) s') = .ok s2 → pNu (V 68) (V 55 24) 0 (V 55 10 - 1) s2 = .ok () → x_164 = sgN (V 68) (V 55 24) s2 := fun s2 h1 h2 => v_164 s2 h1 h2
                        have n64e : ∀ i : Int, True := fun _ => trivial
                        refine j_al0 hX dX12_cases_168 rfl ?_
                        refine j_cVV0 (ci := 12) hX hG lk_X12_250 (ok_X12_ends mtN sN) (by decide) rfl (Nat.le_of_ble_eq_true rfl) (Nat.le_of_ble_eq_true rfl) (Nat.le_of_ble_eq_true rfl) rfl dX12_cases_169 (fun V_169 h_169 => ?_)
                        obtain ⟨s_169, f_169⟩ := h_169
                        rw [n68, n24] at s_169
                        refine j_inc1 hX dX12_cases_172 rfl (by omega) ?_
                        refine j_goto (tgt := 2) hX dX12_cases_175 (by decide) ?_
                        refine j_fg2 ?_
                        refine j_fg3 ?_
                        exact ih_2 _ (Except.bind (Except.bind (Except.bind ((.ok (sgX (V 68) (V 55 24) s')) : PR Int) (pSy (V 68) (V 55 24) 61)) fun s => (pNu (V 68) (V 55 24) 0 (V 55 10 - 1) s).map fun _ => sgX (V 68) (V 55 24) s) (pSy (V 68) (V 55 24) 59)) (acc ++ [((V 55 10 * e + V_82 55 28), x_164)]) _ (hT9.trans (cs_go hwd (by omega) hCT vq)) s_169 (by rw [List.length_append]; show c + 1 = ((acc.length + 1 : Nat) : Int) ∧ acc.length + 1 ≤ 12; omega) (CST_S tW (fun i => by rw [f_169.2 64 i (by decide), n64]) n64e (fun i => by rw [f_169.2 61 i (by decide)]; exact n61 i)) (fC_t (fC_t fW (fC_f (fT_t fX (fT_t f_82 fB)))) (fC_t fY9 (fC_f f_169))) (by rw [List.length_append]; show 13 - (acc.length + 1) < _; omega)
                      refine j_if_ne (tgt := 151) hX dX12_cases_143 (by decide) (fun h_143 => ?_) (fun h_143 => ?_)
                      · skip
                        exact jn_151 _ (by first | exact ts_yes (z01 (fun q => h_143 (x_140e.trans q))) s_140 | exact ends_n (z00 (x_140e.symm.trans h_143)) s_148) (by first | exact f_140 | exact fT_t f_140 f_148)
                      · skip
                        refine j_al0 hX dX12_cases_146 rfl ?_
                        refine j_iconst hX dX12_cases_147 ⟨by decide, by decide⟩ ?_
                        refine j_cVV1 (ci := 12) hX hG lk_X12_228 (ok_X12_fails s_140 (by decide)) (by decide) rfl (Nat.le_of_ble_eq_true rfl) (Nat.le_of_ble_eq_true rfl) (Nat.le_of_ble_eq_true rfl) rfl dX12_cases_148 (fun V_148 h_148 => ?_)
                        obtain ⟨s_148, f_148⟩ := h_148
                        exact jn_151 _ (by first | exact ts_yes (z01 (fun q => h_143 (x_140e.trans q))) s_140 | exact ends_n (z00 (x_140e.symm.trans h_143)) s_148) (by first | exact f_140 | exact fT_t f_140 f_148)
                    · skip
                      exact j_ret hR dX12_cases_125 (by
      obtain ⟨z, ez, zw⟩ := sB.er h_122
      have hT := cs_er (T := V 68) (L := V 55 24) (g := V 55 10) (w := V 55 11) (z := z) hwd (by omega) (cs_z hP ez (show (V 55 11 - k).toNat = 1 by omega) (fun s' e1 e2 => cb_28 s_82 e1 e2 (show V_82 68 = V 68 from (funext fun b => f_82.2 68 b (by decide)).trans x68) ((f_82.1 24 (by decide)).trans x24)))
      refine ⟨by rw [hT9, hT]; exact zw, fun cs s' e => (by rw [hT9, hT] at e; cases e), fC_t fW (fC_f (fT_t fX (fT_t f_82 fB)))⟩)
                  refine j_al0 hX dX12_cases_97 rfl ?_
                  refine j_pVI0 (ci := 12) hX hG lk_X12_204 (ok_X12_isWrong ) (by decide) rfl (Nat.le_of_ble_eq_true rfl) (Nat.le_of_ble_eq_true rfl) (Nat.le_of_ble_eq_true rfl) rfl dX12_cases_98 ?_
                  refine j_ifz_ne (tgt := 118) hX dX12_cases_101 (by decide) (fun h_101 => ?_) (fun h_101 => ?_)
                  · skip
                    exact jn_118 _ (by first | exact s_82.w h_101 _ | exact cb_n (fun q => (hmm.mpr q) (t64.symm.trans h_110)) s_82 | exact cb_y hnm s_115) (by first | exact fT_0 | exact f_115)
                  · skip
                    have n29 : V_82 55 29 = 0 := Classical.byContradiction h_101
                    obtain ⟨s', er9, hpn, r82, n28⟩ := lk_ok s_82 n29 (show V_82 68 = V 68 from (funext fun b => f_82.2 68 b (by decide)).trans x68) ((f_82.1 24 (by decide)).trans x24)
                    have hsn := (pNu_t.mp hpn).2
                    have eb2 := ew_b hg0 he hk.1 (x := V_82 55 28) (by omega)
                    have eb3 := pw216 hg0 (p := k + 1) (by omega)
                    have t64 : V_82 64 (V 55 10 * e + V_82 55 28) = W 64 (V 55 10 * e + V_82 55 28) := (f_82.2 64 _ (by decide)).trans (fX.2 64 _ (by decide))
                    have hmm := tW.1 (V 55 10 * e + V_82 55 28) eb2.1 (by omega)
                    refine j_al0 hX dX12_cases_104 rfl ?_
                    refine j_getR (q := 64) hX hG fl_X12_34 rfl rfl (by decide) dX12_cases_105 ?_
                    refine j_il2 hX dX12_cases_108 ?_
                    refine j_zald (n := 216) hX hG (by decide) (by omega) dX12_cases_109 ?_
                    refine j_if_eq (tgt := 118) hX dX12_cases_110 (by decide) (fun h_110 => ?_) (fun h_110 => ?_)
                    · skip
                      exact jn_118 _ (by first | exact s_82.w h_101 _ | exact cb_n (fun q => (hmm.mpr q) (t64.symm.trans h_110)) s_82 | exact cb_y hnm s_115) (by first | exact fT_0 | exact f_115)
                    · skip
                      have hnm := hmm.mp (fun q => h_110 (t64.trans q))
                      refine j_al0 hX dX12_cases_113 rfl ?_
                      refine j_iconst hX dX12_cases_114 ⟨by decide, by decide⟩ ?_
                      refine j_cVV1 (ci := 12) hX hG lk_X12_228 (ok_X12_fails s_82 (by decide)) (by decide) rfl (Nat.le_of_ble_eq_true rfl) (Nat.le_of_ble_eq_true rfl) (Nat.le_of_ble_eq_true rfl) rfl dX12_cases_115 (fun V_115 h_115 => ?_)
                      obtain ⟨s_115, f_115⟩ := h_115
                      exact jn_118 _ (by first | exact s_82.w h_101 _ | exact cb_n (fun q => (hmm.mpr q) (t64.symm.trans h_110)) s_82 | exact cb_y hnm s_115) (by first | exact fT_0 | exact f_115)
                · skip
                  refine j_al0 hX dX12_cases_49 rfl ?_
                  refine j_getI hX hG fl_X12_110 (Or.inl rfl) (by decide) dX12_cases_50 ?_
                  refine j_fx (x := V 55 10) x10 ?_
                  have ek := ew_k hg0 he hk.1
                  refine j_il2 hX dX12_cases_53 ?_
                  refine j_imul hX dX12_cases_54 (by omega) ?_
                  refine j_al0 hX dX12_cases_55 rfl ?_
                  refine j_iconst hX dX12_cases_56 ⟨by decide, by decide⟩ ?_
                  refine j_al0 hX dX12_cases_57 rfl ?_
                  refine j_getI hX hG fl_X12_110 (Or.inl rfl) (by decide) dX12_cases_58 ?_
                  refine j_iconst hX dX12_cases_61 ⟨by decide, by decide⟩ ?_
                  refine j_isub hX dX12_cases_62 (by rw [x10]; omega) ?_
                  refine j_cVI2 (ci := 12) hX hG lk_X12_247 (ok_X12_figure mtX sX) (by decide) rfl (Nat.le_of_ble_eq_true rfl) (Nat.le_of_ble_eq_true rfl) (Nat.le_of_ble_eq_true rfl) rfl dX12_cases_63 (fun x_63 V_63 h_63 => ?_)
                  obtain ⟨b_63, v_63, s_63, f_63⟩ := h_63
                  rw [x68, x24, x10] at v_63 s_63
                  rw [x10] at b_63
                  refine j_iadd hX dX12_cases_66 (by have := b_63 (by omega); omega) ?_
                  refine j_is2 hX dX12_cases_67 rfl ?_
                  refine j_inc3 hX dX12_cases_68 rfl (by omega) ?_
                  refine j_goto (tgt := 39) hX dX12_cases_71 (by decide) ?_
                  exact ih_39 _ _ (rk.bind fun s => (pNu (V 68) (V 55 24) 0 (V 55 10 - 1) s).map fun _ => sgX (V 68) (V 55 24) s) _ (by omega) (ew_b hg0 he hk.1 (b_63 (by omega))) (pl_S hP (by omega) hk.1 v_63) s_63 (fT_t fX f_63) (by omega)
            exact lp_39 _ 0 0 (.ok (sgX (V 68) (V 55 24) s)) _ ⟨by decide, by omega⟩ ⟨by decide, by show (0 : Int) < V 55 10 ^ 0; rw [Int.pow_zero]; decide⟩ (by rw [Int.sub_zero]; rfl) u_32.1 (fT_t fA u_32.2) (Nat.lt_succ_self _)
          · skip
            exact j_ret hR dX12_cases_30 (by
      have hT := cs_4 (T := V 68) (L := V 55 24) (g := V 55 10) (w := V 55 11) hwd lc (sA := sA) h_27
      refine ⟨by rw [hT9, hT.1]; exact hT.2, fun cs s' e => (by rw [hT9, hT.1] at e; cases e), fC_t fW (fC_f fA)⟩)
        refine j_il1 hX dX12_cases_12 ?_
        refine j_bipush hX dX12_cases_13 (by decide) ⟨by decide, by decide⟩ ?_
        refine j_icmp_ne (tgt := 23) hX dX12_cases_15 (by decide) (fun h_15 => ?_) (fun h_15 => ?_)
        · skip
          exact jn_23 _ (by first | (rw [if_neg h_15]; exact sW) | (rw [if_pos h_15]; exact s_20)) (by first | exact fT_0 | exact f_20)
        · skip
          refine j_al0 hX dX12_cases_18 rfl ?_
          refine j_iconst hX dX12_cases_19 ⟨by decide, by decide⟩ ?_
          refine j_cVV1 (ci := 12) hX hG lk_X12_228 (ok_X12_fails sW (by decide)) (by decide) rfl (Nat.le_of_ble_eq_true rfl) (Nat.le_of_ble_eq_true rfl) (Nat.le_of_ble_eq_true rfl) rfl dX12_cases_20 (fun V_20 h_20 => ?_)
          obtain ⟨s_20, f_20⟩ := h_20
          exact jn_23 _ (by first | (rw [if_neg h_15]; exact sW) | (rw [if_pos h_15]; exact s_20)) (by first | exact fT_0 | exact f_20)
  exact lp_2 _ 0 r [] _ rfl hst ⟨rfl, by decide⟩ (CST_0 hcs) fC_0 (Nat.lt_succ_self _)
