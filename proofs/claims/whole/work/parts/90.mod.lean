def fL (V W : VV) : Prop := (∀ b, ((1 ≤ b ∧ b ≤ 9) ∨ (13 ≤ b ∧ b ≤ 22) ∨ 32 ≤ b) → W 55 b = V 55 b) ∧ ∀ a b, a ≠ 55 → (a < 60 ∨ 64 < a) → W a b = V a b
theorem fL_t {V W Z : VV} (h : fL V W) (h' : fL W Z) : fL V Z := ⟨fun b hb => (h'.1 b hb).trans (h.1 b hb), fun a b h1 h2 => (h'.2 a b h1 h2).trans (h.2 a b h1 h2)⟩
theorem fL_T {V W : VV} (h : fT V W) : fL V W := ⟨fun b hb => h.1 b (by omega), fun a b h1 _ => h.2 a b h1⟩
theorem fL_G {V W : VV} (h : fG V W) : fL V W := ⟨fun b hb => h.1 b (by omega), fun a b h1 h2 => h.2 a b h1 (by omega)⟩
theorem fL_M {V W : VV} (h : fM V W) : fL V W := ⟨fun b hb => h.1 b (by omega), fun a b h1 h2 => h.2 a b h1 (by omega)⟩
theorem fL_C {V W : VV} (h : fC V W) : fL V W := ⟨fun b hb => h.1 b (by omega), fun a b h1 h2 => h.2 a b h1 (by omega) (by omega)⟩
theorem fL_R {V W : VV} (h : fR V W) : fL V W := ⟨fun b hb => h.1 b (by omega), fun a b h1 h2 => h.2 a b h1 (by omega)⟩
def okq (r : PR (Nat × Int)) : Nat := match r with
  | .ok a => a.1
  | .error _ => 0
def okd {α : Type} (r : PR (List α × Int)) : List α := match r with
  | .ok z => z.1
  | .error _ => []
/-- what a loaded text leaves -/
def LDok (V V' : VV) : Prop := ∃ r, pAll (V 68) (V 55 23) = .ok r ∧ MG V' r.1 ∧ MO V' ∧ V' 55 2 = r.2.1 ∧ (∀ e, 0 ≤ e → e < V' 55 3 → V' 58 e = casT r.2.2.2.1 (tabF r.1 r.2.1 0 r.2.2.1) e) ∧ V' 55 5 = r.2.2.2.2.length ∧ (1 ≤ V' 55 5 ∧ V' 55 5 ≤ 16) ∧ (∀ k, 0 ≤ k → k < V' 55 5 → V' 59 k = r.2.2.2.2.getD k.toNat 0) ∧ V' 55 29 = 0 ∧ V' 55 30 = -1 ∧ (V' 66 0 = 0 ∧ V' 66 1 = 0 ∧ V' 55 21 = 0 ∧ V' 55 38 = 0 ∧ V' 55 45 = 0)
theorem all_b {g w : Int} (hg : 2 ≤ g ∧ g ≤ 6) (hw : w = 2 ∨ w = 3) : (4 ≤ g * g ∧ g * g ≤ 36) ∧ 4 ≤ g * g * (if w = 2 then 1 else g) ∧ g * g * (if w = 2 then 1 else g) ≤ 216 := by
  have h := g36 hg
  refine ⟨h, ?_⟩
  rcases hw with e | e
  · rw [if_pos e]; omega
  · rw [if_neg (by omega)]
    rcases g26 hg with e | e | e | e | e <;> rw [e] <;> decide
theorem all_d {g w i : Int} (hg : 2 ≤ g ∧ g ≤ 6) (hw : w = 2 ∨ w = 3) (i0 : 0 ≤ i) (h : i < g * g * (if w = 2 then 1 else g)) : i ≤ 216 ∧ (w = 2 → i / g < g) ∧ (w = 3 → i / g / g < g) := by
  have hb := all_b hg hw
  refine ⟨by omega, fun e => ?_, fun e => ?_⟩
  · rw [if_pos e] at h
    exact Int.ediv_lt_of_lt_mul (by omega) (by omega)
  · rw [if_neg (by omega)] at h
    exact Int.ediv_lt_of_lt_mul (by omega) (Int.ediv_lt_of_lt_mul (by omega) h)
theorem pe_n {W : VV} {T : Int → Int} {L : Int} {R : PR Int} (h : STA W R) (e68 : W 68 = T) (e24 : W 55 24 = L) (h0 : W 55 27 = 0) : STA W (R.bind fun s => (pEnd T L s).map fun _ => s) := by
  cases R with
  | error e => exact h
  | ok s =>
    have k := h.1.2.2.2.1
    rw [e68, e24] at k
    show STA W ((if sgK T L s = 0 then .ok () else .error (1, s) : PR Unit).map fun _ => s)
    rw [if_pos (k.symm.trans h0)]
    exact h
theorem pe_y {W Z : VV} {T : Int → Int} {L : Int} {R : PR Int} (h : STA W R) (e68 : W 68 = T) (e24 : W 55 24 = L) (h29 : W 55 29 = 0) (h0 : ¬ W 55 27 = 0) (hz : STA Z (R.bind fun s => .error (1, s))) : STA Z (R.bind fun s => (pEnd T L s).map fun _ => s) := by
  cases R with
  | error e => exact hz
  | ok s =>
    have k := h.1.2.2.2.1
    rw [e68, e24] at k
    show STA Z ((if sgK T L s = 0 then .ok () else .error (1, s) : PR Unit).map fun _ => s)
    rw [if_neg (fun q => h0 (k.trans q))]
    exact hz
theorem ld_ok {W : VV} {α : Type} {R : PR (List α × Int)} (h : STA W (R.map Prod.snd)) (h0 : W 55 29 = 0) : ∃ s, R = .ok (okd R, s) := by
  cases R with
  | error e => exact absurd (h.2.2.1.symm.trans h0) h.2.2.2.2
  | ok z => exact ⟨z.2, rfl⟩
theorem ld_6 {W : VV} {R : PR Int} (h : STA W R) (h0 : W 55 29 = 0) : ∃ s, R = .ok s := by
  cases R with
  | error e => exact absurd (h.2.2.1.symm.trans h0) h.2.2.2.2
  | ok z => exact ⟨z, rfl⟩
theorem ld_30 {W : VV} {R : PR Int} (h : STA W R) (h0 : W 55 29 = 0) : W 55 30 = -1 := by
  cases R with
  | error e => exact absurd (h.2.2.1.symm.trans h0) h.2.2.2.2
  | ok z => exact h.2.2.2
section LOADED
variable (T : Int → Int) (L : Int)
abbrev r2F (P : PR (Nat × Int)) : PR Int := Except.bind (Except.bind (Except.bind (Except.map Prod.snd P) (pWd T L wWidth)) fun s => (pNu T L 2 3 s).map fun _ => sgX T L s) (pSy T L 59)
abbrev tmF (g w : Int) (r : PR Int) : PR (List (Int × Int × Int) × Int) := (Except.bind r (pWd T L wWord)).bind fun s1 => pTerms T L g w 9 0 s1
abbrev rgF (g : Int) (r : PR Int) : PR (List Int × Int) := (Except.bind r (pWd T L wRing)).bind fun s1 => pCells T L g 17 0 s1
abbrev tcF (g w : Int) (r : PR Int) : PR (List (Int × Int) × Int) := TOTC T L g w (Except.map Prod.snd (tmF T L g w r)) []
abbrev r6F (g w : Int) (r : PR Int) : PR Int := Except.bind (Except.map Prod.snd (rgF T L g (Except.map Prod.snd (tcF T L g w r)))) fun s => (pEnd T L s).map fun _ => s
def pA2 (q : Nat) (w s2 : Int) : PR (Nat × Int × List (Int × Int × Int) × List (Int × Int) × List Int) := ((pWd T L wWord s2).bind fun s => pTerms T L (gO q) w 9 0 s).bind fun c => (pCases T L (gO q) w 13 0 [] c.2).bind fun d => (pRing T L (gO q) d.2).bind fun e => (pEnd T L e.2).bind fun _ => .ok (q, w, c.1, d.1, e.1)
end LOADED
section LOADED2
variable {T : Int → Int} {L g w : Int}
theorem pAll_2 : pAll T L = (pGroup T L (sgS T L 0)).bind fun a => (pWidth T L a.2).bind fun b => pA2 T L a.1 b.1 b.2 := rfl
theorem ld_g {P : PR (Nat × Int)} {z : List (Int × Int × Int) × Int} (h : tmF T L g w (r2F T L P) = .ok z) : ∃ s2, P = .ok (okq P, s2) := by
  cases P with
  | error e => cases h
  | ok a => exact ⟨a.2, rfl⟩
theorem pT_8 : ∀ (n : Nat) (t s : Int) (ds : List (Int × Int × Int)) (s' : Int), pTerms T L g w n t s = .ok (ds, s') → (ds.length : Int) + t ≤ 8
  | 0, t, s, ds, s', h => by cases h
  | n + 1, t, s, ds, s', h => by
    have h1 : (pTerm T L g w t s).bind (fun r => if isSy T L r.2 42 = true then (pTerms T L g w n (t + 1) (sgX T L r.2)).map (fun z => (r.1 :: z.1, z.2)) else (pSy T L 59 r.2).map (fun a => ([r.1], a))) = .ok (ds, s') := h
    cases hp : pTerm T L g w t s with
    | error e => rw [hp] at h1; cases h1
    | ok r =>
      have ht := (pTerm_ok hp).1
      rw [hp] at h1
      have h2 : (if isSy T L r.2 42 = true then (pTerms T L g w n (t + 1) (sgX T L r.2)).map (fun z => (r.1 :: z.1, z.2)) else (pSy T L 59 r.2).map (fun a => ([r.1], a))) = .ok (ds, s') := h1
      by_cases q : isSy T L r.2 42 = true
      · rw [if_pos q] at h2
        cases hq : pTerms T L g w n (t + 1) (sgX T L r.2) with
        | error e => rw [hq] at h2; cases h2
        | ok z =>
          rw [hq] at h2
          have h3 := pT_8 n (t + 1) _ _ _ hq
          have h4 : (r.1 :: z.1, z.2) = (ds, s') := Except.ok.inj h2
          rw [← (Prod.mk.inj h4).1]
          show ((z.1.length + 1 : Nat) : Int) + t ≤ 8
          omega
      · rw [if_neg q] at h2
        cases hq : pSy T L 59 r.2 with
        | error e => rw [hq] at h2; cases h2
        | ok z =>
          rw [hq] at h2
          have h4 : ([r.1], z) = (ds, s') := Except.ok.inj h2
          rw [← (Prod.mk.inj h4).1]
          show ((1 : Nat) : Int) + t ≤ 8
          omega
theorem ld_8 {r : PR Int} {ds : List (Int × Int × Int)} {s' : Int} (h : tmF T L g w r = .ok (ds, s')) : ds.length ≤ 8 := by
  cases r with
  | error e => cases h
  | ok s =>
    have h1 : (pWd T L wWord s).bind (fun s1 => pTerms T L g w 9 0 s1) = .ok (ds, s') := h
    cases hp : pWd T L wWord s with
    | error e => rw [hp] at h1; cases h1
    | ok s1 =>
      rw [hp] at h1
      have := pT_8 9 0 s1 ds s' h1
      omega
theorem ld_85 {W : VV} {r : PR Int} {s6 : Int} (h : STA W (Except.map Prod.snd (tmF T L g w r))) (h6 : r6F T L g w r = .ok s6) : W 55 29 = 0 := by
  unfold r6F tcF at h6
  generalize tmF T L g w r = R at h h6
  cases R with
  | error e => cases h6
  | ok z => exact h.2.2.1
theorem ld_w {P : PR (Nat × Int)} {q : Nat} {s : Int} (hP : P = .ok (q, s)) : r2F T L P = (pWidth T L s).map Prod.snd ∧ ∀ b, pWidth T L s = .ok b → ∃ s1, Except.bind (Except.map Prod.snd P) (pWd T L wWidth) = .ok s1 ∧ pNu T L 2 3 s1 = .ok () ∧ b.1 = sgN T L s1 := by
  subst hP
  unfold pWidth
  show Except.bind (Except.bind (pWd T L wWidth s) _) _ = _ ∧ _
  cases h1 : pWd T L wWidth s with
  | error e => exact ⟨rfl, fun b h => by cases h⟩
  | ok s1 =>
    show Except.bind (Except.map _ (pNu T L 2 3 s1)) _ = Except.map _ (Except.bind (pNu T L 2 3 s1) _) ∧ _
    cases h2 : pNu T L 2 3 s1 with
    | error e =>
      refine ⟨rfl, fun b h => ?_⟩
      have h' : Except.bind (pNu T L 2 3 s1) (fun _ => (pSy T L 59 (sgX T L s1)).map fun a => (sgN T L s1, a)) = .ok b := h
      rw [h2] at h'; cases h'
    | ok u =>
      refine ⟨?_, fun b h => ⟨s1, h1, h2, ?_⟩⟩
      · show pSy T L 59 (sgX T L s1) = Except.map _ (Except.map _ (pSy T L 59 (sgX T L s1)))
        cases pSy T L 59 (sgX T L s1) with
        | error e => rfl
        | ok a => rfl
      · have h' : Except.bind (pNu T L 2 3 s1) (fun _ => (pSy T L 59 (sgX T L s1)).map fun a => (sgN T L s1, a)) = .ok b := h
        rw [h2] at h'
        have h3 : (pSy T L 59 (sgX T L s1)).map (fun a => (sgN T L s1, a)) = .ok b := h'
        cases h4 : pSy T L 59 (sgX T L s1) with
        | error e => rw [h4] at h3; cases h3
        | ok a => rw [h4] at h3; exact (congrArg Prod.fst (Except.ok.inj h3)).symm
theorem R6_of {q : Nat} {s2 : Int} (hg : g = gO q) : (∀ e, r6F T L g w (.ok s2) = .error e → pA2 T L q w s2 = .error e) ∧ ∀ s6, r6F T L g w (.ok s2) = .ok s6 → ∃ cs s4 xs s5, tcF T L g w (.ok s2) = .ok (cs, s4) ∧ rgF T L g (Except.map Prod.snd (tcF T L g w (.ok s2))) = .ok (xs, s5) ∧ pA2 T L q w s2 = .ok (q, w, okd (tmF T L g w (.ok s2)), cs, xs) := by
  subst hg
  unfold pA2 r6F tcF TOTC
  have e0 : tmF T L (gO q) w (.ok s2) = (pWd T L wWord s2).bind fun s => pTerms T L (gO q) w 9 0 s := rfl
  rw [e0]
  generalize (pWd T L wWord s2).bind (fun s => pTerms T L (gO q) w 9 0 s) = A
  cases A with
  | error z => exact ⟨fun e h => by cases h; rfl, fun s h => by cases h⟩
  | ok c =>
    have e1 : Except.bind (Except.map Prod.snd (Except.ok c : PR (List (Int × Int × Int) × Int))) (fun s => (pCases T L (gO q) w (13 - ([] : List (Int × Int)).length) (([] : List (Int × Int)).length : Nat) ((([] : List (Int × Int)).map Prod.fst).reverse) s).map fun z => (([] : List (Int × Int)) ++ z.1, z.2)) = (pCases T L (gO q) w 13 0 [] c.2).map fun z => (([] : List (Int × Int)) ++ z.1, z.2) := rfl
    rw [e1, ma_id]
    show (∀ e, _ → Except.bind (pCases T L (gO q) w 13 0 [] c.2) _ = _) ∧ ∀ s6, _ → ∃ cs s4 xs s5, _ ∧ _ ∧ Except.bind (pCases T L (gO q) w 13 0 [] c.2) _ = _
    generalize pCases T L (gO q) w 13 0 [] c.2 = B
    cases B with
    | error z => exact ⟨fun e h => by cases h; rfl, fun s h => by cases h⟩
    | ok d =>
      have e2 : rgF T L (gO q) (Except.map Prod.snd (Except.ok d : PR (List (Int × Int) × Int))) = pRing T L (gO q) d.2 := rfl
      rw [e2]
      show (∀ e, _ → Except.bind (pRing T L (gO q) d.2) _ = _) ∧ ∀ s6, _ → ∃ cs s4 xs s5, _ ∧ _ ∧ Except.bind (pRing T L (gO q) d.2) _ = _
      generalize pRing T L (gO q) d.2 = C
      cases C with
      | error z => exact ⟨fun e h => by cases h; rfl, fun s h => by cases h⟩
      | ok x =>
        show (∀ e, Except.map _ (pEnd T L x.2) = _ → Except.bind (pEnd T L x.2) _ = _) ∧ ∀ s6, Except.map _ (pEnd T L x.2) = _ → ∃ cs s4 xs s5, _ ∧ _ ∧ Except.bind (pEnd T L x.2) _ = _
        generalize pEnd T L x.2 = D
        cases D with
        | error z => exact ⟨fun e h => by cases h; rfl, fun s h => by cases h⟩
        | ok u => exact ⟨fun e h => (by cases h), fun s h => ⟨d.1, d.2, x.1, x.2, rfl, rfl, rfl⟩⟩
theorem ld_all {s6 s3 : Int} (h6 : r6F T L g w (r2F T L (pGroup T L (sgS T L 0))) = .ok s6) (_ : tmF T L g w (r2F T L (pGroup T L (sgS T L 0))) = .ok (okd (tmF T L g w (r2F T L (pGroup T L (sgS T L 0)))), s3)) (hg : g = gO (okq (pGroup T L (sgS T L 0)))) (hw : ∀ s, Except.bind (Except.map Prod.snd (pGroup T L (sgS T L 0))) (pWd T L wWidth) = .ok s ∧ pNu T L 2 3 s = .ok () → w = sgN T L s) : ∃ cs s4 xs s5, tcF T L g w (r2F T L (pGroup T L (sgS T L 0))) = .ok (cs, s4) ∧ rgF T L g (Except.map Prod.snd (tcF T L g w (r2F T L (pGroup T L (sgS T L 0))))) = .ok (xs, s5) ∧ pAll T L = .ok (okq (pGroup T L (sgS T L 0)), w, okd (tmF T L g w (r2F T L (pGroup T L (sgS T L 0)))), cs, xs) := by
  rw [pAll_2]
  generalize pGroup T L (sgS T L 0) = P at *
  cases P with
  | error e => cases h6
  | ok a =>
    have hw2 := ld_w (T := T) (L := L) (P := .ok (a.1, a.2)) rfl
    have e2 : r2F T L (.ok a) = (pWidth T L a.2).map Prod.snd := hw2.1
    rw [e2] at h6 ⊢
    show ∃ cs s4 xs s5, _ ∧ _ ∧ Except.bind (pWidth T L a.2) _ = _
    cases hb : pWidth T L a.2 with
    | error e => rw [hb] at h6; cases h6
    | ok b =>
      rw [hb] at h6
      obtain ⟨s1, f1, f2, f3⟩ := hw2.2 b hb
      have ew : w = b.1 := (hw s1 ⟨f1, f2⟩).trans f3.symm
      obtain ⟨cs, s4, xs, s5, r1, r2, r3⟩ := (R6_of (T := T) (L := L) (w := w) (s2 := b.2) (q := a.1) hg).2 s6 h6
      refine ⟨cs, s4, xs, s5, r1, r2, ?_⟩
      show pA2 T L a.1 b.1 b.2 = _
      rw [← ew]
      exact r3
theorem ld_er {e : Int × Int} (h6 : r6F T L g w (r2F T L (pGroup T L (sgS T L 0))) = .error e) (hg : ∀ s q s2, s = sgS T L 0 → pGroup T L (sgS T L 0) = .ok (q, s2) → g = gO q) (hw : ∀ s, Except.bind (Except.map Prod.snd (pGroup T L (sgS T L 0))) (pWd T L wWidth) = .ok s ∧ pNu T L 2 3 s = .ok () → w = sgN T L s) : pAll T L = .error e := by
  rw [pAll_2]
  have hg2 := fun q s2 => hg _ q s2 rfl
  generalize pGroup T L (sgS T L 0) = P at *
  cases P with
  | error z => cases h6; rfl
  | ok a =>
    have hw2 := ld_w (T := T) (L := L) (P := .ok (a.1, a.2)) rfl
    have e2 : r2F T L (.ok a) = (pWidth T L a.2).map Prod.snd := hw2.1
    rw [e2] at h6
    show Except.bind (pWidth T L a.2) _ = _
    cases hb : pWidth T L a.2 with
    | error z => rw [hb] at h6; cases h6; rfl
    | ok b =>
      rw [hb] at h6
      obtain ⟨s1, f1, f2, f3⟩ := hw2.2 b hb
      have ew : w = b.1 := (hw s1 ⟨f1, f2⟩).trans f3.symm
      have r3 := (R6_of (T := T) (L := L) (w := w) (s2 := b.2) (q := a.1) (hg2 a.1 a.2 rfl)).1 e h6
      show pA2 T L a.1 b.1 b.2 = .error e
      rw [← ew]
      exact r3
end LOADED2
theorem ld_n {W : VV} {g w : Int} (ho : MO W) (h2 : W 55 2 = w) (h1 : W 55 1 = g) : W 55 3 = g * g * (if w = 2 then 1 else g) := by
  rw [ho.2.2, h1]
  rcases ho.2.1 with ⟨a, b⟩ | ⟨a, b⟩
  · rw [b, h1, if_pos (by omega)]; omega
  · rw [b, h1, if_neg (by omega)]
theorem casT_cm {m : Int} : ∀ {cs : List (Int × Int)} {f f' : Int → Int}, (∀ j, 0 ≤ j → j < m → f j = f' j) → ∀ e, 0 ≤ e → e < m → casT cs f e = casT cs f' e
  | [], f, f', h, e, e0, e1 => h e e0 e1
  | d :: r, f, f', h, e, e0, e1 => casT_cm (cs := r) (fun j j0 j1 => by show (if j = d.1 then d.2 else f j) = (if j = d.1 then d.2 else f' j); rw [h j j0 j1]) e e0 e1
theorem rgs_g {W : VV} {g k : Int} {xs : List Int} (h : RGS W g xs) (k0 : 0 ≤ k) (k1 : k < xs.length) : W 62 k = xs.getD k.toNat 0 := by
  obtain ⟨x, a, -, b⟩ := h.2 k.toNat (by omega)
  rw [show ((k.toNat : Nat) : Int) = k by omega] at b
  rw [b, List.getD_eq_getElem?_getD, a]; rfl
set_option maxHeartbeats 4000000 in
theorem ok_X12_load {V : VV} (htx : 0 ≤ V 55 23 ∧ V 55 23 ≤ 500 ∧ ∀ p, 0 ≤ p → p < 500 → 0 ≤ V 68 p ∧ V 68 p ≤ 255) (h28 : 0 ≤ V 55 28 ∧ V 55 28 ≤ 99) (hg10 : 2 ≤ V 55 10 ∧ V 55 10 ≤ 6) : Ok NA yX12_load cX12_load 3 (some .int) 8 172 [vA 55] V (pI (fun x9 V' => ((x9 = V' 55 5 ∧ V' 55 0 = 0 ∧ LDok V V') ∨ (x9 = 0 ∧ V' 55 0 = 1 ∧ (∃ e, pAll (V 68) (V 55 23) = .error e ∧ V' 55 29 = e.1 ∧ V' 55 30 = e.2) ∧ fL V V')) ∧ V' 55 23 = 0 ∧ (2 ≤ V' 55 10 ∧ V' 55 10 ≤ 6) ∧ (0 ≤ V' 55 28 ∧ V' 55 28 ≤ 99) ∧ ∀ b, V' 68 b = V 68 b)) := by
  refine Ok.intro (by decide +kernel) (Nat.le_of_ble_eq_true rfl) (fun X G hX hG hR hoa hoV => ?_)
  show J X G 0 [vA 55, vU, vU] [] V
  refine j_al0 hX dX12_load_0 rfl ?_
  refine j_iconst hX dX12_load_1 ⟨by decide, by decide⟩ ?_
  refine j_putI hX hG fp_X12_126 rfl (by decide) dX12_load_2 ?_
  refine j_al0 hX dX12_load_5 rfl ?_
  refine j_al0 hX dX12_load_6 rfl ?_
  refine j_getI hX hG fl_X12_165 (Or.inl rfl) (by decide) dX12_load_7 ?_
  refine j_putI hX hG fp_X12_176 rfl (by decide) dX12_load_10 ?_
  refine j_al0 hX dX12_load_13 rfl ?_
  refine j_iconst hX dX12_load_14 ⟨by decide, by decide⟩ ?_
  refine j_putI hX hG fp_X12_165 rfl (by decide) dX12_load_15 ?_
  refine j_al0 hX dX12_load_18 rfl ?_
  refine j_iconst hX dX12_load_19 ⟨by decide, by decide⟩ ?_
  refine j_putI hX hG fp_X12_179 rfl (by decide) dX12_load_20 ?_
  refine j_al0 hX dX12_load_23 rfl ?_
  refine j_iconst hX dX12_load_24 ⟨by decide, by decide⟩ ?_
  refine j_putI hX hG fp_X12_201 rfl (by decide) dX12_load_25 ?_
  refine j_al0 hX dX12_load_28 rfl ?_
  refine j_iconst hX dX12_load_29 ⟨by decide, by decide⟩ ?_
  refine j_putI hX hG fp_X12_50 rfl (by decide) dX12_load_30 ?_
  generalize hN : up _ 55 30 _ = U9
  have uF : ∀ b, b ≠ 0 → b ≠ 23 → b ≠ 24 → b ≠ 25 → b ≠ 29 → b ≠ 30 → U9 55 b = V 55 b := fun b h0 h1 h2 h3 h4 h5 => by rw [← hN, up_n _ (by omega), up_n _ (by omega), up_n _ (by omega), up_n _ (by omega), up_n _ (by omega), up_n _ (by omega)]
  have uC : ∀ a b, a ≠ 55 → U9 a b = V a b := fun a b ha => by rw [← hN, up_n _ (by omega), up_n _ (by omega), up_n _ (by omega), up_n _ (by omega), up_n _ (by omega), up_n _ (by omega)]
  have u0 : U9 55 0 = 0 := by rw [← hN, up_n _ (by decide), up_n _ (by decide), up_n _ (by decide), up_n _ (by decide), up_n _ (by decide), up_s]
  have u24 : U9 55 24 = V 55 23 := by rw [← hN, up_n _ (by decide), up_n _ (by decide), up_n _ (by decide), up_n _ (by decide), up_s, up_n _ (by decide)]
  have u23 : U9 55 23 = 0 := by rw [← hN, up_n _ (by decide), up_n _ (by decide), up_n _ (by decide), up_s]
  have u25 : U9 55 25 = 0 := by rw [← hN, up_n _ (by decide), up_n _ (by decide), up_s]
  have u29 : U9 55 29 = 0 := by rw [← hN, up_n _ (by decide), up_s]
  have u30 : U9 55 30 = -1 := by rw [← hN, up_s]
  clear hN
  have uL : fL V U9 := ⟨fun b hb => uF b (by omega) (by omega) (by omega) (by omega) (by omega) (by omega), fun a b h1 _ => uC a b h1⟩
  refine j_iconst hX dX12_load_33 ⟨by decide, by decide⟩ ?_
  refine j_is1 hX dX12_load_34 rfl ?_
  have lp_35 : ∀ (f9 : Nat) (e : Int) (Y : VV), (0 ≤ e ∧ e ≤ 216) → (fr [64] U9 Y) → (∀ j, 0 ≤ j → j < e → Y 64 j = 0) → ((216 - e).toNat) < f9 → J X G 35 [vA 55, vI e, vU] [] Y := by
    intro f9
    induction f9 with
    | zero => intro e Y _ _ _ hm; exact absurd hm (Nat.not_lt_zero _)
    | succ f9 ih_35 =>
      intro e Y he hy hD hm
      refine j_il1 hX dX12_load_35 ?_
      refine j_sipush hX dX12_load_36 (by decide) ⟨by decide, by decide⟩ ?_
      refine j_icmp_ge (tgt := 55) hX dX12_load_39 (by decide) (fun h_39 => ?_) (fun h_39 => ?_)
      · skip
        have e68_Y : Y 68 = V 68 := (funext fun b => hy 68 b (by decide)).trans (funext fun b => uC 68 b (by decide))
        have e24_Y : Y 55 24 = V 55 23 := (hy 55 24 (by decide)).trans u24
        have y25 : Y 55 25 = 0 := (hy 55 25 (by decide)).trans u25
        have y28 : Y 55 28 = V 55 28 := (hy 55 28 (by decide)).trans (uF 28 (by decide) (by decide) (by decide) (by decide) (by decide) (by decide))
        have mt_Y : MTB Y := by unfold MTB; rw [e68_Y, e24_Y]; exact htx
        have y64 : ∀ j, 0 ≤ j → j < 216 → Y 64 j = 0 := fun j a b => hD j a (by omega)
        refine j_al0 hX dX12_load_55 rfl ?_
        refine j_cVV0 (ci := 12) hX hG lk_X12_222 (ok_X12_token mt_Y (by rw [y25, e24_Y]; omega) (by rw [y28]; exact h28)) (by decide) rfl (Nat.le_of_ble_eq_true rfl) (Nat.le_of_ble_eq_true rfl) (Nat.le_of_ble_eq_true rfl) rfl dX12_load_56 (fun V_56 h_56 => ?_)
        obtain ⟨t_56, n_56, f_56, g_56⟩ := h_56
        have e68_V_56 : V_56 68 = V 68 := (funext fun b => g_56 68 b (by decide)).trans e68_Y
        have e24_V_56 : V_56 55 24 = V 55 23 := (f_56 24 (by decide) (by decide) (by decide) (by decide)).trans e24_Y
        have mt_V_56 : MTB V_56 := by unfold MTB; rw [e68_V_56, e24_V_56]; exact htx
        rw [e68_Y, e24_Y, y25] at t_56
        have s_56 : STA V_56 ((.ok (sgS (V 68) (V 55 23) 0)) : PR Int) := ⟨t_56, n_56, (f_56 29 (by decide) (by decide) (by decide) (by decide)).trans ((hy 55 29 (by decide)).trans u29), (f_56 30 (by decide) (by decide) (by decide) (by decide)).trans ((hy 55 30 (by decide)).trans u30)⟩
        have L0 : fL V V_56 := fL_t uL ⟨fun b hb => (f_56 b (by omega) (by omega) (by omega) (by omega)).trans (hy 55 b (by decide)), fun a b h1 h2 => (g_56 a b h1).trans (hy a b (by simp; omega))⟩
        refine j_al0 hX dX12_load_59 rfl ?_
        refine j_cVV0 (ci := 12) hX hG lk_X12_275 (ok_X12_group mt_V_56 s_56 (by rw [f_56 10 (by decide) (by decide) (by decide) (by decide), hy 55 10 (by decide), uF 10 (by decide) (by decide) (by decide) (by decide) (by decide) (by decide)]; exact hg10)) (by decide) rfl (Nat.le_of_ble_eq_true rfl) (Nat.le_of_ble_eq_true rfl) (Nat.le_of_ble_eq_true rfl) rfl dX12_load_60 (fun V_60 h_60 => ?_)
        obtain ⟨s_60x, g10_60, k_60, f_60⟩ := h_60
        rw [e68_V_56, e24_V_56] at s_60x k_60
        have s_60 : STA V_60 (Except.map Prod.snd (pGroup (V 68) (V 55 23) (sgS (V 68) (V 55 23) 0))) := s_60x
        have e68_V_60 : V_60 68 = V 68 := (funext fun b => f_60.2 68 b (by decide) (by decide)).trans e68_V_56
        have e24_V_60 : V_60 55 24 = V 55 23 := (f_60.1 24 (by decide)).trans e24_V_56
        have mt_V_60 : MTB V_60 := by unfold MTB; rw [e68_V_60, e24_V_60]; exact htx
        have L1 := fL_t L0 (fL_G f_60)
        refine j_al0 hX dX12_load_63 rfl ?_
        refine j_ldcSw (k := 16) hX dX12_load_64 rfl ?_
        refine j_cVV1 (ci := 12) hX hG lk_X12_261 (ok_X12_must mt_V_60 s_60 (by first | assumption | rfl)) (by decide) rfl (Nat.le_of_ble_eq_true rfl) (Nat.le_of_ble_eq_true rfl) (Nat.le_of_ble_eq_true rfl) rfl dX12_load_67 (fun V_67 h_67 => ?_)
        obtain ⟨s_67, f_67⟩ := h_67
        rw [e68_V_60, e24_V_60] at s_67
        have e68_V_67 : V_67 68 = V 68 := (funext fun b => f_67.2 68 b (by decide)).trans e68_V_60
        have e24_V_67 : V_67 55 24 = V 55 23 := (f_67.1 24 (by decide)).trans e24_V_60
        have mt_V_67 : MTB V_67 := by unfold MTB; rw [e68_V_67, e24_V_67]; exact htx
        have L2 := fL_t L1 (fL_T f_67)
        refine j_al0 hX dX12_load_70 rfl ?_
        refine j_al0 hX dX12_load_71 rfl ?_
        refine j_iconst hX dX12_load_72 ⟨by decide, by decide⟩ ?_
        refine j_iconst hX dX12_load_73 ⟨by decide, by decide⟩ ?_
        refine j_cVI2 (ci := 12) hX hG lk_X12_247 (ok_X12_figure mt_V_67 s_67) (by decide) rfl (Nat.le_of_ble_eq_true rfl) (Nat.le_of_ble_eq_true rfl) (Nat.le_of_ble_eq_true rfl) rfl dX12_load_74 (fun x_74 V_74 h_74 => ?_)
        obtain ⟨b_74, v_74, s_74, f_74⟩ := h_74
        rw [e68_V_67, e24_V_67] at s_74 v_74
        have e68_V_74 : V_74 68 = V 68 := (funext fun b => f_74.2 68 b (by decide)).trans e68_V_67
        have e24_V_74 : V_74 55 24 = V 55 23 := (f_74.1 24 (by decide)).trans e24_V_67
        have mt_V_74 : MTB V_74 := by unfold MTB; rw [e68_V_74, e24_V_74]; exact htx
        have L3 := fL_t L2 (fL_T f_74)
        have b74 := b_74 (by decide)
        refine j_putI hX hG fp_X12_113 rfl (by decide) dX12_load_77 ?_
        generalize hN : up V_74 55 11 x_74 = N
        have n11 : N 55 11 = x_74 := by rw [← hN, up_s]
        have nF : ∀ b, b ≠ 11 → N 55 b = V_74 55 b := fun b hb => by rw [← hN, up_n _ (by omega)]
        have nC : ∀ a b, a ≠ 55 → N a b = V_74 a b := fun a b ha => by rw [← hN, up_n _ (by omega)]
        clear hN
        have n68 : N 68 = V 68 := (funext fun b => nC 68 b (by decide)).trans e68_V_74
        have n24 : N 55 24 = V 55 23 := (nF 24 (by decide)).trans e24_V_74
        have mt_N : MTB N := by unfold MTB; rw [n68, n24]; exact htx
        have s_N := STA.c s_74 (W := N) (fun b h1 h2 => nF b (by omega)) (funext fun b => nC 68 b (by decide))
        have LN := fL_t L3 (show fL V_74 N from ⟨fun b hb => nF b (by omega), fun a b h1 _ => nC a b h1⟩)
        refine j_al0 hX dX12_load_80 rfl ?_
        refine j_cVV0 (ci := 12) hX hG lk_X12_250 (ok_X12_ends mt_N s_N) (by decide) rfl (Nat.le_of_ble_eq_true rfl) (Nat.le_of_ble_eq_true rfl) (Nat.le_of_ble_eq_true rfl) rfl dX12_load_81 (fun V_81 h_81 => ?_)
        obtain ⟨s_81x, f_81⟩ := h_81
        rw [n68, n24] at s_81x
        have s_81 : STA V_81 (r2F (V 68) (V 55 23) (pGroup (V 68) (V 55 23) (sgS (V 68) (V 55 23) 0))) := s_81x
        have e68_V_81 : V_81 68 = V 68 := (funext fun b => f_81.2 68 b (by decide)).trans n68
        have e24_V_81 : V_81 55 24 = V 55 23 := (f_81.1 24 (by decide)).trans n24
        have mt_V_81 : MTB V_81 := by unfold MTB; rw [e68_V_81, e24_V_81]; exact htx
        have L4 := fL_t LN (fL_T f_81)
        have g81 : V_81 55 10 = V_60 55 10 := (f_81.1 10 (by decide)).trans ((nF 10 (by decide)).trans ((f_74.1 10 (by decide)).trans (f_67.1 10 (by decide))))
        have w81 : V_81 55 11 = x_74 := (f_81.1 11 (by decide)).trans n11
        have t81 : ∀ b, V_81 60 b = V_60 60 b := fun b => (f_81.2 60 b (by decide)).trans ((nC 60 b (by decide)).trans ((f_74.2 60 b (by decide)).trans (f_67.2 60 b (by decide))))
        have hg8 : 2 ≤ V_81 55 10 ∧ V_81 55 10 ≤ 6 := by rw [g81]; exact g10_60
        have hw8 : V_81 55 11 = 2 ∨ V_81 55 11 = 3 := by omega
        refine j_al0 hX dX12_load_84 rfl ?_
        refine j_cVV0 (ci := 12) hX hG lk_X12_280 (ok_X12_terms mt_V_81 s_81 hg8 hw8) (by decide) rfl (Nat.le_of_ble_eq_true rfl) (Nat.le_of_ble_eq_true rfl) (Nat.le_of_ble_eq_true rfl) rfl dX12_load_85 (fun V_85 h_85 => ?_)
        obtain ⟨s_85x, k_85, f_85⟩ := h_85
        rw [e68_V_81, e24_V_81] at s_85x k_85
        have s_85 : STA V_85 (Except.map Prod.snd (tmF (V 68) (V 55 23) (V_81 55 10) (V_81 55 11) (r2F (V 68) (V 55 23) (pGroup (V 68) (V 55 23) (sgS (V 68) (V 55 23) 0))))) := s_85x
        have e68_V_85 : V_85 68 = V 68 := (funext fun b => f_85.2 68 b (by decide) (by decide)).trans e68_V_81
        have e24_V_85 : V_85 55 24 = V 55 23 := (f_85.1 24 (by decide)).trans e24_V_81
        have mt_V_85 : MTB V_85 := by unfold MTB; rw [e68_V_85, e24_V_85]; exact htx
        have L5 := fL_t L4 (fL_M f_85)
        have l10 : V_85 55 10 = V_81 55 10 := f_85.1 10 (by decide)
        have l11 : V_85 55 11 = V_81 55 11 := f_85.1 11 (by decide)
        have gg8 := all_b hg8 hw8
        have hOK : V_85 55 29 = 0 → ∃ s3, (tmF (V 68) (V 55 23) (V_81 55 10) (V_81 55 11) (r2F (V 68) (V 55 23) (pGroup (V 68) (V 55 23) (sgS (V 68) (V 55 23) 0)))) = .ok ((okd (tmF (V 68) (V 55 23) (V_81 55 10) (V_81 55 11) (r2F (V 68) (V 55 23) (pGroup (V 68) (V 55 23) (sgS (V 68) (V 55 23) 0))))), s3) ∧ ((okq (pGroup (V 68) (V 55 23) (sgS (V 68) (V 55 23) 0))) < 7 ∧ V_81 55 10 = gO (okq (pGroup (V 68) (V 55 23) (sgS (V 68) (V 55 23) 0)))) ∧ (∀ a b : Int, 0 ≤ a → a < gO (okq (pGroup (V 68) (V 55 23) (sgS (V 68) (V 55 23) 0))) → 0 ≤ b → b < gO (okq (pGroup (V 68) (V 55 23) (sgS (V 68) (V 55 23) 0))) → V_85 60 (gO (okq (pGroup (V 68) (V 55 23) (sgS (V 68) (V 55 23) 0))) * a + b) = gM (okq (pGroup (V 68) (V 55 23) (sgS (V 68) (V 55 23) 0))) a b) ∧ TMS V_85 (V_81 55 10) (V_81 55 11) (okd (tmF (V 68) (V 55 23) (V_81 55 10) (V_81 55 11) (r2F (V 68) (V 55 23) (pGroup (V 68) (V 55 23) (sgS (V 68) (V 55 23) 0))))) ∧ ((okd (tmF (V 68) (V 55 23) (V_81 55 10) (V_81 55 11) (r2F (V 68) (V 55 23) (pGroup (V 68) (V 55 23) (sgS (V 68) (V 55 23) 0)))))).length ≤ 8 := fun q => by
          obtain ⟨s3, h3⟩ := ld_ok s_85 q
          obtain ⟨s2, e2⟩ := ld_g h3
          have kq := k_60 _ _ _ rfl e2
          exact ⟨s3, h3, ⟨kq.1, g81.trans kq.2.1⟩, fun a b a0 a1 b0 b1 => ((f_85.2 60 _ (by decide) (by decide)).trans (t81 _)).trans (kq.2.2 a b a0 a1 b0 b1), k_85 _ _ h3, ld_8 h3⟩
        have jn_113 : ∀ (z : Int), (z = if V_81 55 11 = 2 then 1 else V_81 55 10) → J X G 113 [vA 55, vU, vU] [vI z, vI (V_81 55 10 * V_81 55 10)] V_85 := by
          intro z hz
          refine j_imul hX dX12_load_113 (by rw [hz]; omega) ?_
          refine j_eqS (st' := [vI (V_81 55 10 * V_81 55 10 * (if V_81 55 11 = 2 then 1 else V_81 55 10))]) (by rw [hz]) ?_
          refine j_is1 hX dX12_load_114 rfl ?_
          refine j_iconst hX dX12_load_115 ⟨by decide, by decide⟩ ?_
          refine j_is2 hX dX12_load_116 rfl ?_
          have lp_117 : ∀ (f9 : Nat) (i : Int) (W : VV), (0 ≤ i ∧ i ≤ (V_81 55 10 * V_81 55 10 * (if V_81 55 11 = 2 then 1 else V_81 55 10))) → (fr [61] V_85 W) → (V_85 55 29 = 0 → ∀ j, 0 ≤ j → j < i → W 61 j = tabF (okq (pGroup (V 68) (V 55 23) (sgS (V 68) (V 55 23) 0))) (V_81 55 11) 0 (okd (tmF (V 68) (V 55 23) (V_81 55 10) (V_81 55 11) (r2F (V 68) (V 55 23) (pGroup (V 68) (V 55 23) (sgS (V 68) (V 55 23) 0))))) j) → (((V_81 55 10 * V_81 55 10 * (if V_81 55 11 = 2 then 1 else V_81 55 10)) - i).toNat) < f9 → J X G 117 [vA 55, vI (V_81 55 10 * V_81 55 10 * (if V_81 55 11 = 2 then 1 else V_81 55 10)), vI i] [] W := by
            intro f9
            induction f9 with
            | zero => intro i W _ _ _ hm; exact absurd hm (Nat.not_lt_zero _)
            | succ f9 ih_117 =>
              intro i W hi hw hT8 hm
              refine j_il2 hX dX12_load_117 ?_
              refine j_il1 hX dX12_load_118 ?_
              refine j_icmp_ge (tgt := 146) hX dX12_load_119 (by decide) (fun h_119 => ?_) (fun h_119 => ?_)
              · skip
                have e68_W : W 68 = V 68 := (funext fun b => hw 68 b (by decide)).trans e68_V_85
                have e24_W : W 55 24 = V 55 23 := (hw 55 24 (by decide)).trans e24_V_85
                have mt_W : MTB W := by unfold MTB; rw [e68_W, e24_W]; exact htx
                have w10 : W 55 10 = V_81 55 10 := (hw 55 10 (by decide)).trans l10
                have w11 : W 55 11 = V_81 55 11 := (hw 55 11 (by decide)).trans l11
                have L6 := fL_t L5 (show fL V_85 W from ⟨fun b _ => hw 55 b (by decide), fun a b h1 h2 => hw a b (by simp; omega)⟩)
                have w64 : ∀ e, 0 ≤ e → e < 216 → W 64 e = 0 := fun e h0 h1 => (hw 64 e (by decide)).trans ((f_85.2 64 e (by decide) (by decide)).trans ((f_81.2 64 e (by decide)).trans ((nC 64 e (by decide)).trans ((f_74.2 64 e (by decide)).trans ((f_67.2 64 e (by decide)).trans ((f_60.2 64 e (by decide) (by decide)).trans ((g_56 64 e (by decide)).trans (y64 e h0 h1))))))))
                have s_W := STA.c s_85 (W := W) (fun b _ _ => hw 55 b (by decide)) (funext fun b => hw 68 b (by decide))
                have hTW : V_85 55 29 = 0 → ∀ j, 0 ≤ j → j < (V_81 55 10 * V_81 55 10 * (if V_81 55 11 = 2 then 1 else V_81 55 10)) → W 61 j = tabF (okq (pGroup (V 68) (V 55 23) (sgS (V 68) (V 55 23) 0))) (V_81 55 11) 0 (okd (tmF (V 68) (V 55 23) (V_81 55 10) (V_81 55 11) (r2F (V 68) (V 55 23) (pGroup (V 68) (V 55 23) (sgS (V 68) (V 55 23) 0))))) j := fun q j j0 j1 => by
                  first
                  | exact hT8 q j j0 (by omega)
                  | exact absurd ((hw 55 29 (by decide)).trans q) h_126
                refine j_al0 hX dX12_load_146 rfl ?_
                refine j_cVV0 (ci := 12) hX hG lk_X12_285 (ok_X12_cases mt_W s_W (by rw [w10]; exact hg8) (by rw [w11]; exact hw8) w64) (by decide) rfl (Nat.le_of_ble_eq_true rfl) (Nat.le_of_ble_eq_true rfl) (Nat.le_of_ble_eq_true rfl) rfl dX12_load_147 (fun V_147 h_147 => ?_)
                obtain ⟨s_147, k_147, f_147⟩ := h_147
                rw [e68_W, e24_W, w10, w11] at s_147 k_147
                have e68_V_147 : V_147 68 = V 68 := (funext fun b => f_147.2 68 b (by decide) (by decide) (by decide)).trans e68_W
                have e24_V_147 : V_147 55 24 = V 55 23 := (f_147.1 24 (by decide)).trans e24_W
                have mt_V_147 : MTB V_147 := by unfold MTB; rw [e68_V_147, e24_V_147]; exact htx
                have L7 := fL_t L6 (fL_C f_147)
                have c10 : V_147 55 10 = V_81 55 10 := (f_147.1 10 (by decide)).trans w10
                refine j_al0 hX dX12_load_150 rfl ?_
                refine j_cVV0 (ci := 12) hX hG lk_X12_288 (ok_X12_ring mt_V_147 s_147 (by rw [c10]; exact hg8)) (by decide) rfl (Nat.le_of_ble_eq_true rfl) (Nat.le_of_ble_eq_true rfl) (Nat.le_of_ble_eq_true rfl) rfl dX12_load_151 (fun V_151 h_151 => ?_)
                obtain ⟨s_151x, k_151, f_151⟩ := h_151
                rw [e68_V_147, e24_V_147, c10] at s_151x k_151
                have s_151 : STA V_151 (Except.map Prod.snd (rgF (V 68) (V 55 23) (V_81 55 10) (Except.map Prod.snd (TOTC (V 68) (V 55 23) (V_81 55 10) (V_81 55 11) (Except.map Prod.snd (tmF (V 68) (V 55 23) (V_81 55 10) (V_81 55 11) (r2F (V 68) (V 55 23) (pGroup (V 68) (V 55 23) (sgS (V 68) (V 55 23) 0))))) [])))) := s_151x
                have e68_V_151 : V_151 68 = V 68 := (funext fun b => f_151.2 68 b (by decide) (by decide)).trans e68_V_147
                have e24_V_151 : V_151 55 24 = V 55 23 := (f_151.1 24 (by decide)).trans e24_V_147
                have mt_V_151 : MTB V_151 := by unfold MTB; rw [e68_V_151, e24_V_151]; exact htx
                have L8 := fL_t L7 (fL_R f_151)
                have jn_173 : ∀ (Z : VV), (STA Z (r6F (V 68) (V 55 23) (V_81 55 10) (V_81 55 11) (r2F (V 68) (V 55 23) (pGroup (V 68) (V 55 23) (sgS (V 68) (V 55 23) 0))))) → (fT V_151 Z) → J X G 173 [vA 55, vI (V_81 55 10 * V_81 55 10 * (if V_81 55 11 = 2 then 1 else V_81 55 10)), vU] [] Z := by
                  intro Z sZ fZ
                  have L9 := fL_t L8 (fL_T fZ)
                  have z0 : Z 55 0 = 0 := (fZ.1 0 (by decide)).trans ((f_151.1 0 (by decide)).trans ((f_147.1 0 (by decide)).trans ((hw 55 0 (by decide)).trans ((f_85.1 0 (by decide)).trans ((f_81.1 0 (by decide)).trans ((nF 0 (by decide)).trans ((f_74.1 0 (by decide)).trans ((f_67.1 0 (by decide)).trans ((f_60.1 0 (by decide)).trans ((f_56 0 (by decide) (by decide) (by decide) (by decide)).trans ((hy 55 0 (by decide)).trans u0)))))))))))
                  have z23 : Z 55 23 = 0 := (fZ.1 23 (by decide)).trans ((f_151.1 23 (by decide)).trans ((f_147.1 23 (by decide)).trans ((hw 55 23 (by decide)).trans ((f_85.1 23 (by decide)).trans ((f_81.1 23 (by decide)).trans ((nF 23 (by decide)).trans ((f_74.1 23 (by decide)).trans ((f_67.1 23 (by decide)).trans ((f_60.1 23 (by decide)).trans ((f_56 23 (by decide) (by decide) (by decide) (by decide)).trans ((hy 55 23 (by decide)).trans u23)))))))))))
                  have z10 : Z 55 10 = V_81 55 10 := (fZ.1 10 (by decide)).trans ((f_151.1 10 (by decide)).trans c10)
                  have z68 : ∀ b, Z 68 b = V 68 b := fun b => (fZ.2 68 b (by decide)).trans (congrFun e68_V_151 b)
                  have z28 := sZ.b28
                  refine j_al0 hX dX12_load_173 rfl ?_
                  have jn_186 : ∀ (z : Int), (z = if Z 55 29 = 0 then 1 else 0) → J X G 186 [vA 55, vI (V_81 55 10 * V_81 55 10 * (if V_81 55 11 = 2 then 1 else V_81 55 10)), vU] [vI z, vA 55] Z := by
                    intro z hz9
                    refine j_iconst hX dX12_load_186 ⟨by decide, by decide⟩ ?_
                    refine j_cVI2 (ci := 12) hX hG lk_X12_168 (ok_X12_may z0 (by decide)) (by decide) rfl (Nat.le_of_ble_eq_true rfl) (Nat.le_of_ble_eq_true rfl) (Nat.le_of_ble_eq_true rfl) rfl dX12_load_187 (fun x_187 V_187 h_187 => ?_)
                    skip
                    refine j_if_ne (tgt := 195) hX dX12_load_190 (by decide) (fun h_190 => ?_) (fun h_190 => ?_)
                    · skip
                      obtain ⟨c_187, -, w_187⟩ := h_187.elim id (fun q => absurd q.2.1 (by omega))
                      have w2_187 := w_187.symm
                      subst w2_187
                      have c29 : Z 55 29 = 0 := Classical.byContradiction fun q => c_187 (by rw [hz9, if_neg q])
                      obtain ⟨s6, h6⟩ := ld_6 sZ c29
                      have w29 : V_85 55 29 = 0 := ld_85 s_85 h6
                      obtain ⟨s3, h3, kq, kt, km, kl⟩ := hOK w29
                      obtain ⟨cs, s4, xs, s5, hcs, hxs, hpa⟩ := ld_all h6 h3 kq.2 (fun s e => w81.trans (v_74 s e.1 e.2))
                      have krg := k_151 _ _ hxs
                      have kcs := k_147 _ _ hcs
                      have zt : ∀ a b : Int, 0 ≤ a → a < gO (okq (pGroup (V 68) (V 55 23) (sgS (V 68) (V 55 23) 0))) → 0 ≤ b → b < gO (okq (pGroup (V 68) (V 55 23) (sgS (V 68) (V 55 23) 0))) → Z 60 (gO (okq (pGroup (V 68) (V 55 23) (sgS (V 68) (V 55 23) 0))) * a + b) = gM (okq (pGroup (V 68) (V 55 23) (sgS (V 68) (V 55 23) 0))) a b := fun a b a0 a1 b0 b1 => ((fZ.2 60 _ (by decide)).trans ((f_151.2 60 _ (by decide) (by decide)).trans ((f_147.2 60 _ (by decide) (by decide) (by decide)).trans (hw 60 _ (by decide))))).trans (kt a b a0 a1 b0 b1)
                      have z12 : Z 55 12 = xs.length := (fZ.1 12 (by decide)).trans krg.1.1
                      have z11 : Z 55 11 = V_81 55 11 := (fZ.1 11 (by decide)).trans ((f_151.1 11 (by decide)).trans ((f_147.1 11 (by decide)).trans w11))
                      refine j_al0 hX dX12_load_195 rfl ?_
                      refine j_cVV0 (ci := 12) hX hG lk_X12_123 (ok_X12_takes kq.1 (z10.trans kq.2) zt (by rw [z11]; exact hw8) (by rw [z12]; omega)) (by decide) rfl (Nat.le_of_ble_eq_true rfl) (Nat.le_of_ble_eq_true rfl) (Nat.le_of_ble_eq_true rfl) rfl dX12_load_196 (fun V_196 h_196 => ?_)
                      obtain ⟨a1, a2, a3, a4, a5, a6, a7, a8, a9⟩ := h_196
                      refine j_al0 hX dX12_load_199 rfl ?_
                      refine j_getI hX hG fl_X12_142 (Or.inl rfl) (by decide) dX12_load_200 ?_
                      exact j_retI hR dX12_load_203 (by
      refine ⟨Or.inl ⟨rfl, (a8 0 (Or.inl rfl)).trans z0, _, hpa, a1, a2, ?_, fun e e0 e1 => ?_, a4.trans z12, by rw [a4, z12]; omega, fun k k0 k1 => ?_, (a8 29 (by omega)).trans c29, (a8 30 (by omega)).trans (ld_30 sZ c29), a7⟩, (a8 23 (by omega)).trans z23, by rw [a8 10 (by omega), z10]; exact hg8, by rw [a8 28 (by omega)]; exact z28, fun b => (a9 68 b (by decide)).trans (z68 b)⟩
      · exact a3.trans z11
      · have en : V_196 55 3 = (V_81 55 10 * V_81 55 10 * (if V_81 55 11 = 2 then 1 else V_81 55 10)) := ld_n a2 (a3.trans z11) (a1.2.1.trans kq.2.symm)
        rw [a5 e e0 e1, fZ.2 61 e (by decide), f_151.2 61 e (by decide) (by decide), kcs e]
        exact casT_cm (hTW w29) e e0 (by rw [← en]; exact e1)
      · rw [a4] at k1
        rw [a6 k k0 k1, fZ.2 62 k (by decide)]
        exact rgs_g krg.1 k0 (by rw [z12] at k1; exact k1))
                    · skip
                      refine j_iconst hX dX12_load_193 ⟨by decide, by decide⟩ ?_
                      exact j_retI hR dX12_load_194 (by
      obtain ⟨c_187, -, w_187⟩ := h_187.elim (fun q => absurd q.2.1 (by omega)) id
      have c29 : Z 55 29 ≠ 0 := fun q => by rw [hz9, if_pos q] at c_187; exact absurd c_187 (by decide)
      obtain ⟨e9, h9, hw9⟩ := sZ.er c29
      rw [w_187]
      refine ⟨Or.inr ⟨rfl, up_s .., ⟨e9, ld_er h9 (fun s q s2 _ e => g81.trans (k_60 _ q s2 rfl e).2.1) (fun s e => w81.trans (v_74 s e.1 e.2)), (up_n _ (by decide)).trans hw9.2.2.1, (up_n _ (by decide)).trans hw9.2.2.2.1⟩, fL_t L9 (show fL Z _ from ⟨fun b hb => up_n _ (by omega), fun a b h1 _ => up_n _ (by omega)⟩)⟩, (up_n _ (by decide)).trans z23, by rw [up_n _ (by decide), z10]; exact hg8, by rw [up_n _ (by decide)]; exact z28, fun b => (up_n _ (by omega)).trans (z68 b)⟩)
                  refine j_al0 hX dX12_load_174 rfl ?_
                  refine j_pVI0 (ci := 12) hX hG lk_X12_204 (ok_X12_isWrong ) (by decide) rfl (Nat.le_of_ble_eq_true rfl) (Nat.le_of_ble_eq_true rfl) (Nat.le_of_ble_eq_true rfl) rfl dX12_load_175 ?_
                  refine j_ifz_ne (tgt := 185) hX dX12_load_178 (by decide) (fun h_178 => ?_) (fun h_178 => ?_)
                  · skip
                    refine j_iconst hX dX12_load_185 ⟨by decide, by decide⟩ ?_
                    exact jn_186 _ (by first | exact (if_pos (Classical.byContradiction h_178)).symm | exact (if_neg h_178).symm)
                  · skip
                    refine j_iconst hX dX12_load_181 ⟨by decide, by decide⟩ ?_
                    refine j_goto (tgt := 186) hX dX12_load_182 (by decide) ?_
                    exact jn_186 _ (by first | exact (if_pos (Classical.byContradiction h_178)).symm | exact (if_neg h_178).symm)
                refine j_al0 hX dX12_load_154 rfl ?_
                refine j_pVI0 (ci := 12) hX hG lk_X12_204 (ok_X12_isWrong ) (by decide) rfl (Nat.le_of_ble_eq_true rfl) (Nat.le_of_ble_eq_true rfl) (Nat.le_of_ble_eq_true rfl) rfl dX12_load_155 ?_
                refine j_ifz_ne (tgt := 173) hX dX12_load_158 (by decide) (fun h_158 => ?_) (fun h_158 => ?_)
                · skip
                  refine j_fg2 ?_
                  exact jn_173 _ (by first | exact s_151.w h_158 _ | exact pe_n s_151 e68_V_151 e24_V_151 h_165 | exact pe_y s_151 e68_V_151 e24_V_151 (Classical.byContradiction h_158) h_165 s_170) (by first | exact fT_0 | exact f_170)
                · skip
                  refine j_al0 hX dX12_load_161 rfl ?_
                  refine j_getI hX hG fl_X12_188 (Or.inl rfl) (by decide) dX12_load_162 ?_
                  refine j_if_eq (tgt := 173) hX dX12_load_165 (by decide) (fun h_165 => ?_) (fun h_165 => ?_)
                  · skip
                    refine j_fg2 ?_
                    exact jn_173 _ (by first | exact s_151.w h_158 _ | exact pe_n s_151 e68_V_151 e24_V_151 h_165 | exact pe_y s_151 e68_V_151 e24_V_151 (Classical.byContradiction h_158) h_165 s_170) (by first | exact fT_0 | exact f_170)
                  · skip
                    refine j_al0 hX dX12_load_168 rfl ?_
                    refine j_iconst hX dX12_load_169 ⟨by decide, by decide⟩ ?_
                    refine j_cVV1 (ci := 12) hX hG lk_X12_228 (ok_X12_fails s_151 (by decide)) (by decide) rfl (Nat.le_of_ble_eq_true rfl) (Nat.le_of_ble_eq_true rfl) (Nat.le_of_ble_eq_true rfl) rfl dX12_load_170 (fun V_170 h_170 => ?_)
                    obtain ⟨s_170, f_170⟩ := h_170
                    refine j_fg2 ?_
                    exact jn_173 _ (by first | exact s_151.w h_158 _ | exact pe_n s_151 e68_V_151 e24_V_151 h_165 | exact pe_y s_151 e68_V_151 e24_V_151 (Classical.byContradiction h_158) h_165 s_170) (by first | exact fT_0 | exact f_170)
              · skip
                refine j_al0 hX dX12_load_122 rfl ?_
                refine j_pVI0 (ci := 12) hX hG lk_X12_204 (ok_X12_isWrong ) (by decide) rfl (Nat.le_of_ble_eq_true rfl) (Nat.le_of_ble_eq_true rfl) (Nat.le_of_ble_eq_true rfl) rfl dX12_load_123 ?_
                refine j_ifz_ne (tgt := 146) hX dX12_load_126 (by decide) (fun h_126 => ?_) (fun h_126 => ?_)
                · skip
                  have e68_W : W 68 = V 68 := (funext fun b => hw 68 b (by decide)).trans e68_V_85
                  have e24_W : W 55 24 = V 55 23 := (hw 55 24 (by decide)).trans e24_V_85
                  have mt_W : MTB W := by unfold MTB; rw [e68_W, e24_W]; exact htx
                  have w10 : W 55 10 = V_81 55 10 := (hw 55 10 (by decide)).trans l10
                  have w11 : W 55 11 = V_81 55 11 := (hw 55 11 (by decide)).trans l11
                  have L6 := fL_t L5 (show fL V_85 W from ⟨fun b _ => hw 55 b (by decide), fun a b h1 h2 => hw a b (by simp; omega)⟩)
                  have w64 : ∀ e, 0 ≤ e → e < 216 → W 64 e = 0 := fun e h0 h1 => (hw 64 e (by decide)).trans ((f_85.2 64 e (by decide) (by decide)).trans ((f_81.2 64 e (by decide)).trans ((nC 64 e (by decide)).trans ((f_74.2 64 e (by decide)).trans ((f_67.2 64 e (by decide)).trans ((f_60.2 64 e (by decide) (by decide)).trans ((g_56 64 e (by decide)).trans (y64 e h0 h1))))))))
                  have s_W := STA.c s_85 (W := W) (fun b _ _ => hw 55 b (by decide)) (funext fun b => hw 68 b (by decide))
                  have hTW : V_85 55 29 = 0 → ∀ j, 0 ≤ j → j < (V_81 55 10 * V_81 55 10 * (if V_81 55 11 = 2 then 1 else V_81 55 10)) → W 61 j = tabF (okq (pGroup (V 68) (V 55 23) (sgS (V 68) (V 55 23) 0))) (V_81 55 11) 0 (okd (tmF (V 68) (V 55 23) (V_81 55 10) (V_81 55 11) (r2F (V 68) (V 55 23) (pGroup (V 68) (V 55 23) (sgS (V 68) (V 55 23) 0))))) j := fun q j j0 j1 => by
                    first
                    | exact hT8 q j j0 (by omega)
                    | exact absurd ((hw 55 29 (by decide)).trans q) h_126
                  refine j_al0 hX dX12_load_146 rfl ?_
                  refine j_cVV0 (ci := 12) hX hG lk_X12_285 (ok_X12_cases mt_W s_W (by rw [w10]; exact hg8) (by rw [w11]; exact hw8) w64) (by decide) rfl (Nat.le_of_ble_eq_true rfl) (Nat.le_of_ble_eq_true rfl) (Nat.le_of_ble_eq_true rfl) rfl dX12_load_147 (fun V_147 h_147 => ?_)
                  obtain ⟨s_147, k_147, f_147⟩ := h_147
                  rw [e68_W, e24_W, w10, w11] at s_147 k_147
                  have e68_V_147 : V_147 68 = V 68 := (funext fun b => f_147.2 68 b (by decide) (by decide) (by decide)).trans e68_W
                  have e24_V_147 : V_147 55 24 = V 55 23 := (f_147.1 24 (by decide)).trans e24_W
                  have mt_V_147 : MTB V_147 := by unfold MTB; rw [e68_V_147, e24_V_147]; exact htx
                  have L7 := fL_t L6 (fL_C f_147)
                  have c10 : V_147 55 10 = V_81 55 10 := (f_147.1 10 (by decide)).trans w10
                  refine j_al0 hX dX12_load_150 rfl ?_
                  refine j_cVV0 (ci := 12) hX hG lk_X12_288 (ok_X12_ring mt_V_147 s_147 (by rw [c10]; exact hg8)) (by decide) rfl (Nat.le_of_ble_eq_true rfl) (Nat.le_of_ble_eq_true rfl) (Nat.le_of_ble_eq_true rfl) rfl dX12_load_151 (fun V_151 h_151 => ?_)
                  obtain ⟨s_151x, k_151, f_151⟩ := h_151
                  rw [e68_V_147, e24_V_147, c10] at s_151x k_151
                  have s_151 : STA V_151 (Except.map Prod.snd (rgF (V 68) (V 55 23) (V_81 55 10) (Except.map Prod.snd (TOTC (V 68) (V 55 23) (V_81 55 10) (V_81 55 11) (Except.map Prod.snd (tmF (V 68) (V 55 23) (V_81 55 10) (V_81 55 11) (r2F (V 68) (V 55 23) (pGroup (V 68) (V 55 23) (sgS (V 68) (V 55 23) 0))))) [])))) := s_151x
                  have e68_V_151 : V_151 68 = V 68 := (funext fun b => f_151.2 68 b (by decide) (by decide)).trans e68_V_147
                  have e24_V_151 : V_151 55 24 = V 55 23 := (f_151.1 24 (by decide)).trans e24_V_147
                  have mt_V_151 : MTB V_151 := by unfold MTB; rw [e68_V_151, e24_V_151]; exact htx
                  have L8 := fL_t L7 (fL_R f_151)
                  have jn_173 : ∀ (Z : VV), (STA Z (r6F (V 68) (V 55 23) (V_81 55 10) (V_81 55 11) (r2F (V 68) (V 55 23) (pGroup (V 68) (V 55 23) (sgS (V 68) (V 55 23) 0))))) → (fT V_151 Z) → J X G 173 [vA 55, vI (V_81 55 10 * V_81 55 10 * (if V_81 55 11 = 2 then 1 else V_81 55 10)), vU] [] Z := by
                    intro Z sZ fZ
                    have L9 := fL_t L8 (fL_T fZ)
                    have z0 : Z 55 0 = 0 := (fZ.1 0 (by decide)).trans ((f_151.1 0 (by decide)).trans ((f_147.1 0 (by decide)).trans ((hw 55 0 (by decide)).trans ((f_85.1 0 (by decide)).trans ((f_81.1 0 (by decide)).trans ((nF 0 (by decide)).trans ((f_74.1 0 (by decide)).trans ((f_67.1 0 (by decide)).trans ((f_60.1 0 (by decide)).trans ((f_56 0 (by decide) (by decide) (by decide) (by decide)).trans ((hy 55 0 (by decide)).trans u0)))))))))))
                    have z23 : Z 55 23 = 0 := (fZ.1 23 (by decide)).trans ((f_151.1 23 (by decide)).trans ((f_147.1 23 (by decide)).trans ((hw 55 23 (by decide)).trans ((f_85.1 23 (by decide)).trans ((f_81.1 23 (by decide)).trans ((nF 23 (by decide)).trans ((f_74.1 23 (by decide)).trans ((f_67.1 23 (by decide)).trans ((f_60.1 23 (by decide)).trans ((f_56 23 (by decide) (by decide) (by decide) (by decide)).trans ((hy 55 23 (by decide)).trans u23)))))))))))
                    have z10 : Z 55 10 = V_81 55 10 := (fZ.1 10 (by decide)).trans ((f_151.1 10 (by decide)).trans c10)
                    have z68 : ∀ b, Z 68 b = V 68 b := fun b => (fZ.2 68 b (by decide)).trans (congrFun e68_V_151 b)
                    have z28 := sZ.b28
                    refine j_al0 hX dX12_load_173 rfl ?_
                    have jn_186 : ∀ (z : Int), (z = if Z 55 29 = 0 then 1 else 0) → J X G 186 [vA 55, vI (V_81 55 10 * V_81 55 10 * (if V_81 55 11 = 2 then 1 else V_81 55 10)), vU] [vI z, vA 55] Z := by
                      intro z hz9
                      refine j_iconst hX dX12_load_186 ⟨by decide, by decide⟩ ?_
                      refine j_cVI2 (ci := 12) hX hG lk_X12_168 (ok_X12_may z0 (by decide)) (by decide) rfl (Nat.le_of_ble_eq_true rfl) (Nat.le_of_ble_eq_true rfl) (Nat.le_of_ble_eq_true rfl) rfl dX12_load_187 (fun x_187 V_187 h_187 => ?_)
                      skip
                      refine j_if_ne (tgt := 195) hX dX12_load_190 (by decide) (fun h_190 => ?_) (fun h_190 => ?_)
                      · skip
                        obtain ⟨c_187, -, w_187⟩ := h_187.elim id (fun q => absurd q.2.1 (by omega))
                        have w2_187 := w_187.symm
                        subst w2_187
                        have c29 : Z 55 29 = 0 := Classical.byContradiction fun q => c_187 (by rw [hz9, if_neg q])
                        obtain ⟨s6, h6⟩ := ld_6 sZ c29
                        have w29 : V_85 55 29 = 0 := ld_85 s_85 h6
                        obtain ⟨s3, h3, kq, kt, km, kl⟩ := hOK w29
                        obtain ⟨cs, s4, xs, s5, hcs, hxs, hpa⟩ := ld_all h6 h3 kq.2 (fun s e => w81.trans (v_74 s e.1 e.2))
                        have krg := k_151 _ _ hxs
                        have kcs := k_147 _ _ hcs
                        have zt : ∀ a b : Int, 0 ≤ a → a < gO (okq (pGroup (V 68) (V 55 23) (sgS (V 68) (V 55 23) 0))) → 0 ≤ b → b < gO (okq (pGroup (V 68) (V 55 23) (sgS (V 68) (V 55 23) 0))) → Z 60 (gO (okq (pGroup (V 68) (V 55 23) (sgS (V 68) (V 55 23) 0))) * a + b) = gM (okq (pGroup (V 68) (V 55 23) (sgS (V 68) (V 55 23) 0))) a b := fun a b a0 a1 b0 b1 => ((fZ.2 60 _ (by decide)).trans ((f_151.2 60 _ (by decide) (by decide)).trans ((f_147.2 60 _ (by decide) (by decide) (by decide)).trans (hw 60 _ (by decide))))).trans (kt a b a0 a1 b0 b1)
                        have z12 : Z 55 12 = xs.length := (fZ.1 12 (by decide)).trans krg.1.1
                        have z11 : Z 55 11 = V_81 55 11 := (fZ.1 11 (by decide)).trans ((f_151.1 11 (by decide)).trans ((f_147.1 11 (by decide)).trans w11))
                        refine j_al0 hX dX12_load_195 rfl ?_
                        refine j_cVV0 (ci := 12) hX hG lk_X12_123 (ok_X12_takes kq.1 (z10.trans kq.2) zt (by rw [z11]; exact hw8) (by rw [z12]; omega)) (by decide) rfl (Nat.le_of_ble_eq_true rfl) (Nat.le_of_ble_eq_true rfl) (Nat.le_of_ble_eq_true rfl) rfl dX12_load_196 (fun V_196 h_196 => ?_)
                        obtain ⟨a1, a2, a3, a4, a5, a6, a7, a8, a9⟩ := h_196
                        refine j_al0 hX dX12_load_199 rfl ?_
                        refine j_getI hX hG fl_X12_142 (Or.inl rfl) (by decide) dX12_load_200 ?_
                        exact j_retI hR dX12_load_203 (by
      refine ⟨Or.inl ⟨rfl, (a8 0 (Or.inl rfl)).trans z0, _, hpa, a1, a2, ?_, fun e e0 e1 => ?_, a4.trans z12, by rw [a4, z12]; omega, fun k k0 k1 => ?_, (a8 29 (by omega)).trans c29, (a8 30 (by omega)).trans (ld_30 sZ c29), a7⟩, (a8 23 (by omega)).trans z23, by rw [a8 10 (by omega), z10]; exact hg8, by rw [a8 28 (by omega)]; exact z28, fun b => (a9 68 b (by decide)).trans (z68 b)⟩
      · exact a3.trans z11
      · have en : V_196 55 3 = (V_81 55 10 * V_81 55 10 * (if V_81 55 11 = 2 then 1 else V_81 55 10)) := ld_n a2 (a3.trans z11) (a1.2.1.trans kq.2.symm)
        rw [a5 e e0 e1, fZ.2 61 e (by decide), f_151.2 61 e (by decide) (by decide), kcs e]
        exact casT_cm (hTW w29) e e0 (by rw [← en]; exact e1)
      · rw [a4] at k1
        rw [a6 k k0 k1, fZ.2 62 k (by decide)]
        exact rgs_g krg.1 k0 (by rw [z12] at k1; exact k1))
                      · skip
                        refine j_iconst hX dX12_load_193 ⟨by decide, by decide⟩ ?_
                        exact j_retI hR dX12_load_194 (by
      obtain ⟨c_187, -, w_187⟩ := h_187.elim (fun q => absurd q.2.1 (by omega)) id
      have c29 : Z 55 29 ≠ 0 := fun q => by rw [hz9, if_pos q] at c_187; exact absurd c_187 (by decide)
      obtain ⟨e9, h9, hw9⟩ := sZ.er c29
      rw [w_187]
      refine ⟨Or.inr ⟨rfl, up_s .., ⟨e9, ld_er h9 (fun s q s2 _ e => g81.trans (k_60 _ q s2 rfl e).2.1) (fun s e => w81.trans (v_74 s e.1 e.2)), (up_n _ (by decide)).trans hw9.2.2.1, (up_n _ (by decide)).trans hw9.2.2.2.1⟩, fL_t L9 (show fL Z _ from ⟨fun b hb => up_n _ (by omega), fun a b h1 _ => up_n _ (by omega)⟩)⟩, (up_n _ (by decide)).trans z23, by rw [up_n _ (by decide), z10]; exact hg8, by rw [up_n _ (by decide)]; exact z28, fun b => (up_n _ (by omega)).trans (z68 b)⟩)
                    refine j_al0 hX dX12_load_174 rfl ?_
                    refine j_pVI0 (ci := 12) hX hG lk_X12_204 (ok_X12_isWrong ) (by decide) rfl (Nat.le_of_ble_eq_true rfl) (Nat.le_of_ble_eq_true rfl) (Nat.le_of_ble_eq_true rfl) rfl dX12_load_175 ?_
                    refine j_ifz_ne (tgt := 185) hX dX12_load_178 (by decide) (fun h_178 => ?_) (fun h_178 => ?_)
                    · skip
                      refine j_iconst hX dX12_load_185 ⟨by decide, by decide⟩ ?_
                      exact jn_186 _ (by first | exact (if_pos (Classical.byContradiction h_178)).symm | exact (if_neg h_178).symm)
                    · skip
                      refine j_iconst hX dX12_load_181 ⟨by decide, by decide⟩ ?_
                      refine j_goto (tgt := 186) hX dX12_load_182 (by decide) ?_
                      exact jn_186 _ (by first | exact (if_pos (Classical.byContradiction h_178)).symm | exact (if_neg h_178).symm)
                  refine j_al0 hX dX12_load_154 rfl ?_
                  refine j_pVI0 (ci := 12) hX hG lk_X12_204 (ok_X12_isWrong ) (by decide) rfl (Nat.le_of_ble_eq_true rfl) (Nat.le_of_ble_eq_true rfl) (Nat.le_of_ble_eq_true rfl) rfl dX12_load_155 ?_
                  refine j_ifz_ne (tgt := 173) hX dX12_load_158 (by decide) (fun h_158 => ?_) (fun h_158 => ?_)
                  · skip
                    refine j_fg2 ?_
                    exact jn_173 _ (by first | exact s_151.w h_158 _ | exact pe_n s_151 e68_V_151 e24_V_151 h_165 | exact pe_y s_151 e68_V_151 e24_V_151 (Classical.byContradiction h_158) h_165 s_170) (by first | exact fT_0 | exact f_170)
                  · skip
                    refine j_al0 hX dX12_load_161 rfl ?_
                    refine j_getI hX hG fl_X12_188 (Or.inl rfl) (by decide) dX12_load_162 ?_
                    refine j_if_eq (tgt := 173) hX dX12_load_165 (by decide) (fun h_165 => ?_) (fun h_165 => ?_)
                    · skip
                      refine j_fg2 ?_
                      exact jn_173 _ (by first | exact s_151.w h_158 _ | exact pe_n s_151 e68_V_151 e24_V_151 h_165 | exact pe_y s_151 e68_V_151 e24_V_151 (Classical.byContradiction h_158) h_165 s_170) (by first | exact fT_0 | exact f_170)
                    · skip
                      refine j_al0 hX dX12_load_168 rfl ?_
                      refine j_iconst hX dX12_load_169 ⟨by decide, by decide⟩ ?_
                      refine j_cVV1 (ci := 12) hX hG lk_X12_228 (ok_X12_fails s_151 (by decide)) (by decide) rfl (Nat.le_of_ble_eq_true rfl) (Nat.le_of_ble_eq_true rfl) (Nat.le_of_ble_eq_true rfl) rfl dX12_load_170 (fun V_170 h_170 => ?_)
                      obtain ⟨s_170, f_170⟩ := h_170
                      refine j_fg2 ?_
                      exact jn_173 _ (by first | exact s_151.w h_158 _ | exact pe_n s_151 e68_V_151 e24_V_151 h_165 | exact pe_y s_151 e68_V_151 e24_V_151 (Classical.byContradiction h_158) h_165 s_170) (by first | exact fT_0 | exact f_170)
                · skip
                  have w29 : V_85 55 29 = 0 := (hw 55 29 (by decide)).symm.trans (Classical.byContradiction h_126)
                  obtain ⟨s3, -, kq, kt, km, kl⟩ := hOK w29
                  have wid := all_d hg8 hw8 hi.1 (show i < _ by omega)
                  refine j_al0 hX dX12_load_129 rfl ?_
                  refine j_getR (q := 61) hX hG fl_X12_25 rfl rfl (by decide) dX12_load_130 ?_
                  refine j_il2 hX dX12_load_133 ?_
                  refine j_al0 hX dX12_load_134 rfl ?_
                  refine j_il2 hX dX12_load_135 ?_
                  refine j_pVI1 (ci := 12) hX hG lk_X12_282 (ok_X12_worth kq.1 (by rw [hw 55 10 (by decide), l10]; exact kq.2) (fun a b a0 a1 b0 b1 => (hw 60 _ (by decide)).trans (kt a b a0 a1 b0 b1)) (by rw [hw 55 11 (by decide), l11]; exact hw8) (by rw [hw 55 10 (by decide), l10, hw 55 11 (by decide), l11]; exact km.c (hw 55 31 (by decide)) (fun b => hw 63 b (by decide))) kl (by rw [hw 55 11 (by decide), l11, ← kq.2]; exact ⟨hi.1, wid⟩)) (by decide) rfl (Nat.le_of_ble_eq_true rfl) (Nat.le_of_ble_eq_true rfl) (Nat.le_of_ble_eq_true rfl) rfl dX12_load_136 ?_
                  refine j_eqS (st' := [vI (tabF (okq (pGroup (V 68) (V 55 23) (sgS (V 68) (V 55 23) 0))) (V_81 55 11) 0 (okd (tmF (V 68) (V 55 23) (V_81 55 10) (V_81 55 11) (r2F (V 68) (V 55 23) (pGroup (V 68) (V 55 23) (sgS (V 68) (V 55 23) 0))))) i), vI i, vA 61]) (by rw [hw 55 11 (by decide), l11]) ?_
                  refine j_iast (n := 216) hX hG (by decide) (by omega) dX12_load_139 ?_
                  refine j_inc2 hX dX12_load_140 rfl (by omega) ?_
                  refine j_goto (tgt := 117) hX dX12_load_143 (by decide) ?_
                  exact ih_117 _ _ (by omega) (fr_u hw (by decide)) (fun q => lt_stepI (fun j a b => by rw [up_n _ (by omega)]; exact hT8 q j a b) (up_s ..)) (by omega)
          exact lp_117 _ 0 _ ⟨by decide, by omega⟩ fr_0 (fun _ j a b => by omega) (Nat.lt_succ_self _)
        refine j_al0 hX dX12_load_88 rfl ?_
        refine j_getI hX hG fl_X12_110 (Or.inl rfl) (by decide) dX12_load_89 ?_
        refine j_al0 hX dX12_load_92 rfl ?_
        refine j_getI hX hG fl_X12_110 (Or.inl rfl) (by decide) dX12_load_93 ?_
        refine j_eqS (st' := [vI (V_81 55 10), vI (V_81 55 10)]) (by rw [l10]) ?_
        refine j_imul hX dX12_load_96 (by omega) ?_
        refine j_al0 hX dX12_load_97 rfl ?_
        refine j_getI hX hG fl_X12_113 (Or.inl rfl) (by decide) dX12_load_98 ?_
        refine j_iconst hX dX12_load_101 ⟨by decide, by decide⟩ ?_
        refine j_icmp_ne (tgt := 109) hX dX12_load_102 (by decide) (fun h_102 => ?_) (fun h_102 => ?_)
        · skip
          refine j_al0 hX dX12_load_109 rfl ?_
          refine j_getI hX hG fl_X12_110 (Or.inl rfl) (by decide) dX12_load_110 ?_
          refine j_fg1 ?_
          exact jn_113 _ (by first | exact (if_pos (l11.symm.trans h_102)).symm | exact ((if_neg (fun q => h_102 (l11.trans q))).trans l10.symm).symm)
        · skip
          refine j_iconst hX dX12_load_105 ⟨by decide, by decide⟩ ?_
          refine j_goto (tgt := 113) hX dX12_load_106 (by decide) ?_
          refine j_fg1 ?_
          exact jn_113 _ (by first | exact (if_pos (l11.symm.trans h_102)).symm | exact ((if_neg (fun q => h_102 (l11.trans q))).trans l10.symm).symm)
      · skip
        refine j_al0 hX dX12_load_42 rfl ?_
        refine j_getR (q := 64) hX hG fl_X12_34 rfl rfl (by decide) dX12_load_43 ?_
        refine j_il1 hX dX12_load_46 ?_
        refine j_iconst hX dX12_load_47 ⟨by decide, by decide⟩ ?_
        refine j_zast (n := 216) hX hG (by decide) (by omega) (by decide) dX12_load_48 ?_
        refine j_inc1 hX dX12_load_49 rfl (by omega) ?_
        refine j_goto (tgt := 35) hX dX12_load_52 (by decide) ?_
        exact ih_35 _ _ (by omega) (fr_u hy (by decide)) (lt_stepI (fun j a b => by rw [up_n _ (by omega)]; exact hD j a b) (up_s ..)) (by omega)
  exact lp_35 _ 0 _ ⟨by decide, by decide⟩ fr_0 (fun j a b => by omega) (Nat.lt_succ_self _)
