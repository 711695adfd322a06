/-! frames: which cells a method may have changed -/
def fr (l : List Int) (V W : VV) : Prop := ∀ a b : Int, a ∉ l → W a b = V a b
theorem fr_0 {l : List Int} {V : VV} : fr l V V := fun _ _ _ => rfl
theorem fr_u {l : List Int} {V W : VV} {k j x : Int} (h : fr l V W) (hk : k ∈ l) : fr l V (up W k j x) := fun a b ha => by
  rw [up_n _ (fun q => ha (by rw [q.1]; exact hk))]
  exact h a b ha
theorem fr_t {l : List Int} {V W Z : VV} (h : fr l V W) (h' : fr l W Z) : fr l V Z := fun a b ha => (h' a b ha).trans (h a b ha)
theorem fr_w {l l' : List Int} {V W : VV} (h : fr l V W) (hs : ∀ a, a ∈ l → a ∈ l') : fr l' V W := fun a b ha => h a b (fun q => ha (hs a q))
theorem fr_s2 {r t : Int} {V W : VV} (h : sm2 r t V W) : fr [r, t] V W := fun a b ha => h a b (fun q => ha (by rw [q]; simp)) (fun q => ha (by rw [q]; simp))
theorem fr_s1 {r : Int} {V W : VV} (h : sm1 r V W) : fr [r] V W := fun a b ha => h a b (fun q => ha (by rw [q]; simp))
theorem up_r (V : VV) {k j x a : Int} (h : a ≠ k) : up V k j x a = V a := by funext b; exact up_n V (fun q => h q.1)
theorem up_up (V : VV) (k j x y : Int) : up (up V k j x) k j y = up V k j y := by funext a b; unfold up; split <;> rfl
theorem up_id (V : VV) (k j : Int) : up V k j (V k j) = V := by
  funext a b; unfold up; split
  · rename_i h; rw [h.1, h.2]
  · rfl
theorem fill_n (V : VV) {k n x a b : Int} (h : a ≠ k) : fillV V k n x a b = V a b := by unfold fillV; rw [if_neg (fun q => h q.1)]
theorem fill_in (V : VV) {k n x b : Int} (h0 : 0 ≤ b) (h1 : b < n) : fillV V k n x k b = x := by unfold fillV; rw [if_pos ⟨rfl, h0, h1⟩]
theorem fr_f {l : List Int} {V W : VV} {k n x : Int} (h : fr l V W) (hk : k ∈ l) : fr l V (fillV W k n x) := fun a b ha => by
  rw [fill_n _ (fun q => ha (by rw [q]; exact hk))]
  exact h a b ha
/-! the text: signs, runs of signs, tokens -/
def byteF (x j : Int) : Int := band 32 (x / 2 ^ (24 - 8 * j).toNat) 255
theorem band255_b (y : Int) : 0 ≤ band 32 y 255 ∧ band 32 y 255 ≤ 255 := by
  have e : BitVec.ofInt 32 255 = 255#32 := by decide
  unfold band
  rw [e]
  have h : (BitVec.ofInt 32 y &&& 255#32).toNat ≤ 255 := by
    rw [BitVec.toNat_and]
    exact Nat.and_le_right
  have h2 := BitVec.toInt_eq_toNat_of_lt (x := BitVec.ofInt 32 y &&& 255#32) (by omega)
  omega
theorem byteF_b (x j : Int) : 0 ≤ byteF x j ∧ byteF x j ≤ 255 := band255_b _
/-- from p on, over all signs of a kind, up to the end L -/
def rTo (P : Int → Bool) (L : Int) : Nat → Int → Int
  | 0, p => p
  | n + 1, p => if p < L ∧ P p = true then rTo P L n (p + 1) else p
def rT (P : Int → Bool) (L p : Int) : Int := rTo P L (L - p).toNat p
theorem rT_go {P : Int → Bool} {L p : Int} (h : p < L) (hp : P p = true) : rT P L p = rT P L (p + 1) := by
  unfold rT
  rw [show (L - p).toNat = (L - (p + 1)).toNat + 1 by omega]
  show (if p < L ∧ P p = true then _ else _) = _
  rw [if_pos ⟨h, hp⟩]
theorem rT_no {P : Int → Bool} {L p : Int} (h : L ≤ p ∨ P p = false) : rT P L p = p := by
  unfold rT
  cases e : (L - p).toNat with
  | zero => rfl
  | succ n =>
    show (if p < L ∧ P p = true then _ else _) = _
    rw [if_neg]
    rintro ⟨a, b⟩
    rcases h with h | h
    · omega
    · rw [h] at b; cases b
theorem rTo_b {P : Int → Bool} {L : Int} : ∀ (n : Nat) (p : Int), p ≤ L → p ≤ rTo P L n p ∧ rTo P L n p ≤ L
  | 0, p, h => ⟨Int.le_refl _, h⟩
  | n + 1, p, h => by
    unfold rTo
    split
    · rename_i q
      have := rTo_b (P := P) (L := L) n (p + 1) (by omega)
      omega
    · exact ⟨Int.le_refl _, h⟩
theorem rT_b {P : Int → Bool} {L p : Int} (h : p ≤ L) : p ≤ rT P L p ∧ rT P L p ≤ L := rTo_b _ p h
theorem rT_lt {P : Int → Bool} {L p : Int} (h : p < L) (hp : P p = true) : p < rT P L p := by
  rw [rT_go h hp]
  have := rT_b (P := P) (L := L) (p := p + 1) (by omega)
  omega
theorem rT_end {P : Int → Bool} {L p : Int} (h : p ≤ L) : L ≤ rT P L p ∨ P (rT P L p) = false := by
  have : ∀ (n : Nat) (p : Int), p ≤ L → (L - p).toNat ≤ n → L ≤ rTo P L n p ∨ P (rTo P L n p) = false := by
    intro n
    induction n with
    | zero => intro p h1 h2; left; show L ≤ p; omega
    | succ n ih =>
      intro p h1 h2
      unfold rTo
      split
      · rename_i q
        exact ih (p + 1) (by omega) (by omega)
      · rename_i q
        by_cases e : p < L
        · right
          cases hp : P p with
          | false => rfl
          | true => exact absurd ⟨e, hp⟩ q
        · left; omega
  exact this _ p h (Nat.le_refl _)
/-- signs between two, and blanks -/
def inB (a b : Int) (T : Int → Int) (p : Int) : Bool := decide (a ≤ T p ∧ T p ≤ b)
def blB (T : Int → Int) (p : Int) : Bool := decide (T p = 32 ∨ T p = 10)
/-- where a token begins, where it ends, its kind, its number -/
def sgS (T : Int → Int) (L p : Int) : Int := rT (blB T) L p
def sgE (T : Int → Int) (L s : Int) : Int := if L ≤ s then s else if 97 ≤ T s ∧ T s ≤ 122 then rT (inB 97 122 T) L s else if 48 ≤ T s ∧ T s ≤ 57 then rT (inB 48 57 T) L s else s + 1
def sgK (T : Int → Int) (L s : Int) : Int := if L ≤ s then 0 else if 97 ≤ T s ∧ T s ≤ 122 then 1 else if 48 ≤ T s ∧ T s ≤ 57 then (if 2 < sgE T L s - s then 4 else 2) else if T s = 59 ∨ T s = 42 ∨ T s = 45 ∨ T s = 61 then 3 else 4
def sgN (T : Int → Int) (L s : Int) : Int := if 1 < sgE T L s - s then 10 * (T s - 48) + T (s + 1) - 48 else T s - 48
def sgX (T : Int → Int) (L s : Int) : Int := sgS T L (sgE T L s)
theorem sgS_b {T : Int → Int} {L p : Int} (h : p ≤ L) : p ≤ sgS T L p ∧ sgS T L p ≤ L := rT_b h
theorem sgE_b {T : Int → Int} {L s : Int} (h : s ≤ L) : s ≤ sgE T L s ∧ sgE T L s ≤ L := by
  unfold sgE
  split
  · omega
  · split
    · exact rT_b h
    · split
      · exact rT_b h
      · omega
theorem sgX_b {T : Int → Int} {L s : Int} (h : s ≤ L) : s ≤ sgX T L s ∧ sgX T L s ≤ L := by
  have h1 := sgE_b (T := T) h
  have h2 := sgS_b (T := T) h1.2
  unfold sgX
  omega
/-- the class's text stands at the token that begins at s -/
def TK (V : VV) (s : Int) : Prop := 0 ≤ s ∧ s ≤ V 2 1 ∧ V 2 3 = s ∧ V 2 2 = sgK (V 3) (V 2 1) s ∧ V 2 5 = sgE (V 3) (V 2 1) s ∧ (V 2 2 = 2 → V 2 4 = sgN (V 3) (V 2 1) s)
/-- its signs are bytes, its length is one of a row -/
def TB (V : VV) : Prop := 0 ≤ V 2 1 ∧ V 2 1 ≤ 500 ∧ ∀ p, 0 ≤ p → p < 500 → 0 ≤ V 3 p ∧ V 3 p ≤ 255
theorem TK.sm {V W : VV} {s : Int} (h : TK V s) (e : ∀ b, W 2 b = V 2 b) (e' : ∀ b, W 3 b = V 3 b) : TK W s := by
  unfold TK at h ⊢
  rw [show W 3 = V 3 from funext e', e, e, e, e, e]
  exact h
theorem TB.sm {V W : VV} (h : TB V) (e : ∀ b, W 2 b = V 2 b) (e' : ∀ b, W 3 b = V 3 b) : TB W := by
  unfold TB at h ⊢
  rw [e, show W 3 = V 3 from funext e']
  exact h
/-- a word of letters -/
def isWd (T : Int → Int) (L s : Int) (w : List Int) : Bool := sgK T L s == 1 && sgE T L s - s == w.length && (List.range w.length).all (fun i => T (s + i) == w.getD i 0)
def isSy (T : Int → Int) (L s c : Int) : Bool := sgK T L s == 3 && T s == c
def plF (T : Int → Int) (L s : Int) : Int := if sgK T L s = 1 ∧ sgE T L s - s = 1 ∧ T s ≤ 99 then T s - 97 else -1
theorem plF_b {T : Int → Int} {L s : Int} : plF T L s = -1 ∨ 0 ≤ plF T L s ∧ plF T L s ≤ 2 := by
  unfold plF
  split
  · rename_i h
    right
    have : 97 ≤ T s := by
      have h1 := h.1
      unfold sgK at h1
      split at h1
      · cases h1
      · split at h1
        · rename_i q; exact q.1
        · split at h1 <;> split at h1 <;> cases h1
    omega
  · left; rfl
theorem sgK_lt {T : Int → Int} {L s : Int} (h : sgK T L s ≠ 0) : s < L := by
  unfold sgK at h
  split at h
  · exact absurd rfl h
  · omega
theorem sgN_b {T : Int → Int} {L s : Int} (h : sgK T L s = 2) : 0 ≤ sgN T L s ∧ sgN T L s ≤ 99 := by
  have hl := sgK_lt (T := T) (L := L) (s := s) (by omega)
  have hd : 48 ≤ T s ∧ T s ≤ 57 ∧ ¬ (97 ≤ T s ∧ T s ≤ 122) := by
    unfold sgK at h
    rw [if_neg (by omega)] at h
    split at h
    · cases h
    · split at h
      · rename_i a b; exact ⟨b.1, b.2, a⟩
      · split at h <;> cases h
  unfold sgN
  split
  · rename_i h2
    unfold sgE at h2
    rw [if_neg (by omega), if_neg hd.2.2, if_pos ⟨hd.1, hd.2.1⟩, rT_go hl (by unfold inB; simpa using ⟨hd.1, hd.2.1⟩)] at h2
    have h3 : inB 48 57 T (s + 1) = true := by
      cases e : inB 48 57 T (s + 1) with
      | true => rfl
      | false => rw [rT_no (Or.inr e)] at h2; omega
    unfold inB at h3
    have h4 : 48 ≤ T (s + 1) ∧ T (s + 1) ≤ 57 := by simpa using h3
    omega
  · omega
theorem TK_of {V W : VV} {s : Int} (h0 : 0 ≤ s) (h1 : s ≤ V 2 1) (eb : W 3 = V 3) (e1 : W 2 1 = V 2 1) (e3 : W 2 3 = s) (e2 : W 2 2 = sgK (V 3) (V 2 1) s) (e5 : W 2 5 = sgE (V 3) (V 2 1) s) (e4 : W 2 2 = 2 → W 2 4 = sgN (V 3) (V 2 1) s) : TK W s := by
  unfold TK
  rw [eb, e1]
  exact ⟨h0, h1, e3, e2, e5, e4⟩
theorem isSy_t {T : Int → Int} {L s c : Int} : isSy T L s c = true ↔ sgK T L s = 3 ∧ T s = c := by unfold isSy; simp
theorem isWd_t {T : Int → Int} {L s : Int} {w : List Int} : isWd T L s w = true ↔ sgK T L s = 1 ∧ sgE T L s - s = w.length ∧ ∀ i : Int, 0 ≤ i → i < w.length → T (s + i) = w.getD i.toNat 0 := by
  unfold isWd
  simp only [Bool.and_eq_true, beq_iff_eq, List.all_eq_true, List.mem_range]
  constructor
  · rintro ⟨⟨a, b⟩, c⟩
    refine ⟨a, b, fun i h0 h1 => ?_⟩
    have := c i.toNat (by omega)
    rwa [show ((i.toNat : Nat) : Int) = i by omega] at this
  · rintro ⟨a, b, c⟩
    refine ⟨⟨a, b⟩, fun i hi => ?_⟩
    have := c i (by omega) (by omega)
    simpa using this

section EQL
variable {X : Cx} {G : GS} {pc : Nat} {ls st : List MV} {V : VV}
theorem j_eqL {ls' : List MV} (e : ls' = ls) (kk : J X G pc ls' st V) : J X G pc ls st V := e ▸ kk
end EQL
set_option maxHeartbeats 4000000 in
theorem ok_X0_record {V : VV} {w s : Int} (hl : 0 ≤ V 33 5 ∧ V 33 5 ≤ 9) (hc : 0 ≤ V 33 4 ∧ V 33 4 ≤ 10) (hn : 0 ≤ V 23 1 ∧ V 23 1 ≤ 16) : Ok NC yX0_record cX0_record 5 none 2 43 [vA 33, vA 23, vI w, vI s] V (pV (fun V' => V' 33 5 = (V 33 5 + 1) % 10 ∧ V' 33 4 = (if V 33 4 + 1 ≤ 10 then V 33 4 + 1 else 10) ∧ (∀ j, V' 35 j = if j = (V 33 5 + 1) % 10 then V 23 1 else V 35 j) ∧ (∀ j, V' 36 j = if j = (V 33 5 + 1) % 10 then w else V 36 j) ∧ (∀ j, V' 37 j = if j = (V 33 5 + 1) % 10 then s else V 37 j) ∧ (∀ k, 0 ≤ k → k < V 23 1 → V' 34 ((V 33 5 + 1) % 10 * 16 + k) = V 24 k) ∧ (∀ b, b < (V 33 5 + 1) % 10 * 16 ∨ (V 33 5 + 1) % 10 * 16 + 16 ≤ b → V' 34 b = V 34 b) ∧ fr [33, 34, 35, 36, 37] V V')) := by
  refine Ok.intro (by decide +kernel) (Nat.le_of_ble_eq_true rfl) (fun X G hX hG hR hoa hoV => ?_)
  show J X G 0 [vA 33, vA 23, vI w, vI s, vU] [] V
  have hm9 := md_b (V 33 5 + 1) (n := 10) (by decide)
  generalize hL9 : (V 33 5 + 1) % 10 = l at *
  refine j_al0 hX dX0_record_0 rfl ?_
  refine j_al0 hX dX0_record_1 rfl ?_
  refine j_getI hX hG fl_X0_24 (Or.inl rfl) (by decide) dX0_record_2 ?_
  refine j_iconst hX dX0_record_5 ⟨by decide, by decide⟩ ?_
  refine j_iadd hX dX0_record_6 (by omega) ?_
  refine j_bipush hX dX0_record_7 (by decide) ⟨by decide, by decide⟩ ?_
  refine j_pSI2 hX hG lk_X0_28 (ok_X11_around_in (by first | assumption | omega | decide)) (Nat.le_of_ble_eq_true rfl) (Nat.le_of_ble_eq_true rfl) (Nat.le_of_ble_eq_true rfl) rfl dX0_record_9 ?_
  rw [hL9]
  refine j_putI hX hG fp_X0_24 rfl (by decide) dX0_record_12 ?_
  refine j_al0 hX dX0_record_15 rfl ?_
  refine j_al0 hX dX0_record_16 rfl ?_
  refine j_getI hX hG fl_X0_32 (Or.inl rfl) (by decide) dX0_record_17 ?_
  refine j_eqS (st' := [vI (V 33 4), vA 33]) (by rw [up_n _ (by decide)]) ?_
  refine j_iconst hX dX0_record_20 ⟨by decide, by decide⟩ ?_
  refine j_iadd hX dX0_record_21 (by omega) ?_
  refine j_bipush hX dX0_record_22 (by decide) ⟨by decide, by decide⟩ ?_
  refine j_pSI2 hX hG lk_X0_35 (ok_J9_min_7cf53 ) (Nat.le_of_ble_eq_true rfl) (Nat.le_of_ble_eq_true rfl) (Nat.le_of_ble_eq_true rfl) rfl dX0_record_24 ?_
  refine j_putI hX hG fp_X0_32 rfl (by decide) dX0_record_27 ?_
  refine j_al0 hX dX0_record_30 rfl ?_
  refine j_getR (q := 35) hX hG fl_X0_15 rfl rfl (by decide) dX0_record_31 ?_
  refine j_al0 hX dX0_record_34 rfl ?_
  refine j_getI hX hG fl_X0_24 (Or.inl rfl) (by decide) dX0_record_35 ?_
  refine j_eqS (st' := [vI l, vA 35]) (by simp [up]) ?_
  refine j_al1 hX dX0_record_38 rfl ?_
  refine j_getI hX hG fl_X0_40 (Or.inl rfl) (by decide) dX0_record_39 ?_
  refine j_eqS (st' := [vI (V 23 1), vI l, vA 35]) (by simp [up]) ?_
  refine j_cSV3 hX hG lk_X0_45 (ok_X11_put_in (n := 10) (by decide) (by first | assumption | decide) (by first | assumption | omega | decide)) (Nat.le_of_ble_eq_true rfl) (Nat.le_of_ble_eq_true rfl) (Nat.le_of_ble_eq_true rfl) rfl dX0_record_42 (fun V_42 h_42 => ?_)
  subst h_42
  refine j_al0 hX dX0_record_45 rfl ?_
  refine j_getR (q := 36) hX hG fl_X0_18 rfl rfl (by decide) dX0_record_46 ?_
  refine j_al0 hX dX0_record_49 rfl ?_
  refine j_getI hX hG fl_X0_24 (Or.inl rfl) (by decide) dX0_record_50 ?_
  refine j_eqS (st' := [vI l, vA 36]) (by simp [up]) ?_
  refine j_il2 hX dX0_record_53 ?_
  refine j_cSV3 hX hG lk_X0_45 (ok_X11_put_in (n := 10) (by decide) (by first | assumption | decide) (by first | assumption | omega | decide)) (Nat.le_of_ble_eq_true rfl) (Nat.le_of_ble_eq_true rfl) (Nat.le_of_ble_eq_true rfl) rfl dX0_record_54 (fun V_54 h_54 => ?_)
  subst h_54
  refine j_al0 hX dX0_record_57 rfl ?_
  refine j_getR (q := 37) hX hG fl_X0_21 rfl rfl (by decide) dX0_record_58 ?_
  refine j_al0 hX dX0_record_61 rfl ?_
  refine j_getI hX hG fl_X0_24 (Or.inl rfl) (by decide) dX0_record_62 ?_
  refine j_eqS (st' := [vI l, vA 37]) (by simp [up]) ?_
  refine j_il3 hX dX0_record_65 ?_
  refine j_cSV3 hX hG lk_X0_45 (ok_X11_put_in (n := 10) (by decide) (by first | assumption | decide) (by first | assumption | omega | decide)) (Nat.le_of_ble_eq_true rfl) (Nat.le_of_ble_eq_true rfl) (Nat.le_of_ble_eq_true rfl) rfl dX0_record_66 (fun V_66 h_66 => ?_)
  subst h_66
  refine j_iconst hX dX0_record_69 ⟨by decide, by decide⟩ ?_
  refine j_is4 hX dX0_record_70 rfl ?_
  have lp_72 : ∀ (f9 : Nat) (i : Int) (W : VV), (0 ≤ i ∧ i ≤ V 23 1) → (W 33 5 = l) → (W 33 4 = (if V 33 4 + 1 ≤ 10 then V 33 4 + 1 else 10)) → (∀ j, W 35 j = if j = l then V 23 1 else V 35 j) → (∀ j, W 36 j = if j = l then w else V 36 j) → (∀ j, W 37 j = if j = l then s else V 37 j) → (∀ k, 0 ≤ k → k < i → W 34 (l * 16 + k) = V 24 k) → (∀ b, b < l * 16 ∨ l * 16 + 16 ≤ b → W 34 b = V 34 b) → (fr [33, 34, 35, 36, 37] V W) → ((V 23 1 - i).toNat) < f9 → J X G 72 [vA 33, vA 23, vI w, vI s, vI i] [] W := by
    intro f9
    induction f9 with
    | zero => intro i W _ _ _ _ _ _ _ _ _ hm; exact absurd hm (Nat.not_lt_zero _)
    | succ f9 ih_72 =>
      intro i W hi g5 g4 g35 g36 g37 gT gF hs hm
      refine j_il4 hX dX0_record_72 ?_
      refine j_al1 hX dX0_record_74 rfl ?_
      refine j_getI hX hG fl_X0_40 (Or.inl rfl) (by decide) dX0_record_75 ?_
      refine j_icmp_ge (tgt := 110) hX dX0_record_78 (by decide) (fun h_78 => ?_) (fun h_78 => ?_)
      · skip
        exact j_ret hR dX0_record_110 ⟨g5, g4, g35, g36, g37, fun k h0 h1 => gT k h0 (by have := hs 23 1 (by decide); omega), gF, hs⟩
      · skip
        have q1 : W 23 1 = V 23 1 := hs 23 1 (by decide)
        have q2 : ∀ b, W 24 b = V 24 b := fun b => hs 24 b (by decide)
        refine j_al0 hX dX0_record_81 rfl ?_
        refine j_getR (q := 34) hX hG fl_X0_9 rfl rfl (by decide) dX0_record_82 ?_
        refine j_al0 hX dX0_record_85 rfl ?_
        refine j_getI hX hG fl_X0_24 (Or.inl rfl) (by decide) dX0_record_86 ?_
        refine j_bipush hX dX0_record_89 (by decide) ⟨by decide, by decide⟩ ?_
        refine j_imul hX dX0_record_91 (by omega) ?_
        refine j_il4 hX dX0_record_92 ?_
        refine j_iadd hX dX0_record_94 (by omega) ?_
        refine j_al1 hX dX0_record_95 rfl ?_
        refine j_il4 hX dX0_record_96 ?_
        refine j_pVI1 (ci := 7) hX hG lk_X0_49 (ok_X7_stateOf (by first | assumption | omega | decide) (by first | assumption | omega | decide)) (by decide) rfl (Nat.le_of_ble_eq_true rfl) (Nat.le_of_ble_eq_true rfl) (Nat.le_of_ble_eq_true rfl) rfl dX0_record_98 ?_
        try dsimp only [Int.reduceAdd]
        refine j_cSV3 hX hG lk_X0_45 (ok_X11_put_in (n := 160) (by decide) (by first | assumption | decide) (by first | assumption | omega | decide)) (Nat.le_of_ble_eq_true rfl) (Nat.le_of_ble_eq_true rfl) (Nat.le_of_ble_eq_true rfl) rfl dX0_record_101 (fun V_101 h_101 => ?_)
        subst h_101
        refine j_inc4 hX dX0_record_104 rfl (by omega) ?_
        refine j_goto (tgt := 72) hX dX0_record_107 (by decide) ?_
        exact ih_72 _ _ (by omega) (by rw [up_n _ (by omega)]; exact g5) (by rw [up_n _ (by omega)]; exact g4) (fun j => by rw [up_n _ (by omega)]; exact g35 j) (fun j => by rw [up_n _ (by omega)]; exact g36 j) (fun j => by rw [up_n _ (by omega)]; exact g37 j) (lt_stepI (fun k h8 h9 => by rw [up_n _ (by omega)]; exact gT k h8 h9) (by rw [g5, up_s]; exact q2 i)) (fun b hb => by rw [up_n _ (by omega)]; exact gF b hb) (fr_u hs (by decide)) (by omega)
  exact lp_72 _ _ _ (by omega) (by simp [up]) (by simp [up]) (fun j => by simp [up]) (fun j => by simp [up]) (fun j => by simp [up]) (by omega) (fun b _ => by simp [up]) (fr_u (fr_u (fr_u (fr_u (fr_u fr_0 (by decide)) (by decide)) (by decide)) (by decide)) (by decide)) (Nat.lt_succ_self _)
set_option maxHeartbeats 4000000 in
theorem ok_X0_takeBack {V : VV} (hl : 0 ≤ V 33 5 ∧ V 33 5 ≤ 9) (hc : 1 ≤ V 33 4 ∧ V 33 4 ≤ 10) (hn : 0 ≤ V 35 (V 33 5) ∧ V 35 (V 33 5) ≤ 16) (he : V 36 (V 33 5) = -1 ∨ 0 ≤ V 36 (V 33 5) ∧ V 36 (V 33 5) < 216) (hv : 0 ≤ V 15 7 ∧ V 15 7 ≤ 1000000) : Ok NC yX0_takeBack cX0_takeBack 4 none 2 44 [vA 33, vA 23, vA 15] V (pV (fun V' => V' 33 5 = (V 33 5 - 1) % 10 ∧ V' 33 4 = V 33 4 - 1 ∧ V' 23 1 = V 35 (V 33 5) ∧ (∀ k, 0 ≤ k → k < V 35 (V 33 5) → V' 24 k = V 34 (V 33 5 * 16 + k)) ∧ (∀ e, V' 16 e = if e = V 36 (V 33 5) ∧ V 36 (V 33 5) ≠ -1 then V 37 (V 33 5) else V 16 e) ∧ V' 15 7 = (if V 36 (V 33 5) = -1 then V 15 7 else V 15 7 + 1) ∧ (∀ b, b ≠ 7 → V' 15 b = V 15 b) ∧ fr [33, 23, 24, 15, 16] V V')) := by
  refine Ok.intro (by decide +kernel) (Nat.le_of_ble_eq_true rfl) (fun X G hX hG hR hoa hoV => ?_)
  show J X G 0 [vA 33, vA 23, vA 15, vU] [] V
  generalize hL9 : V 33 5 = l at *
  refine j_al1 hX dX0_takeBack_0 rfl ?_
  refine j_al0 hX dX0_takeBack_1 rfl ?_
  refine j_getR (q := 35) hX hG fl_X0_15 rfl rfl (by decide) dX0_takeBack_2 ?_
  refine j_al0 hX dX0_takeBack_5 rfl ?_
  refine j_getI hX hG fl_X0_24 (Or.inl rfl) (by decide) dX0_takeBack_6 ?_
  rw [hL9]
  refine j_pSI2 hX hG lk_X0_53 (ok_X11_at_in (n := 10) (by decide) (by first | assumption | decide) (by first | assumption | omega | decide)) (Nat.le_of_ble_eq_true rfl) (Nat.le_of_ble_eq_true rfl) (Nat.le_of_ble_eq_true rfl) rfl dX0_takeBack_9 ?_
  refine j_putI hX hG fp_X0_40 rfl (by decide) dX0_takeBack_12 ?_
  refine j_iconst hX dX0_takeBack_15 ⟨by decide, by decide⟩ ?_
  refine j_is3 hX dX0_takeBack_16 rfl ?_
  have lp_17 : ∀ (f9 : Nat) (i : Int) (W : VV), (0 ≤ i ∧ i ≤ V 35 l) → (W 23 1 = V 35 l) → (∀ k, 0 ≤ k → k < i → W 24 k = V 34 (l * 16 + k)) → (fr [23, 24] V W) → ((V 35 l - i).toNat) < f9 → J X G 17 [vA 33, vA 23, vA 15, vI i] [] W := by
    intro f9
    induction f9 with
    | zero => intro i W _ _ _ _ hm; exact absurd hm (Nat.not_lt_zero _)
    | succ f9 ih_17 =>
      intro i W hi h1 gT hs hm
      refine j_il3 hX dX0_takeBack_17 ?_
      refine j_al1 hX dX0_takeBack_18 rfl ?_
      refine j_getI hX hG fl_X0_40 (Or.inl rfl) (by decide) dX0_takeBack_19 ?_
      refine j_icmp_ge (tgt := 52) hX dX0_takeBack_22 (by decide) (fun h_22 => ?_) (fun h_22 => ?_)
      · skip
        have q1 : W 33 5 = l := (hs 33 5 (by decide)).trans hL9
        have q2 : ∀ b, W 36 b = V 36 b := fun b => hs 36 b (by decide)
        have q3 : ∀ b, W 37 b = V 37 b := fun b => hs 37 b (by decide)
        have q4 : ∀ b, W 15 b = V 15 b := fun b => hs 15 b (by decide)
        have q5 : W 33 4 = V 33 4 := hs 33 4 (by decide)
        have hm9 := md_b (l - 1) (n := 10) (by decide)
        refine j_al0 hX dX0_takeBack_52 rfl ?_
        refine j_getR (q := 36) hX hG fl_X0_18 rfl rfl (by decide) dX0_takeBack_53 ?_
        refine j_al0 hX dX0_takeBack_56 rfl ?_
        refine j_getI hX hG fl_X0_24 (Or.inl rfl) (by decide) dX0_takeBack_57 ?_
        refine j_pSI2 hX hG lk_X0_53 (ok_X11_at_in (n := 10) (by decide) (by first | assumption | decide) (by first | assumption | omega | decide)) (Nat.le_of_ble_eq_true rfl) (Nat.le_of_ble_eq_true rfl) (Nat.le_of_ble_eq_true rfl) rfl dX0_takeBack_60 ?_
        refine j_eqS (st' := [vI (V 36 l)]) (by rw [q1, q2]) ?_
        refine j_iconst hX dX0_takeBack_63 ⟨by decide, by decide⟩ ?_
        refine j_icmp_eq (tgt := 93) hX dX0_takeBack_64 (by decide) (fun h_64 => ?_) (fun h_64 => ?_)
        · skip
          refine j_al0 hX dX0_takeBack_93 rfl ?_
          refine j_al0 hX dX0_takeBack_94 rfl ?_
          refine j_getI hX hG fl_X0_24 (Or.inl rfl) (by decide) dX0_takeBack_95 ?_
          refine j_eqS (st' := [vI l, vA 33]) (by simp [up, q1]) ?_
          refine j_iconst hX dX0_takeBack_98 ⟨by decide, by decide⟩ ?_
          refine j_isub hX dX0_takeBack_99 (by omega) ?_
          refine j_bipush hX dX0_takeBack_100 (by decide) ⟨by decide, by decide⟩ ?_
          refine j_pSI2 hX hG lk_X0_28 (ok_X11_around_in (by first | assumption | omega | decide)) (Nat.le_of_ble_eq_true rfl) (Nat.le_of_ble_eq_true rfl) (Nat.le_of_ble_eq_true rfl) rfl dX0_takeBack_102 ?_
          refine j_putI hX hG fp_X0_24 rfl (by decide) dX0_takeBack_105 ?_
          refine j_al0 hX dX0_takeBack_108 rfl ?_
          refine j_dup hX dX0_takeBack_109 rfl ?_
          refine j_getI hX hG fl_X0_32 (Or.inl rfl) (by decide) dX0_takeBack_110 ?_
          refine j_eqS (st' := [vI (V 33 4), vA 33]) (by simp [up, q5]) ?_
          refine j_iconst hX dX0_takeBack_113 ⟨by decide, by decide⟩ ?_
          refine j_isub hX dX0_takeBack_114 (by omega) ?_
          refine j_putI hX hG fp_X0_32 rfl (by decide) dX0_takeBack_115 ?_
          exact j_ret hR dX0_takeBack_118 ⟨by simp [up], by simp [up], by simp [up, h1], fun k h0 h8 => by simp [up]; exact gT k h0 (by omega), fun e => by first | (rw [if_neg (by omega)]; simp [up]; exact hs 16 e (by decide)) | (simp [up, h_64]; split <;> first | rfl | exact hs 16 e (by decide)), by first | (rw [if_pos (by omega)]; simp [up, q4]; done) | (rw [if_neg (by omega)]; simp [up, q4]), fun b hb => by simp [up, hb, q4], fr_u (fr_u (by first | exact fr_w hs (by decide) | exact fr_u (fr_u (fr_w hs (by simp)) (by decide)) (by decide) | exact fr_w hs (by simp)) (by decide)) (by decide)⟩
        · skip
          refine j_al2 hX dX0_takeBack_67 rfl ?_
          refine j_al0 hX dX0_takeBack_68 rfl ?_
          refine j_getR (q := 36) hX hG fl_X0_18 rfl rfl (by decide) dX0_takeBack_69 ?_
          refine j_al0 hX dX0_takeBack_72 rfl ?_
          refine j_getI hX hG fl_X0_24 (Or.inl rfl) (by decide) dX0_takeBack_73 ?_
          refine j_pSI2 hX hG lk_X0_53 (ok_X11_at_in (n := 10) (by decide) (by first | assumption | decide) (by first | assumption | omega | decide)) (Nat.le_of_ble_eq_true rfl) (Nat.le_of_ble_eq_true rfl) (Nat.le_of_ble_eq_true rfl) rfl dX0_takeBack_76 ?_
          refine j_eqS (st' := [vI (V 36 l), vA 15]) (by rw [q1, q2]) ?_
          refine j_al0 hX dX0_takeBack_79 rfl ?_
          refine j_getR (q := 37) hX hG fl_X0_21 rfl rfl (by decide) dX0_takeBack_80 ?_
          refine j_al0 hX dX0_takeBack_83 rfl ?_
          refine j_getI hX hG fl_X0_24 (Or.inl rfl) (by decide) dX0_takeBack_84 ?_
          refine j_pSI2 hX hG lk_X0_53 (ok_X11_at_in (n := 10) (by decide) (by first | assumption | decide) (by first | assumption | omega | decide)) (Nat.le_of_ble_eq_true rfl) (Nat.le_of_ble_eq_true rfl) (Nat.le_of_ble_eq_true rfl) rfl dX0_takeBack_87 ?_
          refine j_eqS (st' := [vI (V 37 l), vI (V 36 l), vA 15]) (by rw [q1, q3]) ?_
          refine j_cVV2 (ci := 8) hX hG lk_X0_61 (ok_X8_give (Or.inr (Or.inl rfl)) (by first | assumption | omega | decide) (by rw [q4]; exact hv)) (by decide) rfl (Nat.le_of_ble_eq_true rfl) (Nat.le_of_ble_eq_true rfl) (Nat.le_of_ble_eq_true rfl) rfl dX0_takeBack_90 (fun V_90 h_90 => ?_)
          subst h_90
          try dsimp only [Int.reduceAdd]
          refine j_al0 hX dX0_takeBack_93 rfl ?_
          refine j_al0 hX dX0_takeBack_94 rfl ?_
          refine j_getI hX hG fl_X0_24 (Or.inl rfl) (by decide) dX0_takeBack_95 ?_
          refine j_eqS (st' := [vI l, vA 33]) (by simp [up, q1]) ?_
          refine j_iconst hX dX0_takeBack_98 ⟨by decide, by decide⟩ ?_
          refine j_isub hX dX0_takeBack_99 (by omega) ?_
          refine j_bipush hX dX0_takeBack_100 (by decide) ⟨by decide, by decide⟩ ?_
          refine j_pSI2 hX hG lk_X0_28 (ok_X11_around_in (by first | assumption | omega | decide)) (Nat.le_of_ble_eq_true rfl) (Nat.le_of_ble_eq_true rfl) (Nat.le_of_ble_eq_true rfl) rfl dX0_takeBack_102 ?_
          refine j_putI hX hG fp_X0_24 rfl (by decide) dX0_takeBack_105 ?_
          refine j_al0 hX dX0_takeBack_108 rfl ?_
          refine j_dup hX dX0_takeBack_109 rfl ?_
          refine j_getI hX hG fl_X0_32 (Or.inl rfl) (by decide) dX0_takeBack_110 ?_
          refine j_eqS (st' := [vI (V 33 4), vA 33]) (by simp [up, q5]) ?_
          refine j_iconst hX dX0_takeBack_113 ⟨by decide, by decide⟩ ?_
          refine j_isub hX dX0_takeBack_114 (by omega) ?_
          refine j_putI hX hG fp_X0_32 rfl (by decide) dX0_takeBack_115 ?_
          exact j_ret hR dX0_takeBack_118 ⟨by simp [up], by simp [up], by simp [up, h1], fun k h0 h8 => by simp [up]; exact gT k h0 (by omega), fun e => by first | (rw [if_neg (by omega)]; simp [up]; exact hs 16 e (by decide)) | (simp [up, h_64]; split <;> first | rfl | exact hs 16 e (by decide)), by first | (rw [if_pos (by omega)]; simp [up, q4]; done) | (rw [if_neg (by omega)]; simp [up, q4]), fun b hb => by simp [up, hb, q4], fr_u (fr_u (by first | exact fr_w hs (by decide) | exact fr_u (fr_u (fr_w hs (by simp)) (by decide)) (by decide) | exact fr_w hs (by simp)) (by decide)) (by decide)⟩
      · skip
        have q1 : W 33 5 = l := (hs 33 5 (by decide)).trans hL9
        have q2 : ∀ b, W 34 b = V 34 b := fun b => hs 34 b (by decide)
        refine j_al1 hX dX0_takeBack_25 rfl ?_
        refine j_il3 hX dX0_takeBack_26 ?_
        refine j_al0 hX dX0_takeBack_27 rfl ?_
        refine j_getR (q := 34) hX hG fl_X0_9 rfl rfl (by decide) dX0_takeBack_28 ?_
        refine j_al0 hX dX0_takeBack_31 rfl ?_
        refine j_getI hX hG fl_X0_24 (Or.inl rfl) (by decide) dX0_takeBack_32 ?_
        refine j_bipush hX dX0_takeBack_35 (by decide) ⟨by decide, by decide⟩ ?_
        refine j_imul hX dX0_takeBack_37 (by omega) ?_
        refine j_il3 hX dX0_takeBack_38 ?_
        refine j_iadd hX dX0_takeBack_39 (by omega) ?_
        refine j_pSI2 hX hG lk_X0_53 (ok_X11_at_in (n := 160) (by decide) (by first | assumption | decide) (by first | assumption | omega | decide)) (Nat.le_of_ble_eq_true rfl) (Nat.le_of_ble_eq_true rfl) (Nat.le_of_ble_eq_true rfl) rfl dX0_takeBack_40 ?_
        refine j_cVV2 (ci := 7) hX hG lk_X0_57 (ok_X7_setTo (by first | assumption | omega | decide) (by first | assumption | omega | decide)) (by decide) rfl (Nat.le_of_ble_eq_true rfl) (Nat.le_of_ble_eq_true rfl) (Nat.le_of_ble_eq_true rfl) rfl dX0_takeBack_43 (fun V_43 h_43 => ?_)
        subst h_43
        try dsimp only [Int.reduceAdd]
        refine j_inc3 hX dX0_takeBack_46 rfl (by omega) ?_
        refine j_goto (tgt := 17) hX dX0_takeBack_49 (by decide) ?_
        exact ih_17 _ _ (by omega) (by rw [up_n _ (by omega)]; exact h1) (lt_stepI (fun k h8 h9 => by rw [up_n _ (by omega)]; exact gT k h8 h9) (by rw [up_s, q1]; exact q2 _)) (fr_u hs (by decide)) (by omega)
  exact lp_17 _ _ _ (by omega) (up_s ..) (by omega) (fr_u fr_0 (by decide)) (Nat.lt_succ_self _)
set_option maxHeartbeats 4000000 in
theorem ok_X9_addFour {V : VV} {x : Int} (hl : 0 ≤ V 2 1 ∧ V 2 1 ≤ 496) : Ok NC yX9_addFour cX9_addFour 3 none 1 22 [vA 2, vI x] V (pV (fun V' => V' 2 1 = V 2 1 + 4 ∧ (∀ j, 0 ≤ j → j < 4 → V' 3 (V 2 1 + j) = byteF x j) ∧ (∀ b, b < V 2 1 ∨ V 2 1 + 4 ≤ b → V' 3 b = V 3 b) ∧ (∀ a b, a ≠ 3 → ¬ (a = 2 ∧ b = 1) → V' a b = V a b))) := by
  refine Ok.intro (by decide +kernel) (Nat.le_of_ble_eq_true rfl) (fun X G hX hG hR hoa hoV => ?_)
  show J X G 0 [vA 2, vI x, vU] [] V
  refine j_bipush hX dX9_addFour_0 (by decide) ⟨by decide, by decide⟩ ?_
  refine j_is2 hX dX9_addFour_2 rfl ?_
  have lp_3 : ∀ (f9 : Nat) (i : Int) (W : VV), (0 ≤ i ∧ i ≤ 4) → (W 2 1 = V 2 1 + i) → (∀ j, 0 ≤ j → j < i → W 3 (V 2 1 + j) = byteF x j) → (∀ b, b < V 2 1 ∨ V 2 1 + i ≤ b → W 3 b = V 3 b) → (∀ a b, a ≠ 3 → ¬ (a = 2 ∧ b = 1) → W a b = V a b) → ((4 - i).toNat) < f9 → J X G 3 [vA 2, vI x, vI (24 - 8 * i)] [] W := by
    intro f9
    induction f9 with
    | zero => intro i W _ _ _ _ _ hm; exact absurd hm (Nat.not_lt_zero _)
    | succ f9 ih_3 =>
      intro i W hi h1 gT gF hs hm
      refine j_il2 hX dX9_addFour_3 ?_
      refine j_if_lt (tgt := 41) hX dX9_addFour_4 (by decide) (fun h_4 => ?_) (fun h_4 => ?_)
      · skip
        exact j_ret hR dX9_addFour_41 (by have hi4 : i = 4 := (by omega); subst hi4; exact ⟨h1, gT, gF, hs⟩)
      · skip
        refine j_al0 hX dX9_addFour_7 rfl ?_
        refine j_getR (q := 3) hX hG fl_X9_9 rfl rfl (by decide) dX9_addFour_8 ?_
        refine j_al0 hX dX9_addFour_11 rfl ?_
        refine j_getI hX hG fl_X9_15 (Or.inl rfl) (by decide) dX9_addFour_12 ?_
        refine j_il1 hX dX9_addFour_15 ?_
        refine j_il2 hX dX9_addFour_16 ?_
        refine j_ishr hX dX9_addFour_17 (by omega) ?_
        refine j_sipush hX dX9_addFour_18 (by decide) ⟨by decide, by decide⟩ ?_
        refine j_iand hX dX9_addFour_21 ?_
        refine j_cSV3 hX hG lk_X9_19 (ok_X11_put_in (n := 500) (by decide) (by first | assumption | decide) (by first | assumption | omega | decide)) (Nat.le_of_ble_eq_true rfl) (Nat.le_of_ble_eq_true rfl) (Nat.le_of_ble_eq_true rfl) rfl dX9_addFour_22 (fun V_22 h_22 => ?_)
        subst h_22
        refine j_al0 hX dX9_addFour_25 rfl ?_
        refine j_dup hX dX9_addFour_26 rfl ?_
        refine j_getI hX hG fl_X9_15 (Or.inl rfl) (by decide) dX9_addFour_27 ?_
        refine j_iconst hX dX9_addFour_30 ⟨by decide, by decide⟩ ?_
        refine j_iadd hX dX9_addFour_31 (by rw [up_n _ (by omega)]; omega) ?_
        refine j_putI hX hG fp_X9_15 rfl (by decide) dX9_addFour_32 ?_
        refine j_inc2 hX dX9_addFour_35 rfl (by omega) ?_
        refine j_goto (tgt := 3) hX dX9_addFour_38 (by decide) ?_
        refine j_eqL (ls' := [vA 2, vI x, vI (24 - 8 * (i + 1))]) (by rw [show (24 : Int) - 8 * (i + 1) = 24 - 8 * i + -8 by omega]) ?_
        exact ih_3 _ _ (by omega) (by rw [up_s, up_n _ (by omega), h1]; omega) (lt_stepI (fun j h8 h9 => by rw [up_n _ (by omega), up_n _ (by omega)]; exact gT j h8 h9) (by rw [up_n _ (by omega), ← h1, up_s]; rfl)) (fun b hb => by rw [up_n _ (by omega), up_n _ (by omega)]; exact gF b (by omega)) (fun a b h8 h9 => by rw [up_n _ (by omega), up_n _ (by omega)]; exact hs a b h8 h9) (by omega)
  refine j_eqL (ls' := [vA 2, vI x, vI (24 - 8 * 0)]) rfl ?_
  exact lp_3 _ _ _ (by omega) (by omega) (by omega) (fun b _ => rfl) (fun a b _ _ => rfl) (Nat.lt_succ_self _)
set_option maxHeartbeats 4000000 in
theorem ok_X9_isLetter {V : VV} {x : Int}  : Ok NC yX9_isLetter cX9_isLetter 1 (some .boolean) 0 0 [vI x] V (pI (fun x9 V' => x9 = (if 97 ≤ x ∧ x ≤ 122 then 1 else 0) ∧ V' = V)) := by
  refine Ok.intro (by decide +kernel) (Nat.le_of_ble_eq_true rfl) (fun X G hX hG hR hoa hoV => ?_)
  show J X G 0 [vI x] [] V
  refine j_il0 hX dX9_isLetter_0 ?_
  refine j_bipush hX dX9_isLetter_1 (by decide) ⟨by decide, by decide⟩ ?_
  refine j_icmp_lt (tgt := 16) hX dX9_isLetter_3 (by decide) (fun h_3 => ?_) (fun h_3 => ?_)
  · skip
    refine j_iconst hX dX9_isLetter_16 ⟨by decide, by decide⟩ ?_
    exact j_retZ hR dX9_isLetter_17 (by omega) ⟨by first | rw [if_pos (by omega)] | rw [if_neg (by omega)], rfl⟩
  · skip
    refine j_il0 hX dX9_isLetter_6 ?_
    refine j_bipush hX dX9_isLetter_7 (by decide) ⟨by decide, by decide⟩ ?_
    refine j_icmp_gt (tgt := 16) hX dX9_isLetter_9 (by decide) (fun h_9 => ?_) (fun h_9 => ?_)
    · skip
      refine j_iconst hX dX9_isLetter_16 ⟨by decide, by decide⟩ ?_
      exact j_retZ hR dX9_isLetter_17 (by omega) ⟨by first | rw [if_pos (by omega)] | rw [if_neg (by omega)], rfl⟩
    · skip
      refine j_iconst hX dX9_isLetter_12 ⟨by decide, by decide⟩ ?_
      refine j_goto (tgt := 17) hX dX9_isLetter_13 (by decide) ?_
      exact j_retZ hR dX9_isLetter_17 (by omega) ⟨by first | rw [if_pos (by omega)] | rw [if_neg (by omega)], rfl⟩
set_option maxHeartbeats 4000000 in
theorem ok_X9_isDigit {V : VV} {x : Int}  : Ok NC yX9_isDigit cX9_isDigit 1 (some .boolean) 0 0 [vI x] V (pI (fun x9 V' => x9 = (if 48 ≤ x ∧ x ≤ 57 then 1 else 0) ∧ V' = V)) := by
  refine Ok.intro (by decide +kernel) (Nat.le_of_ble_eq_true rfl) (fun X G hX hG hR hoa hoV => ?_)
  show J X G 0 [vI x] [] V
  refine j_il0 hX dX9_isDigit_0 ?_
  refine j_bipush hX dX9_isDigit_1 (by decide) ⟨by decide, by decide⟩ ?_
  refine j_icmp_lt (tgt := 16) hX dX9_isDigit_3 (by decide) (fun h_3 => ?_) (fun h_3 => ?_)
  · skip
    refine j_iconst hX dX9_isDigit_16 ⟨by decide, by decide⟩ ?_
    exact j_retZ hR dX9_isDigit_17 (by omega) ⟨by first | rw [if_pos (by omega)] | rw [if_neg (by omega)], rfl⟩
  · skip
    refine j_il0 hX dX9_isDigit_6 ?_
    refine j_bipush hX dX9_isDigit_7 (by decide) ⟨by decide, by decide⟩ ?_
    refine j_icmp_gt (tgt := 16) hX dX9_isDigit_9 (by decide) (fun h_9 => ?_) (fun h_9 => ?_)
    · skip
      refine j_iconst hX dX9_isDigit_16 ⟨by decide, by decide⟩ ?_
      exact j_retZ hR dX9_isDigit_17 (by omega) ⟨by first | rw [if_pos (by omega)] | rw [if_neg (by omega)], rfl⟩
    · skip
      refine j_iconst hX dX9_isDigit_12 ⟨by decide, by decide⟩ ?_
      refine j_goto (tgt := 17) hX dX9_isDigit_13 (by decide) ?_
      exact j_retZ hR dX9_isDigit_17 (by omega) ⟨by first | rw [if_pos (by omega)] | rw [if_neg (by omega)], rfl⟩
set_option maxHeartbeats 4000000 in
theorem ok_X9_endOfRun {V : VV} {a b : Int} (h0 : 0 ≤ V 2 3 ∧ V 2 3 ≤ V 2 1 ∧ V 2 1 ≤ 500) : Ok NC yX9_endOfRun cX9_endOfRun 4 (some .int) 1 21 [vA 2, vI a, vI b] V (pI (fun x9 V' => x9 = rT (inB a b (V 3)) (V 2 1) (V 2 3) ∧ V' = V)) := by
  refine Ok.intro (by decide +kernel) (Nat.le_of_ble_eq_true rfl) (fun X G hX hG hR hoa hoV => ?_)
  show J X G 0 [vA 2, vI a, vI b, vU] [] V
  refine j_al0 hX dX9_endOfRun_0 rfl ?_
  refine j_getI hX hG fl_X9_29 (Or.inl rfl) (by decide) dX9_endOfRun_1 ?_
  refine j_is3 hX dX9_endOfRun_4 rfl ?_
  have lp_5 : ∀ (f9 : Nat) (e : Int), (V 2 3 ≤ e ∧ e ≤ V 2 1) → (rT (inB a b (V 3)) (V 2 1) (V 2 3) = rT (inB a b (V 3)) (V 2 1) e) → ((V 2 1 - e).toNat) < f9 → J X G 5 [vA 2, vI a, vI b, vI e] [] V := by
    intro f9
    induction f9 with
    | zero => intro e _ _ hm; exact absurd hm (Nat.not_lt_zero _)
    | succ f9 ih_5 =>
      intro e he hr hm
      refine j_il3 hX dX9_endOfRun_5 ?_
      refine j_al0 hX dX9_endOfRun_6 rfl ?_
      refine j_getI hX hG fl_X9_15 (Or.inl rfl) (by decide) dX9_endOfRun_7 ?_
      refine j_icmp_ge (tgt := 43) hX dX9_endOfRun_10 (by decide) (fun h_10 => ?_) (fun h_10 => ?_)
      · skip
        refine j_il3 hX dX9_endOfRun_43 ?_
        exact j_retI hR dX9_endOfRun_44 ⟨by rw [hr]; exact (rT_no (by first | (left; omega) | (right; unfold inB; simp; omega))).symm, rfl⟩
      · skip
        refine j_al0 hX dX9_endOfRun_13 rfl ?_
        refine j_getR (q := 3) hX hG fl_X9_9 rfl rfl (by decide) dX9_endOfRun_14 ?_
        refine j_il3 hX dX9_endOfRun_17 ?_
        refine j_pSI2 hX hG lk_X9_32 (ok_X11_at_in (n := 500) (by decide) (by first | assumption | decide) (by first | assumption | omega | decide)) (Nat.le_of_ble_eq_true rfl) (Nat.le_of_ble_eq_true rfl) (Nat.le_of_ble_eq_true rfl) rfl dX9_endOfRun_18 ?_
        refine j_il1 hX dX9_endOfRun_21 ?_
        refine j_icmp_lt (tgt := 43) hX dX9_endOfRun_22 (by decide) (fun h_22 => ?_) (fun h_22 => ?_)
        · skip
          refine j_il3 hX dX9_endOfRun_43 ?_
          exact j_retI hR dX9_endOfRun_44 ⟨by rw [hr]; exact (rT_no (by first | (left; omega) | (right; unfold inB; simp; omega))).symm, rfl⟩
        · skip
          refine j_al0 hX dX9_endOfRun_25 rfl ?_
          refine j_getR (q := 3) hX hG fl_X9_9 rfl rfl (by decide) dX9_endOfRun_26 ?_
          refine j_il3 hX dX9_endOfRun_29 ?_
          refine j_pSI2 hX hG lk_X9_32 (ok_X11_at_in (n := 500) (by decide) (by first | assumption | decide) (by first | assumption | omega | decide)) (Nat.le_of_ble_eq_true rfl) (Nat.le_of_ble_eq_true rfl) (Nat.le_of_ble_eq_true rfl) rfl dX9_endOfRun_30 ?_
          refine j_il2 hX dX9_endOfRun_33 ?_
          refine j_icmp_gt (tgt := 43) hX dX9_endOfRun_34 (by decide) (fun h_34 => ?_) (fun h_34 => ?_)
          · skip
            refine j_il3 hX dX9_endOfRun_43 ?_
            exact j_retI hR dX9_endOfRun_44 ⟨by rw [hr]; exact (rT_no (by first | (left; omega) | (right; unfold inB; simp; omega))).symm, rfl⟩
          · skip
            refine j_inc3 hX dX9_endOfRun_37 rfl (by omega) ?_
            refine j_goto (tgt := 5) hX dX9_endOfRun_40 (by decide) ?_
            exact ih_5 _ (by omega) (by rw [hr]; exact rT_go (by omega) (by unfold inB; simp; omega)) (by omega)
  exact lp_5 _ _ (by omega) rfl (Nat.lt_succ_self _)
set_option maxHeartbeats 4000000 in
theorem ok_X9_advance {V : VV} (ht : TB V) (h5 : 0 ≤ V 2 5 ∧ V 2 5 ≤ V 2 1) : Ok NC yX9_advance cX9_advance 2 none 2 44 [vA 2] V (pV (fun V' => TK V' (sgS (V 3) (V 2 1) (V 2 5)) ∧ V' 2 1 = V 2 1 ∧ fr [2] V V')) := by
  refine Ok.intro (by decide +kernel) (Nat.le_of_ble_eq_true rfl) (fun X G hX hG hR hoa hoV => ?_)
  show J X G 0 [vA 2, vU] [] V
  have ht1 := ht.1
  have ht2 := ht.2.1
  refine j_al0 hX dX9_advance_0 rfl ?_
  refine j_al0 hX dX9_advance_1 rfl ?_
  refine j_getI hX hG fl_X9_23 (Or.inl rfl) (by decide) dX9_advance_2 ?_
  refine j_putI hX hG fp_X9_29 rfl (by decide) dX9_advance_5 ?_
  have lp_8 : ∀ (f9 : Nat) (s : Int), (0 ≤ s ∧ s ≤ V 2 1) → (rT (blB (V 3)) (V 2 1) (V 2 5) = rT (blB (V 3)) (V 2 1) s) → ((V 2 1 - s).toNat) < f9 → J X G 8 [vA 2, vU] [] (up V 2 3 s) := by
    intro f9
    induction f9 with
    | zero => intro s _ _ hm; exact absurd hm (Nat.not_lt_zero _)
    | succ f9 ih_8 =>
      intro s hs hr hm
      have e3 : up V 2 3 s 2 3 = s := up_s ..
      have e1 : up V 2 3 s 2 1 = V 2 1 := up_n _ (by decide)
      have er : up V 2 3 s 3 = V 3 := up_r _ (by decide)
      have jn_64 : (s = sgS (V 3) (V 2 1) (V 2 5)) → J X G 64 [vA 2, vU] [] (up V 2 3 s) := by
        intro  hS
        refine j_al0 hX dX9_advance_64 rfl ?_
        refine j_getR (q := 3) hX hG fl_X9_9 rfl rfl (by decide) dX9_advance_65 ?_
        refine j_al0 hX dX9_advance_68 rfl ?_
        refine j_getI hX hG fl_X9_29 (Or.inl rfl) (by decide) dX9_advance_69 ?_
        refine j_pSI2 hX hG lk_X9_32 (ok_X11_at (n := 500) (by decide) (by first | assumption | decide)) (Nat.le_of_ble_eq_true rfl) (Nat.le_of_ble_eq_true rfl) (Nat.le_of_ble_eq_true rfl) rfl dX9_advance_72 ?_
        obtain ⟨c, hc, hc2⟩ : ∃ c, (if 0 ≤ up V 2 3 s 2 3 ∧ up V 2 3 s 2 3 < 500 then up V 2 3 s 3 (up V 2 3 s 2 3) else 0) = c ∧ (s < V 2 1 → c = V 3 s) := ⟨_, rfl, fun h => by rw [e3, er, if_pos (by omega)]⟩
        rw [hc]
        refine j_is1 hX dX9_advance_75 rfl ?_
        refine j_al0 hX dX9_advance_76 rfl ?_
        refine j_getI hX hG fl_X9_29 (Or.inl rfl) (by decide) dX9_advance_77 ?_
        refine j_al0 hX dX9_advance_80 rfl ?_
        refine j_getI hX hG fl_X9_15 (Or.inl rfl) (by decide) dX9_advance_81 ?_
        refine j_icmp_lt (tgt := 103) hX dX9_advance_84 (by decide) (fun h_84 => ?_) (fun h_84 => ?_)
        · skip
          have hc3 : c = V 3 s := hc2 (by omega)
          have hE := sgE_b (T := V 3) (L := V 2 1) (s := s) (by omega)
          have hT9 := ht.2.2 s (by omega) (by omega)
          refine j_il1 hX dX9_advance_103 ?_
          refine j_pSI1 hX hG lk_X9_39 (ok_X9_isLetter ) (Nat.le_of_ble_eq_true rfl) (Nat.le_of_ble_eq_true rfl) (Nat.le_of_ble_eq_true rfl) rfl dX9_advance_104 ?_
          refine j_ifz_eq (tgt := 130) hX dX9_advance_107 (by decide) (fun h_107 => ?_) (fun h_107 => ?_)
          · skip
            refine j_il1 hX dX9_advance_130 ?_
            refine j_pSI1 hX hG lk_X9_47 (ok_X9_isDigit ) (Nat.le_of_ble_eq_true rfl) (Nat.le_of_ble_eq_true rfl) (Nat.le_of_ble_eq_true rfl) rfl dX9_advance_131 ?_
            refine j_ifz_eq (tgt := 222) hX dX9_advance_134 (by decide) (fun h_134 => ?_) (fun h_134 => ?_)
            · skip
              refine j_al0 hX dX9_advance_222 rfl ?_
              refine j_al0 hX dX9_advance_223 rfl ?_
              refine j_getI hX hG fl_X9_29 (Or.inl rfl) (by decide) dX9_advance_224 ?_
              refine j_iconst hX dX9_advance_227 ⟨by decide, by decide⟩ ?_
              refine j_iadd hX dX9_advance_228 (by omega) ?_
              refine j_putI hX hG fp_X9_23 rfl (by decide) dX9_advance_229 ?_
              refine j_al0 hX dX9_advance_232 rfl ?_
              refine j_il1 hX dX9_advance_233 ?_
              refine j_bipush hX dX9_advance_234 (by decide) ⟨by decide, by decide⟩ ?_
              refine j_icmp_eq (tgt := 257) hX dX9_advance_236 (by decide) (fun h_236 => ?_) (fun h_236 => ?_)
              · skip
                refine j_iconst hX dX9_advance_257 ⟨by decide, by decide⟩ ?_
                refine j_goto (tgt := 262) hX dX9_advance_258 (by decide) ?_
                refine j_putI hX hG fp_X9_36 rfl (by decide) dX9_advance_262 ?_
                exact j_ret hR dX9_advance_265 (by rw [← hS]; exact ⟨TK_of (V := V) (by omega) (by omega) (by funext b; simp [up]) (by simp [up]) (by simp [up]) (by simp [up]; unfold sgK; (repeat' split); all_goals omega) (by simp [up]; first | done | (unfold sgE; (repeat' split); all_goals omega)) (fun h => by first | (simp [up] at h; done) | (simp [up]; unfold sgN; split; all_goals omega)), by simp [up], by (repeat (refine fr_u ?_ (by decide))); exact fr_0⟩)
              · skip
                refine j_il1 hX dX9_advance_239 ?_
                refine j_bipush hX dX9_advance_240 (by decide) ⟨by decide, by decide⟩ ?_
                refine j_icmp_eq (tgt := 257) hX dX9_advance_242 (by decide) (fun h_242 => ?_) (fun h_242 => ?_)
                · skip
                  refine j_iconst hX dX9_advance_257 ⟨by decide, by decide⟩ ?_
                  refine j_goto (tgt := 262) hX dX9_advance_258 (by decide) ?_
                  refine j_putI hX hG fp_X9_36 rfl (by decide) dX9_advance_262 ?_
                  exact j_ret hR dX9_advance_265 (by rw [← hS]; exact ⟨TK_of (V := V) (by omega) (by omega) (by funext b; simp [up]) (by simp [up]) (by simp [up]) (by simp [up]; unfold sgK; (repeat' split); all_goals omega) (by simp [up]; first | done | (unfold sgE; (repeat' split); all_goals omega)) (fun h => by first | (simp [up] at h; done) | (simp [up]; unfold sgN; split; all_goals omega)), by simp [up], by (repeat (refine fr_u ?_ (by decide))); exact fr_0⟩)
                · skip
                  refine j_il1 hX dX9_advance_245 ?_
                  refine j_bipush hX dX9_advance_246 (by decide) ⟨by decide, by decide⟩ ?_
                  refine j_icmp_eq (tgt := 257) hX dX9_advance_248 (by decide) (fun h_248 => ?_) (fun h_248 => ?_)
                  · skip
                    refine j_iconst hX dX9_advance_257 ⟨by decide, by decide⟩ ?_
                    refine j_goto (tgt := 262) hX dX9_advance_258 (by decide) ?_
                    refine j_putI hX hG fp_X9_36 rfl (by decide) dX9_advance_262 ?_
                    exact j_ret hR dX9_advance_265 (by rw [← hS]; exact ⟨TK_of (V := V) (by omega) (by omega) (by funext b; simp [up]) (by simp [up]) (by simp [up]) (by simp [up]; unfold sgK; (repeat' split); all_goals omega) (by simp [up]; first | done | (unfold sgE; (repeat' split); all_goals omega)) (fun h => by first | (simp [up] at h; done) | (simp [up]; unfold sgN; split; all_goals omega)), by simp [up], by (repeat (refine fr_u ?_ (by decide))); exact fr_0⟩)
                  · skip
                    refine j_il1 hX dX9_advance_251 ?_
                    refine j_bipush hX dX9_advance_252 (by decide) ⟨by decide, by decide⟩ ?_
                    refine j_icmp_ne (tgt := 261) hX dX9_advance_254 (by decide) (fun h_254 => ?_) (fun h_254 => ?_)
                    · skip
                      refine j_iconst hX dX9_advance_261 ⟨by decide, by decide⟩ ?_
                      refine j_putI hX hG fp_X9_36 rfl (by decide) dX9_advance_262 ?_
                      exact j_ret hR dX9_advance_265 (by rw [← hS]; exact ⟨TK_of (V := V) (by omega) (by omega) (by funext b; simp [up]) (by simp [up]) (by simp [up]) (by simp [up]; unfold sgK; (repeat' split); all_goals omega) (by simp [up]; first | done | (unfold sgE; (repeat' split); all_goals omega)) (fun h => by first | (simp [up] at h; done) | (simp [up]; unfold sgN; split; all_goals omega)), by simp [up], by (repeat (refine fr_u ?_ (by decide))); exact fr_0⟩)
                    · skip
                      refine j_iconst hX dX9_advance_257 ⟨by decide, by decide⟩ ?_
                      refine j_goto (tgt := 262) hX dX9_advance_258 (by decide) ?_
                      refine j_putI hX hG fp_X9_36 rfl (by decide) dX9_advance_262 ?_
                      exact j_ret hR dX9_advance_265 (by rw [← hS]; exact ⟨TK_of (V := V) (by omega) (by omega) (by funext b; simp [up]) (by simp [up]) (by simp [up]) (by simp [up]; unfold sgK; (repeat' split); all_goals omega) (by simp [up]; first | done | (unfold sgE; (repeat' split); all_goals omega)) (fun h => by first | (simp [up] at h; done) | (simp [up]; unfold sgN; split; all_goals omega)), by simp [up], by (repeat (refine fr_u ?_ (by decide))); exact fr_0⟩)
            · skip
              refine j_al0 hX dX9_advance_137 rfl ?_
              refine j_al0 hX dX9_advance_138 rfl ?_
              refine j_bipush hX dX9_advance_139 (by decide) ⟨by decide, by decide⟩ ?_
              refine j_bipush hX dX9_advance_141 (by decide) ⟨by decide, by decide⟩ ?_
              refine j_pVI2 (ci := 9) hX hG lk_X9_43 (ok_X9_endOfRun (by first | assumption | omega | decide)) (by decide) rfl (Nat.le_of_ble_eq_true rfl) (Nat.le_of_ble_eq_true rfl) (Nat.le_of_ble_eq_true rfl) rfl dX9_advance_143 ?_
              refine j_eqS (st' := [vI (sgE (V 3) (V 2 1) s), vA 2]) (by unfold sgE; rw [e1, e3, er, if_neg (by omega), if_neg (by omega), if_pos (by omega)]) ?_
              refine j_putI hX hG fp_X9_23 rfl (by decide) dX9_advance_146 ?_
              refine j_al0 hX dX9_advance_149 rfl ?_
              refine j_al0 hX dX9_advance_150 rfl ?_
              refine j_getI hX hG fl_X9_23 (Or.inl rfl) (by decide) dX9_advance_151 ?_
              refine j_al0 hX dX9_advance_154 rfl ?_
              refine j_getI hX hG fl_X9_29 (Or.inl rfl) (by decide) dX9_advance_155 ?_
              refine j_eqS (st' := [vI s, vI (sgE (V 3) (V 2 1) s), vA 2]) (by simp [up]) ?_
              refine j_isub hX dX9_advance_158 (by omega) ?_
              refine j_iconst hX dX9_advance_159 ⟨by decide, by decide⟩ ?_
              refine j_icmp_le (tgt := 167) hX dX9_advance_160 (by decide) (fun h_160 => ?_) (fun h_160 => ?_)
              · skip
                refine j_iconst hX dX9_advance_167 ⟨by decide, by decide⟩ ?_
                refine j_putI hX hG fp_X9_36 rfl (by decide) dX9_advance_168 ?_
                refine j_al0 hX dX9_advance_171 rfl ?_
                refine j_al0 hX dX9_advance_172 rfl ?_
                refine j_getI hX hG fl_X9_23 (Or.inl rfl) (by decide) dX9_advance_173 ?_
                refine j_al0 hX dX9_advance_176 rfl ?_
                refine j_getI hX hG fl_X9_29 (Or.inl rfl) (by decide) dX9_advance_177 ?_
                refine j_eqS (st' := [vI s, vI (sgE (V 3) (V 2 1) s), vA 2]) (by simp [up]) ?_
                refine j_isub hX dX9_advance_180 (by omega) ?_
                refine j_iconst hX dX9_advance_181 ⟨by decide, by decide⟩ ?_
                refine j_icmp_le (tgt := 212) hX dX9_advance_182 (by decide) (fun h_182 => ?_) (fun h_182 => ?_)
                · skip
                  refine j_il1 hX dX9_advance_212 ?_
                  refine j_bipush hX dX9_advance_213 (by decide) ⟨by decide, by decide⟩ ?_
                  refine j_isub hX dX9_advance_215 (by omega) ?_
                  refine j_putI hX hG fp_X9_50 rfl (by decide) dX9_advance_216 ?_
                  refine j_goto (tgt := 265) hX dX9_advance_219 (by decide) ?_
                  exact j_ret hR dX9_advance_265 (by rw [← hS]; exact ⟨TK_of (V := V) (by omega) (by omega) (by funext b; simp [up]) (by simp [up]) (by simp [up]) (by simp [up]; unfold sgK; (repeat' split); all_goals omega) (by simp [up]; first | done | (unfold sgE; (repeat' split); all_goals omega)) (fun h => by first | (simp [up] at h; done) | (simp [up]; unfold sgN; split; all_goals omega)), by simp [up], by (repeat (refine fr_u ?_ (by decide))); exact fr_0⟩)
                · skip
                  refine j_bipush hX dX9_advance_185 (by decide) ⟨by decide, by decide⟩ ?_
                  refine j_il1 hX dX9_advance_187 ?_
                  refine j_bipush hX dX9_advance_188 (by decide) ⟨by decide, by decide⟩ ?_
                  refine j_isub hX dX9_advance_190 (by omega) ?_
                  refine j_imul hX dX9_advance_191 (by omega) ?_
                  refine j_al0 hX dX9_advance_192 rfl ?_
                  refine j_getR (q := 3) hX hG fl_X9_9 rfl rfl (by decide) dX9_advance_193 ?_
                  refine j_al0 hX dX9_advance_196 rfl ?_
                  refine j_getI hX hG fl_X9_29 (Or.inl rfl) (by decide) dX9_advance_197 ?_
                  refine j_eqS (st' := [vI s, vA 3, vI (10 * (c - 48)), vA 2]) (by simp [up]) ?_
                  have hT8 := ht.2.2 (s + 1) (by omega) (by omega)
                  refine j_iconst hX dX9_advance_200 ⟨by decide, by decide⟩ ?_
                  refine j_iadd hX dX9_advance_201 (by omega) ?_
                  refine j_pSI2 hX hG lk_X9_32 (ok_X11_at_in (n := 500) (by decide) (by first | assumption | decide) (by first | assumption | omega | decide)) (Nat.le_of_ble_eq_true rfl) (Nat.le_of_ble_eq_true rfl) (Nat.le_of_ble_eq_true rfl) rfl dX9_advance_202 ?_
                  refine j_eqS (st' := [vI (V 3 (s + 1)), vI (10 * (c - 48)), vA 2]) (by simp [up]) ?_
                  refine j_iadd hX dX9_advance_205 (by omega) ?_
                  refine j_bipush hX dX9_advance_206 (by decide) ⟨by decide, by decide⟩ ?_
                  refine j_isub hX dX9_advance_208 (by omega) ?_
                  refine j_goto (tgt := 216) hX dX9_advance_209 (by decide) ?_
                  refine j_putI hX hG fp_X9_50 rfl (by decide) dX9_advance_216 ?_
                  refine j_goto (tgt := 265) hX dX9_advance_219 (by decide) ?_
                  exact j_ret hR dX9_advance_265 (by rw [← hS]; exact ⟨TK_of (V := V) (by omega) (by omega) (by funext b; simp [up]) (by simp [up]) (by simp [up]) (by simp [up]; unfold sgK; (repeat' split); all_goals omega) (by simp [up]; first | done | (unfold sgE; (repeat' split); all_goals omega)) (fun h => by first | (simp [up] at h; done) | (simp [up]; unfold sgN; split; all_goals omega)), by simp [up], by (repeat (refine fr_u ?_ (by decide))); exact fr_0⟩)
              · skip
                refine j_iconst hX dX9_advance_163 ⟨by decide, by decide⟩ ?_
                refine j_goto (tgt := 168) hX dX9_advance_164 (by decide) ?_
                refine j_putI hX hG fp_X9_36 rfl (by decide) dX9_advance_168 ?_
                refine j_al0 hX dX9_advance_171 rfl ?_
                refine j_al0 hX dX9_advance_172 rfl ?_
                refine j_getI hX hG fl_X9_23 (Or.inl rfl) (by decide) dX9_advance_173 ?_
                refine j_al0 hX dX9_advance_176 rfl ?_
                refine j_getI hX hG fl_X9_29 (Or.inl rfl) (by decide) dX9_advance_177 ?_
                refine j_eqS (st' := [vI s, vI (sgE (V 3) (V 2 1) s), vA 2]) (by simp [up]) ?_
                refine j_isub hX dX9_advance_180 (by omega) ?_
                refine j_iconst hX dX9_advance_181 ⟨by decide, by decide⟩ ?_
                refine j_icmp_le (tgt := 212) hX dX9_advance_182 (by decide) (fun h_182 => ?_) (fun h_182 => ?_)
                · skip
                  refine j_il1 hX dX9_advance_212 ?_
                  refine j_bipush hX dX9_advance_213 (by decide) ⟨by decide, by decide⟩ ?_
                  refine j_isub hX dX9_advance_215 (by omega) ?_
                  refine j_putI hX hG fp_X9_50 rfl (by decide) dX9_advance_216 ?_
                  refine j_goto (tgt := 265) hX dX9_advance_219 (by decide) ?_
                  exact j_ret hR dX9_advance_265 (by rw [← hS]; exact ⟨TK_of (V := V) (by omega) (by omega) (by funext b; simp [up]) (by simp [up]) (by simp [up]) (by simp [up]; unfold sgK; (repeat' split); all_goals omega) (by simp [up]; first | done | (unfold sgE; (repeat' split); all_goals omega)) (fun h => by first | (simp [up] at h; done) | (simp [up]; unfold sgN; split; all_goals omega)), by simp [up], by (repeat (refine fr_u ?_ (by decide))); exact fr_0⟩)
                · skip
                  refine j_bipush hX dX9_advance_185 (by decide) ⟨by decide, by decide⟩ ?_
                  refine j_il1 hX dX9_advance_187 ?_
                  refine j_bipush hX dX9_advance_188 (by decide) ⟨by decide, by decide⟩ ?_
                  refine j_isub hX dX9_advance_190 (by omega) ?_
                  refine j_imul hX dX9_advance_191 (by omega) ?_
                  refine j_al0 hX dX9_advance_192 rfl ?_
                  refine j_getR (q := 3) hX hG fl_X9_9 rfl rfl (by decide) dX9_advance_193 ?_
                  refine j_al0 hX dX9_advance_196 rfl ?_
                  refine j_getI hX hG fl_X9_29 (Or.inl rfl) (by decide) dX9_advance_197 ?_
                  refine j_eqS (st' := [vI s, vA 3, vI (10 * (c - 48)), vA 2]) (by simp [up]) ?_
                  have hT8 := ht.2.2 (s + 1) (by omega) (by omega)
                  refine j_iconst hX dX9_advance_200 ⟨by decide, by decide⟩ ?_
                  refine j_iadd hX dX9_advance_201 (by omega) ?_
                  refine j_pSI2 hX hG lk_X9_32 (ok_X11_at_in (n := 500) (by decide) (by first | assumption | decide) (by first | assumption | omega | decide)) (Nat.le_of_ble_eq_true rfl) (Nat.le_of_ble_eq_true rfl) (Nat.le_of_ble_eq_true rfl) rfl dX9_advance_202 ?_
                  refine j_eqS (st' := [vI (V 3 (s + 1)), vI (10 * (c - 48)), vA 2]) (by simp [up]) ?_
                  refine j_iadd hX dX9_advance_205 (by omega) ?_
                  refine j_bipush hX dX9_advance_206 (by decide) ⟨by decide, by decide⟩ ?_
                  refine j_isub hX dX9_advance_208 (by omega) ?_
                  refine j_goto (tgt := 216) hX dX9_advance_209 (by decide) ?_
                  refine j_putI hX hG fp_X9_50 rfl (by decide) dX9_advance_216 ?_
                  refine j_goto (tgt := 265) hX dX9_advance_219 (by decide) ?_
                  exact j_ret hR dX9_advance_265 (by rw [← hS]; exact ⟨TK_of (V := V) (by omega) (by omega) (by funext b; simp [up]) (by simp [up]) (by simp [up]) (by simp [up]; unfold sgK; (repeat' split); all_goals omega) (by simp [up]; first | done | (unfold sgE; (repeat' split); all_goals omega)) (fun h => by first | (simp [up] at h; done) | (simp [up]; unfold sgN; split; all_goals omega)), by simp [up], by (repeat (refine fr_u ?_ (by decide))); exact fr_0⟩)
          · skip
            refine j_al0 hX dX9_advance_110 rfl ?_
            refine j_al0 hX dX9_advance_111 rfl ?_
            refine j_bipush hX dX9_advance_112 (by decide) ⟨by decide, by decide⟩ ?_
            refine j_bipush hX dX9_advance_114 (by decide) ⟨by decide, by decide⟩ ?_
            refine j_pVI2 (ci := 9) hX hG lk_X9_43 (ok_X9_endOfRun (by first | assumption | omega | decide)) (by decide) rfl (Nat.le_of_ble_eq_true rfl) (Nat.le_of_ble_eq_true rfl) (Nat.le_of_ble_eq_true rfl) rfl dX9_advance_116 ?_
            refine j_eqS (st' := [vI (sgE (V 3) (V 2 1) s), vA 2]) (by unfold sgE; rw [e1, e3, er, if_neg (by omega), if_pos (by omega)]) ?_
            refine j_putI hX hG fp_X9_23 rfl (by decide) dX9_advance_119 ?_
            refine j_al0 hX dX9_advance_122 rfl ?_
            refine j_iconst hX dX9_advance_123 ⟨by decide, by decide⟩ ?_
            refine j_putI hX hG fp_X9_36 rfl (by decide) dX9_advance_124 ?_
            refine j_goto (tgt := 265) hX dX9_advance_127 (by decide) ?_
            exact j_ret hR dX9_advance_265 (by rw [← hS]; exact ⟨TK_of (V := V) (by omega) (by omega) (by funext b; simp [up]) (by simp [up]) (by simp [up]) (by simp [up]; unfold sgK; (repeat' split); all_goals omega) (by simp [up]; first | done | (unfold sgE; (repeat' split); all_goals omega)) (fun h => by first | (simp [up] at h; done) | (simp [up]; unfold sgN; split; all_goals omega)), by simp [up], by (repeat (refine fr_u ?_ (by decide))); exact fr_0⟩)
        · skip
          refine j_al0 hX dX9_advance_87 rfl ?_
          refine j_al0 hX dX9_advance_88 rfl ?_
          refine j_getI hX hG fl_X9_29 (Or.inl rfl) (by decide) dX9_advance_89 ?_
          refine j_putI hX hG fp_X9_23 rfl (by decide) dX9_advance_92 ?_
          refine j_al0 hX dX9_advance_95 rfl ?_
          refine j_iconst hX dX9_advance_96 ⟨by decide, by decide⟩ ?_
          refine j_putI hX hG fp_X9_36 rfl (by decide) dX9_advance_97 ?_
          refine j_goto (tgt := 265) hX dX9_advance_100 (by decide) ?_
          exact j_ret hR dX9_advance_265 (by rw [← hS]; exact ⟨TK_of (V := V) (by omega) (by omega) (by funext b; simp [up]) (by simp [up]) (by simp [up]) (by simp [up]; unfold sgK; (repeat' split); all_goals omega) (by simp [up]; first | done | (unfold sgE; (repeat' split); all_goals omega)) (fun h => by first | (simp [up] at h; done) | (simp [up]; unfold sgN; split; all_goals omega)), by simp [up], by (repeat (refine fr_u ?_ (by decide))); exact fr_0⟩)
      refine j_al0 hX dX9_advance_8 rfl ?_
      refine j_getI hX hG fl_X9_29 (Or.inl rfl) (by decide) dX9_advance_9 ?_
      refine j_al0 hX dX9_advance_12 rfl ?_
      refine j_getI hX hG fl_X9_15 (Or.inl rfl) (by decide) dX9_advance_13 ?_
      refine j_icmp_ge (tgt := 64) hX dX9_advance_16 (by decide) (fun h_16 => ?_) (fun h_16 => ?_)
      · skip
        exact jn_64  (by unfold sgS; rw [hr]; exact (rT_no (by first | (left; omega) | (right; unfold blB; rw [er, e3] at h_32 h_48; simp [h_32, h_48]))).symm)
      · skip
        refine j_al0 hX dX9_advance_19 rfl ?_
        refine j_getR (q := 3) hX hG fl_X9_9 rfl rfl (by decide) dX9_advance_20 ?_
        refine j_al0 hX dX9_advance_23 rfl ?_
        refine j_getI hX hG fl_X9_29 (Or.inl rfl) (by decide) dX9_advance_24 ?_
        refine j_pSI2 hX hG lk_X9_32 (ok_X11_at_in (n := 500) (by decide) (by first | assumption | decide) (by first | assumption | omega | decide)) (Nat.le_of_ble_eq_true rfl) (Nat.le_of_ble_eq_true rfl) (Nat.le_of_ble_eq_true rfl) rfl dX9_advance_27 ?_
        refine j_bipush hX dX9_advance_30 (by decide) ⟨by decide, by decide⟩ ?_
        refine j_icmp_eq (tgt := 51) hX dX9_advance_32 (by decide) (fun h_32 => ?_) (fun h_32 => ?_)
        · skip
          refine j_al0 hX dX9_advance_51 rfl ?_
          refine j_dup hX dX9_advance_52 rfl ?_
          refine j_getI hX hG fl_X9_29 (Or.inl rfl) (by decide) dX9_advance_53 ?_
          refine j_iconst hX dX9_advance_56 ⟨by decide, by decide⟩ ?_
          refine j_iadd hX dX9_advance_57 (by omega) ?_
          refine j_putI hX hG fp_X9_29 rfl (by decide) dX9_advance_58 ?_
          refine j_goto (tgt := 8) hX dX9_advance_61 (by decide) ?_
          refine j_eqV (V' := up V 2 3 (s + 1)) (by rw [up_s, up_up]) ?_
          exact ih_8 _ (by omega) (by rw [hr]; exact rT_go (by omega) (by unfold blB; first | (rw [er, e3] at h_32; simp [h_32]; done) | (rw [er, e3] at h_48; simp [h_48]))) (by omega)
        · skip
          refine j_al0 hX dX9_advance_35 rfl ?_
          refine j_getR (q := 3) hX hG fl_X9_9 rfl rfl (by decide) dX9_advance_36 ?_
          refine j_al0 hX dX9_advance_39 rfl ?_
          refine j_getI hX hG fl_X9_29 (Or.inl rfl) (by decide) dX9_advance_40 ?_
          refine j_pSI2 hX hG lk_X9_32 (ok_X11_at_in (n := 500) (by decide) (by first | assumption | decide) (by first | assumption | omega | decide)) (Nat.le_of_ble_eq_true rfl) (Nat.le_of_ble_eq_true rfl) (Nat.le_of_ble_eq_true rfl) rfl dX9_advance_43 ?_
          refine j_bipush hX dX9_advance_46 (by decide) ⟨by decide, by decide⟩ ?_
          refine j_icmp_ne (tgt := 64) hX dX9_advance_48 (by decide) (fun h_48 => ?_) (fun h_48 => ?_)
          · skip
            exact jn_64  (by unfold sgS; rw [hr]; exact (rT_no (by first | (left; omega) | (right; unfold blB; rw [er, e3] at h_32 h_48; simp [h_32, h_48]))).symm)
          · skip
            refine j_al0 hX dX9_advance_51 rfl ?_
            refine j_dup hX dX9_advance_52 rfl ?_
            refine j_getI hX hG fl_X9_29 (Or.inl rfl) (by decide) dX9_advance_53 ?_
            refine j_iconst hX dX9_advance_56 ⟨by decide, by decide⟩ ?_
            refine j_iadd hX dX9_advance_57 (by omega) ?_
            refine j_putI hX hG fp_X9_29 rfl (by decide) dX9_advance_58 ?_
            refine j_goto (tgt := 8) hX dX9_advance_61 (by decide) ?_
            refine j_eqV (V' := up V 2 3 (s + 1)) (by rw [up_s, up_up]) ?_
            exact ih_8 _ (by omega) (by rw [hr]; exact rT_go (by omega) (by unfold blB; first | (rw [er, e3] at h_32; simp [h_32]; done) | (rw [er, e3] at h_48; simp [h_48]))) (by omega)
  exact lp_8 _ _ (by omega) rfl (Nat.lt_succ_self _)
set_option maxHeartbeats 4000000 in
theorem ok_X9_rewind {V : VV} (ht : TB V) : Ok NC yX9_rewind cX9_rewind 1 none 3 65 [vA 2] V (pV (fun V' => TK V' (sgS (V 3) (V 2 1) 0) ∧ V' 2 1 = V 2 1 ∧ fr [2] V V')) := by
  refine Ok.intro (by decide +kernel) (Nat.le_of_ble_eq_true rfl) (fun X G hX hG hR hoa hoV => ?_)
  show J X G 0 [vA 2] [] V
  refine j_al0 hX dX9_rewind_0 rfl ?_
  refine j_iconst hX dX9_rewind_1 ⟨by decide, by decide⟩ ?_
  refine j_putI hX hG fp_X9_23 rfl (by decide) dX9_rewind_2 ?_
  refine j_al0 hX dX9_rewind_5 rfl ?_
  have e5 : up V 2 5 0 2 5 = 0 := up_s ..
  have e1 : up V 2 5 0 2 1 = V 2 1 := up_n _ (by decide)
  have er : up V 2 5 0 3 = V 3 := up_r _ (by decide)
  have ht9 : TB (up V 2 5 0) := by unfold TB; rw [e1, er]; exact ht
  have ht1 := ht.1
  refine j_cVV0 (ci := 9) hX hG lk_X9_26 (ok_X9_advance (by first | assumption | omega | decide) (by first | assumption | omega | decide)) (by decide) rfl (Nat.le_of_ble_eq_true rfl) (Nat.le_of_ble_eq_true rfl) (Nat.le_of_ble_eq_true rfl) rfl dX9_rewind_6 (fun V_6 h_6 => ?_)
  rw [e5, e1, er] at h_6
  exact j_ret hR dX9_rewind_9 ⟨h_6.1, h_6.2.1, fr_t (fr_u fr_0 (by decide)) h_6.2.2⟩
set_option maxHeartbeats 4000000 in
theorem ok_X9_isSymbol {V : VV} {s c : Int} (ht : TB V) (hk : TK V s) : Ok NC yX9_isSymbol cX9_isSymbol 2 (some .boolean) 1 21 [vA 2, vI c] V (pI (fun x9 V' => x9 = (if isSy (V 3) (V 2 1) s c = true then 1 else 0) ∧ V' = V)) := by
  refine Ok.intro (by decide +kernel) (Nat.le_of_ble_eq_true rfl) (fun X G hX hG hR hoa hoV => ?_)
  show J X G 0 [vA 2, vI c] [] V
  obtain ⟨k0, k1, k2, k3, k4, k5⟩ := hk
  have ht1 := ht.1
  have ht2 := ht.2.1
  refine j_al0 hX dX9_isSymbol_0 rfl ?_
  refine j_getI hX hG fl_X9_36 (Or.inl rfl) (by decide) dX9_isSymbol_1 ?_
  refine j_iconst hX dX9_isSymbol_4 ⟨by decide, by decide⟩ ?_
  refine j_icmp_ne (tgt := 27) hX dX9_isSymbol_5 (by decide) (fun h_5 => ?_) (fun h_5 => ?_)
  · skip
    refine j_iconst hX dX9_isSymbol_27 ⟨by decide, by decide⟩ ?_
    exact j_retZ hR dX9_isSymbol_28 (by omega) ⟨by first | (rw [if_pos (isSy_t.mpr ⟨by omega, by omega⟩)]; done) | rw [if_neg (fun q => by have := isSy_t.mp q; omega)], rfl⟩
  · skip
    have hl9 := sgK_lt (T := V 3) (L := V 2 1) (s := s) (by omega)
    refine j_al0 hX dX9_isSymbol_8 rfl ?_
    refine j_getR (q := 3) hX hG fl_X9_9 rfl rfl (by decide) dX9_isSymbol_9 ?_
    refine j_al0 hX dX9_isSymbol_12 rfl ?_
    refine j_getI hX hG fl_X9_29 (Or.inl rfl) (by decide) dX9_isSymbol_13 ?_
    refine j_pSI2 hX hG lk_X9_32 (ok_X11_at_in (n := 500) (by decide) (by first | assumption | decide) (by first | assumption | omega | decide)) (Nat.le_of_ble_eq_true rfl) (Nat.le_of_ble_eq_true rfl) (Nat.le_of_ble_eq_true rfl) rfl dX9_isSymbol_16 ?_
    refine j_eqS (st' := [vI (V 3 s)]) (by rw [k2]) ?_
    refine j_il1 hX dX9_isSymbol_19 ?_
    refine j_icmp_ne (tgt := 27) hX dX9_isSymbol_20 (by decide) (fun h_20 => ?_) (fun h_20 => ?_)
    · skip
      refine j_iconst hX dX9_isSymbol_27 ⟨by decide, by decide⟩ ?_
      exact j_retZ hR dX9_isSymbol_28 (by omega) ⟨by first | (rw [if_pos (isSy_t.mpr ⟨by omega, by omega⟩)]; done) | rw [if_neg (fun q => by have := isSy_t.mp q; omega)], rfl⟩
    · skip
      refine j_iconst hX dX9_isSymbol_23 ⟨by decide, by decide⟩ ?_
      refine j_goto (tgt := 28) hX dX9_isSymbol_24 (by decide) ?_
      exact j_retZ hR dX9_isSymbol_28 (by omega) ⟨by first | (rw [if_pos (isSy_t.mpr ⟨by omega, by omega⟩)]; done) | rw [if_neg (fun q => by have := isSy_t.mp q; omega)], rfl⟩
set_option maxHeartbeats 4000000 in
theorem ok_X9_isWord {V : VV} {s k : Int} {q : String × Nat × String × List Int} (ht : TB V) (hk : TK V s) (hq : strs[k.toNat]? = some q) : Ok NC yX9_isWord cX9_isWord 3 (some .boolean) 4 85 [vA 2, vS k] V (pI (fun x9 V' => x9 = (if isWd (V 3) (V 2 1) s q.2.2.2 = true then 1 else 0) ∧ V' = V)) := by
  refine Ok.intro (by decide +kernel) (Nat.le_of_ble_eq_true rfl) (fun X G hX hG hR hoa hoV => ?_)
  show J X G 0 [vA 2, vS k, vU] [] V
  obtain ⟨k0, k1, k2, k3, k4, k5⟩ := hk
  have ht1 := ht.1
  have ht2 := ht.2.1
  have hE := sgE_b (T := V 3) (L := V 2 1) (s := s) k1
  have hl20 := strs_l hq
  refine j_al0 hX dX9_isWord_0 rfl ?_
  refine j_getI hX hG fl_X9_36 (Or.inl rfl) (by decide) dX9_isWord_1 ?_
  refine j_iconst hX dX9_isWord_4 ⟨by decide, by decide⟩ ?_
  refine j_icmp_ne (tgt := 24) hX dX9_isWord_5 (by decide) (fun h_5 => ?_) (fun h_5 => ?_)
  · skip
    refine j_iconst hX dX9_isWord_24 ⟨by decide, by decide⟩ ?_
    exact j_retZ hR dX9_isWord_25 (by omega) ⟨by rw [if_neg (fun q => by have := isWd_t.mp q; omega)], rfl⟩
  · skip
    refine j_al0 hX dX9_isWord_8 rfl ?_
    refine j_getI hX hG fl_X9_23 (Or.inl rfl) (by decide) dX9_isWord_9 ?_
    refine j_al0 hX dX9_isWord_12 rfl ?_
    refine j_getI hX hG fl_X9_29 (Or.inl rfl) (by decide) dX9_isWord_13 ?_
    refine j_isub hX dX9_isWord_16 (by omega) ?_
    refine j_al1 hX dX9_isWord_17 rfl ?_
    refine j_pTI0 hX hG lk_X9_53 (ok_J0_length_8abf5 (by first | assumption | rfl)) (by assumption) rfl (Nat.le_of_ble_eq_true rfl) (Nat.le_of_ble_eq_true rfl) (Nat.le_of_ble_eq_true rfl) rfl dX9_isWord_18 ?_
    refine j_icmp_eq (tgt := 26) hX dX9_isWord_21 (by decide) (fun h_21 => ?_) (fun h_21 => ?_)
    · skip
      refine j_iconst hX dX9_isWord_26 ⟨by decide, by decide⟩ ?_
      refine j_is2 hX dX9_isWord_27 rfl ?_
      have lp_28 : ∀ (f9 : Nat) (i : Int), (0 ≤ i ∧ i ≤ q.2.2.2.length) → (∀ j : Int, 0 ≤ j → j < i → V 3 (s + j) = q.2.2.2.getD j.toNat 0) → (((q.2.2.2.length : Int) - i).toNat) < f9 → J X G 28 [vA 2, vS k, vI i] [] V := by
        intro f9
        induction f9 with
        | zero => intro i _ _ hm; exact absurd hm (Nat.not_lt_zero _)
        | succ f9 ih_28 =>
          intro i hi hj hm
          refine j_il2 hX dX9_isWord_28 ?_
          refine j_al1 hX dX9_isWord_29 rfl ?_
          refine j_pTI0 hX hG lk_X9_53 (ok_J0_length_8abf5 (by first | assumption | rfl)) (by assumption) rfl (Nat.le_of_ble_eq_true rfl) (Nat.le_of_ble_eq_true rfl) (Nat.le_of_ble_eq_true rfl) rfl dX9_isWord_30 ?_
          refine j_icmp_ge (tgt := 65) hX dX9_isWord_33 (by decide) (fun h_33 => ?_) (fun h_33 => ?_)
          · skip
            refine j_iconst hX dX9_isWord_65 ⟨by decide, by decide⟩ ?_
            exact j_retZ hR dX9_isWord_66 (by omega) ⟨by rw [if_pos (isWd_t.mpr ⟨by omega, by omega, fun j h0 h1 => hj j h0 (by omega)⟩)], rfl⟩
          · skip
            refine j_al0 hX dX9_isWord_36 rfl ?_
            refine j_getR (q := 3) hX hG fl_X9_9 rfl rfl (by decide) dX9_isWord_37 ?_
            refine j_al0 hX dX9_isWord_40 rfl ?_
            refine j_getI hX hG fl_X9_29 (Or.inl rfl) (by decide) dX9_isWord_41 ?_
            refine j_il2 hX dX9_isWord_44 ?_
            refine j_iadd hX dX9_isWord_45 (by omega) ?_
            refine j_pSI2 hX hG lk_X9_32 (ok_X11_at_in (n := 500) (by decide) (by first | assumption | decide) (by first | assumption | omega | decide)) (Nat.le_of_ble_eq_true rfl) (Nat.le_of_ble_eq_true rfl) (Nat.le_of_ble_eq_true rfl) rfl dX9_isWord_46 ?_
            refine j_al1 hX dX9_isWord_49 rfl ?_
            refine j_il2 hX dX9_isWord_50 ?_
            refine j_pTI1 hX hG lk_X9_58 (ok_J0_charAt_5068e (by first | assumption | rfl) (by first | assumption | omega | decide)) (by assumption) rfl (Nat.le_of_ble_eq_true rfl) (Nat.le_of_ble_eq_true rfl) (Nat.le_of_ble_eq_true rfl) rfl dX9_isWord_51 ?_
            refine j_icmp_eq (tgt := 59) hX dX9_isWord_54 (by decide) (fun h_54 => ?_) (fun h_54 => ?_)
            · skip
              refine j_inc2 hX dX9_isWord_59 rfl (by omega) ?_
              refine j_goto (tgt := 28) hX dX9_isWord_62 (by decide) ?_
              exact ih_28 _ (by omega) (lt_stepI hj (by rw [k2] at h_54; exact h_54)) (by omega)
            · skip
              refine j_iconst hX dX9_isWord_57 ⟨by decide, by decide⟩ ?_
              exact j_retZ hR dX9_isWord_58 (by omega) ⟨by rw [if_neg (fun q => h_54 (by rw [k2]; exact (isWd_t.mp q).2.2 i hi.1 (by omega)))], rfl⟩
      exact lp_28 _ _ (by omega) (by omega) (Nat.lt_succ_self _)
    · skip
      refine j_iconst hX dX9_isWord_24 ⟨by decide, by decide⟩ ?_
      exact j_retZ hR dX9_isWord_25 (by omega) ⟨by rw [if_neg (fun q => by have := isWd_t.mp q; omega)], rfl⟩
set_option maxHeartbeats 4000000 in
theorem ok_X9_place {V : VV} {s : Int} (ht : TB V) (hk : TK V s) : Ok NC yX9_place cX9_place 2 (some .int) 1 21 [vA 2] V (pI (fun x9 V' => x9 = plF (V 3) (V 2 1) s ∧ V' = V)) := by
  refine Ok.intro (by decide +kernel) (Nat.le_of_ble_eq_true rfl) (fun X G hX hG hR hoa hoV => ?_)
  show J X G 0 [vA 2, vU] [] V
  obtain ⟨k0, k1, k2, k3, k4, k5⟩ := hk
  have ht1 := ht.1
  have ht2 := ht.2.1
  have hE := sgE_b (T := V 3) (L := V 2 1) (s := s) k1
  refine j_al0 hX dX9_place_0 rfl ?_
  refine j_getR (q := 3) hX hG fl_X9_9 rfl rfl (by decide) dX9_place_1 ?_
  refine j_al0 hX dX9_place_4 rfl ?_
  refine j_getI hX hG fl_X9_29 (Or.inl rfl) (by decide) dX9_place_5 ?_
  refine j_pSI2 hX hG lk_X9_32 (ok_X11_at (n := 500) (by decide) (by first | assumption | decide)) (Nat.le_of_ble_eq_true rfl) (Nat.le_of_ble_eq_true rfl) (Nat.le_of_ble_eq_true rfl) rfl dX9_place_8 ?_
  obtain ⟨c, hc, hc2⟩ : ∃ c, (if 0 ≤ V 2 3 ∧ V 2 3 < 500 then V 3 (V 2 3) else 0) = c ∧ (s < V 2 1 → c = V 3 s ∧ 0 ≤ V 3 s ∧ V 3 s ≤ 255) := ⟨_, rfl, fun h => by rw [k2, if_pos (by omega)]; exact ⟨rfl, ht.2.2 s k0 (by omega)⟩⟩
  rw [hc]
  refine j_is1 hX dX9_place_11 rfl ?_
  refine j_al0 hX dX9_place_12 rfl ?_
  refine j_getI hX hG fl_X9_36 (Or.inl rfl) (by decide) dX9_place_13 ?_
  refine j_iconst hX dX9_place_16 ⟨by decide, by decide⟩ ?_
  refine j_icmp_ne (tgt := 46) hX dX9_place_17 (by decide) (fun h_17 => ?_) (fun h_17 => ?_)
  · skip
    refine j_iconst hX dX9_place_46 ⟨by decide, by decide⟩ ?_
    exact j_retI hR dX9_place_47 ⟨by unfold plF; first | (rw [if_neg (by omega)]; done) | (rw [if_pos (by omega)]; omega), rfl⟩
  · skip
    refine j_al0 hX dX9_place_20 rfl ?_
    refine j_getI hX hG fl_X9_23 (Or.inl rfl) (by decide) dX9_place_21 ?_
    refine j_al0 hX dX9_place_24 rfl ?_
    refine j_getI hX hG fl_X9_29 (Or.inl rfl) (by decide) dX9_place_25 ?_
    refine j_isub hX dX9_place_28 (by omega) ?_
    refine j_iconst hX dX9_place_29 ⟨by decide, by decide⟩ ?_
    refine j_icmp_ne (tgt := 46) hX dX9_place_30 (by decide) (fun h_30 => ?_) (fun h_30 => ?_)
    · skip
      refine j_iconst hX dX9_place_46 ⟨by decide, by decide⟩ ?_
      exact j_retI hR dX9_place_47 ⟨by unfold plF; first | (rw [if_neg (by omega)]; done) | (rw [if_pos (by omega)]; omega), rfl⟩
    · skip
      have hl9 := sgK_lt (T := V 3) (L := V 2 1) (s := s) (by omega)
      have hc3 := hc2 hl9
      refine j_il1 hX dX9_place_33 ?_
      refine j_bipush hX dX9_place_34 (by decide) ⟨by decide, by decide⟩ ?_
      refine j_icmp_gt (tgt := 46) hX dX9_place_36 (by decide) (fun h_36 => ?_) (fun h_36 => ?_)
      · skip
        refine j_iconst hX dX9_place_46 ⟨by decide, by decide⟩ ?_
        exact j_retI hR dX9_place_47 ⟨by unfold plF; first | (rw [if_neg (by omega)]; done) | (rw [if_pos (by omega)]; omega), rfl⟩
      · skip
        refine j_il1 hX dX9_place_39 ?_
        refine j_bipush hX dX9_place_40 (by decide) ⟨by decide, by decide⟩ ?_
        refine j_isub hX dX9_place_42 (by omega) ?_
        refine j_goto (tgt := 47) hX dX9_place_43 (by decide) ?_
        exact j_retI hR dX9_place_47 ⟨by unfold plF; first | (rw [if_neg (by omega)]; done) | (rw [if_pos (by omega)]; omega), rfl⟩
theorem ok_X9_advance_tk {V : VV} {s : Int} (ht : TB V) (hk : TK V s) : Ok NC yX9_advance cX9_advance 2 none 2 44 [vA 2] V (pV (fun V' => TK V' (sgX (V 3) (V 2 1) s) ∧ V' 2 1 = V 2 1 ∧ fr [2] V V')) := by
  obtain ⟨k0, k1, k2, k3, k4, k5⟩ := hk
  have h := ok_X9_advance ht (by rw [k4]; have := sgE_b (T := V 3) k1; omega)
  rw [k4] at h
  exact h
