/-- the model's rows -/
def rwM (V : VV) (x : Int) : VC := if V 78 x = 0 then fun _ => 0 else fun y => V 76 (6 * x + y)
def GJM (V : VV) (F : VC → Prop) : Prop := GJ (V 55 1) F (rwM V) ∧ ∀ x, 0 ≤ x → x < V 55 1 → ¬ V 78 x = 0 → rwM V x x ≠ 0
theorem rw1 {V : VV} {x : Int} (h : ¬ V 78 x = 0) : rwM V x = fun y => V 76 (6 * x + y) := if_neg h
theorem rwz {V : VV} {x : Int} (h : V 78 x = 0) : rwM V x = fun _ => 0 := if_pos h
theorem rw0 {V : VV} {x : Int} (h : V 78 x = 0) : rwM V x x = 0 := by rw [rwz h]
theorem rw_c {V W : VV} (h1 : ∀ x, W 78 x = V 78 x) (h2 : ∀ x, W 76 x = V 76 x) : rwM W = rwM V := by
  funext x
  unfold rwM
  rw [h1]
  split
  · rfl
  · funext y; exact h2 _
theorem te_s {V Y Y' : VV} {F : VC → Prop} {f : VC} {bd : Int → Int} {b k : Int} (hJ : GJ (V 55 1) F (rwM V)) (hb : BND (V 55 1) (rwM V) bd b) (h : CEM (V 55 1) F f (rwM V) (bd k) k (Y 75)) (k0 : 0 ≤ k ∧ k < V 55 1) (c0 : ¬ V 78 k = 0) (d : (Y 75 (0 + k) = 0 ∧ Y' = Y) ∨ (Y 75 (0 + k) ≠ 0 ∧ ∀ x, 0 ≤ x → x < Y 55 1 → Y' 75 (0 + x) = elm (fun y => Y 75 (0 + y)) (fun y => Y 76 (6 * k + y)) k x)) (h1 : Y 55 1 = V 55 1) (h76 : Y 76 = V 76) (hp : rwM V k k ≠ 0) : CEM (V 55 1) F f (rwM V) (bd (k - 1)) (k - 1) (Y' 75) := by
  obtain ⟨b1, b2, b3, b4, b5, b6⟩ := hb
  simp only [Int.zero_add] at d
  rcases d with ⟨d1, d2⟩ | ⟨d1, d2⟩
  · rw [d2]; exact CEM_skip h (Or.inr d1) (b5 k k0.1 k0.2).2
  · refine CEM_el hJ h k0 hp (b1 k k0.1 k0.2 hp) ((b5 k k0.1 k0.2).1 hp) (fun x x0 x1 => ?_)
    rw [d2 x x0 (by rw [h1]; exact x1), h76, rw1 c0]
theorem te_P0 {V W Z : VV} {l : Int} (lz : rwM V l l = 0) (hs : fr [76] (up W 78 l 1) Z) (k78 : ∀ x, W 78 x = V 78 x) (hcp : ∀ j, 0 ≤ j → j < V 55 1 → Z 76 (6 * l + j) = W 75 j) (hot : ∀ j, (j < 6 * l ∨ 6 * l + 6 ≤ j) → Z 76 j = V 76 j) (_ : -1 ≤ l) (hg : V 55 1 ≤ 6 := by omega) : GJP (V 55 1) (rwM V) (W 75) l 0 (rwM Z) := by
  have z78 : ∀ x, x ≠ l → Z 78 x = V 78 x := fun x hx => by rw [hs 78 x (by decide), up_n _ (fun q => hx q.2)]; exact k78 x
  have e : ∀ j, 0 ≤ j → j < V 55 1 → j ≠ l → ∀ x, 0 ≤ x → x < V 55 1 → rwM Z j x = rwM V j x := fun j j0 j1 jl x x0 x1 => by
    unfold rwM
    rw [z78 j jl]
    split
    · rfl
    · exact hot _ (by omega)
  refine ⟨fun x x0 x1 => ?_, fun j j0 j1 jl => ⟨fun q => by rw [e j j0 j1 jl j j0 j1]; exact q, fun q => ⟨fun _ x x0 x1 => e j j0 j1 jl x x0 x1, fun r => by omega⟩⟩⟩
  rw [rw1 (by rw [hs 78 l (by decide), up_s]; decide)]
  exact hcp x x0 x1
theorem GJP_l {g l k : Int} {C C' : Int → VC} {v : VC} (h : GJP g C v l k C') (hk : k = l) : GJP g C v l (k + 1) C' :=
  ⟨h.1, fun j j0 j1 jl => ⟨(h.2 j j0 j1 jl).1, fun q => ⟨fun r => ((h.2 j j0 j1 jl).2 q).1 (by omega), fun r => ((h.2 j j0 j1 jl).2 q).2 (by omega)⟩⟩⟩
theorem GJP_0 {g l k : Int} {C C' : Int → VC} {v : VC} (h : GJP g C v l k C') (_ : 0 ≤ k) (hk : C k k = 0) : GJP g C v l (k + 1) C' :=
  ⟨h.1, fun j j0 j1 jl => ⟨(h.2 j j0 j1 jl).1, fun q => ⟨fun r => ((h.2 j j0 j1 jl).2 q).1 (by omega), fun r => ((h.2 j j0 j1 jl).2 q).2 (by have : j ≠ k := fun e => q (by rw [e]; exact hk); omega)⟩⟩⟩
theorem te_w {g j l : Int} {Z2 Y : VV} {C v : VC} (d : (Z2 76 (6 * j + l) = 0 ∧ Y = Z2) ∨ (Z2 76 (6 * j + l) ≠ 0 ∧ ∀ x, 0 ≤ x → x < g → Y 76 (6 * j + x) = elm (fun y => Z2 76 (6 * j + y)) (fun y => Z2 76 (6 * l + y)) l x)) (rA : ∀ x, 0 ≤ x → x < g → Z2 76 (6 * j + x) = C x) (rl : ∀ x, 0 ≤ x → x < g → Z2 76 (6 * l + x) = v x) (n1 : NB g (6561 * 6561) (elm C v l)) (n2 : NB g 6561 C) (hl : 0 ≤ l ∧ l < g) :
    ∃ w : VC, (∀ x, 0 ≤ x → x < g → Y 76 (6 * j + x) = w x) ∧ ((∀ x, 0 ≤ x → x < g → w x = elm C v l x) ∨ (C l = 0 ∧ ∀ x, 0 ≤ x → x < g → w x = C x)) ∧ ∀ x, 0 ≤ x → x < g → ab (w x) ≤ 43046721 := by
  rcases d with ⟨d1, d2⟩ | ⟨d1, d2⟩
  · refine ⟨C, fun x x0 x1 => by rw [d2]; exact rA x x0 x1, Or.inr ⟨by rw [← rA l hl.1 hl.2]; exact d1, fun x _ _ => rfl⟩, fun x x0 x1 => ?_⟩
    have := (NB_e n2 x0 x1).1
    omega
  · refine ⟨elm C v l, fun x x0 x1 => ?_, Or.inl fun x _ _ => rfl, fun x x0 x1 => ?_⟩
    · rw [d2 x x0 x1]
      unfold elm
      show Z2 76 (6 * j + x) * Z2 76 (6 * l + l) - Z2 76 (6 * l + x) * Z2 76 (6 * j + l) = _
      rw [rA x x0 x1, rA l hl.1 hl.2, rl x x0 x1, rl l hl.1 hl.2]
    · have := (NB_e n1 x0 x1).1
      omega
theorem NRM_c {g : Int} {w v v' : VC} (h : NRM g w v) (e : ∀ x, 0 ≤ x → x < g → v x = v' x) : NRM g w v' := by
  rcases h with h | ⟨h1, d, h2, h3⟩
  · exact Or.inl fun x x0 x1 => ⟨(h x x0 x1).1, by rw [← e x x0 x1]; exact (h x x0 x1).2⟩
  · exact Or.inr ⟨h1.c e, d, h2, fun x x0 x1 => by rw [← e x x0 x1]; exact h3 x x0 x1⟩
theorem te_row {g j l : Int} {Z2 Y Z3 : VV} {C : Int → VC} {v w : VC} (hP : GJP g C v l j (rwM Z2)) (jr : 0 ≤ j ∧ j < g) (jl : j ≠ l) (pj : C j j ≠ 0) (hw : ∀ x, 0 ≤ x → x < g → Y 76 (6 * j + x) = w x) (hw2 : (∀ x, 0 ≤ x → x < g → w x = elm (C j) v l x) ∨ (C j l = 0 ∧ ∀ x, 0 ≤ x → x < g → w x = C j x)) (d : NRM g (fun y => Y 76 (6 * j + y)) (fun y => Z3 76 (6 * j + y))) (h78 : ∀ x, Z3 78 x = Z2 78 x) (hj : ¬ Z2 78 j = 0) (ho : ∀ i, (i < 6 * j ∨ 6 * j + g ≤ i) → Z3 76 i = Z2 76 i) (hg : g ≤ 6 := by omega) : GJP g C v l (j + 1) (rwM Z3) := by
  have e : ∀ i, 0 ≤ i → i < g → i ≠ j → ∀ x, 0 ≤ x → x < g → rwM Z3 i x = rwM Z2 i x := fun i i0 i1 ij x x0 x1 => by
    unfold rwM
    rw [h78]
    split
    · rfl
    · exact ho _ (by omega)
  refine ⟨fun x x0 x1 => ?_, fun i i0 i1 il => ⟨fun q => ?_, fun q => ⟨fun r x x0 x1 => ?_, fun r => ?_⟩⟩⟩
  · by_cases z : 0 ≤ l ∧ l < g
    · rw [e l z.1 z.2 (fun q => jl q.symm) x x0 x1]; exact hP.1 x x0 x1
    · have h1 := hP.1 x x0 x1
      rw [← h1]
      unfold rwM
      rw [h78]
      split
      · rfl
      · exact ho _ (by omega)
  · have : i ≠ j := fun z => pj (by rw [← z]; exact q)
    rw [e i i0 i1 this i i0 i1]; exact (hP.2 i i0 i1 il).1 q
  · rw [e i i0 i1 (by omega) x x0 x1]; exact ((hP.2 i i0 i1 il).2 q).1 (by omega) x x0 x1
  · by_cases z : i = j
    · subst z
      refine ⟨fun y => Y 76 (6 * i + y), by rw [rw1 (by rw [h78]; exact hj)]; exact d, ?_⟩
      rcases hw2 with a | ⟨a, b⟩
      · exact Or.inl fun x x0 x1 => (hw x x0 x1).trans (a x x0 x1)
      · exact Or.inr ⟨a, fun x x0 x1 => (hw x x0 x1).trans (b x x0 x1)⟩
    · obtain ⟨w', n', h'⟩ := ((hP.2 i i0 i1 il).2 q).2 (by omega)
      exact ⟨w', NRM_c n' (fun x x0 x1 => (e i i0 i1 z x x0 x1).symm), h'⟩
theorem GJM_n {V W : VV} {F : VC → Prop} {f : VC} {B : Int} (hJ : GJ (V 55 1) F (rwM V)) (hf : NB (V 55 1) 3 f) (h1 : W 55 1 = V 55 1) (h78 : ∀ x, W 78 x = V 78 x) (h76 : ∀ x, W 76 x = V 76 x) (hE : CEM (V 55 1) F f (rwM V) B (-1) (W 75)) (hz : ∀ x, 0 ≤ x → x < V 55 1 → W 75 x = 0) : GJ (W 55 1) (fun u => F u ∨ u = f) (rwM W) := by
  rw [h1, rw_c h78 h76]; exact GJ_end hJ hf hE hz
theorem GJM_p {V W : VV} (hp : ∀ x, 0 ≤ x → x < V 55 1 → ¬ V 78 x = 0 → rwM V x x ≠ 0) (h78 : ∀ x, W 78 x = V 78 x) (h76 : ∀ x, W 76 x = V 76 x) (x : Int) (x0 : 0 ≤ x) (x1 : x < V 55 1) (xs : ¬ W 78 x = 0) : rwM W x x ≠ 0 := by
  rw [rw_c h78 h76]; exact hp x x0 x1 (by rw [← h78]; exact xs)
theorem GJP_p {V Z : VV} {F : VC → Prop} {f v : VC} {B l : Int} (hJ : GJ (V 55 1) F (rwM V)) (hP : GJP (V 55 1) (rwM V) v l (V 55 1) (rwM Z)) (hE : CEM (V 55 1) F f (rwM V) B (-1) v) (lr : 0 ≤ l ∧ l < V 55 1) (vl : v l ≠ 0) (hs : ∀ x, 0 ≤ x → x < V 55 1 → x ≠ l → ¬ Z 78 x = 0 → rwM V x x ≠ 0) : ∀ x, 0 ≤ x → x < V 55 1 → ¬ Z 78 x = 0 → rwM Z x x ≠ 0 := fun x x0 x1 xs => by
  by_cases e : x = l
  · rw [e, hP.1 l lr.1 lr.2]; exact vl
  · have hp := hs x x0 x1 e xs
    obtain ⟨w, hn, hw⟩ := ((hP.2 x x0 x1 e).2 hp).2 x1
    obtain ⟨d, hd, ed⟩ := hn.e
    intro q
    have h1 := ed x x0 x1
    rw [q, Int.mul_zero] at h1
    rcases hw with hw | ⟨-, hw⟩
    · rw [hw x x0 x1] at h1
      unfold elm at h1
      rw [hE.1 x (by omega) x1 hp, Int.zero_mul, Int.sub_zero] at h1
      rcases Int.mul_eq_zero.mp h1 with r | r
      · exact hp r
      · exact vl r
    · rw [hw x x0 x1] at h1; exact hp h1
set_option maxHeartbeats 4000000 in
theorem ok_X12_takesEquation {V : VV} {F : VC → Prop} {f : VC} (hg : 2 ≤ V 55 1 ∧ V 55 1 ≤ 6) (hC : GJM V F) (hf3 : NB (V 55 1) 3 f) (he : ∀ x, 0 ≤ x → x < V 55 1 → V 75 x = f x) : Ok NA yX12_takesEquation cX12_takesEquation 3 none 2 54 [vA 55] V (pV (fun V' => GJM V' (fun u => F u ∨ u = f) ∧ fr [75, 76, 78] V V')) := by
  refine Ok.intro (by decide +kernel) (Nat.le_of_ble_eq_true rfl) (fun X G hX hG hR hoa hoV => ?_)
  show J X G 0 [vA 55, vU, vU] [] V
  obtain ⟨hJ, hpv⟩ := hC
  obtain ⟨bd, b, hbd⟩ := BND_of hg hJ
  have hbm := hbd.2.2.2.2.2 (-1) (by decide) (by omega)
  refine j_al0 hX dX12_takesEquation_0 rfl ?_
  refine j_getI hX hG fl_X12_136 (Or.inl rfl) (by decide) dX12_takesEquation_1 ?_
  refine j_fx (x := V 55 1) (by first | assumption | rfl) ?_
  refine j_iconst hX dX12_takesEquation_4 ⟨by decide, by decide⟩ ?_
  refine j_isub hX dX12_takesEquation_5 (by omega) ?_
  refine j_is1 hX dX12_takesEquation_6 rfl ?_
  have lp_7 : ∀ (f9 : Nat) (k : Int) (Y : VV), (-1 ≤ k ∧ k ≤ V 55 1 - 1) → (fr [75] V Y) → (CEM (V 55 1) F f (rwM V) (bd k) k (Y 75)) → ((k + 1).toNat) < f9 → J X G 7 [vA 55, vI k, vU] [] Y := by
    intro f9
    induction f9 with
    | zero => intro k Y _ _ _ hm; exact absurd hm (Nat.not_lt_zero _)
    | succ f9 ih_7 =>
      intro k Y hk hs hE hm
      refine j_il1 hX dX12_takesEquation_7 ?_
      refine j_if_lt (tgt := 36) hX dX12_takesEquation_8 (by decide) (fun h_8 => ?_) (fun h_8 => ?_)
      · skip
        have ek : k = -1 := by omega
        rw [ek] at hE
        have f1_Y : Y 55 1 = V 55 1 := hs 55 1 (by decide)
        refine j_al0 hX dX12_takesEquation_36 rfl ?_
        refine j_al0 hX dX12_takesEquation_37 rfl ?_
        refine j_getR (q := 75) hX hG fl_X12_73 rfl rfl (by decide) dX12_takesEquation_38 ?_
        refine j_iconst hX dX12_takesEquation_41 ⟨by decide, by decide⟩ ?_
        refine j_cVV2 (ci := 12) hX hG lk_X12_378 (ok_X12_shortens_E (by rw [f1_Y]; exact hg) (by decide) (fun x a b => by rw [f1_Y] at b; rw [Int.zero_add]; have h9 := (NB_e hE.2.2.2 a b).1; omega)) (by decide) rfl (Nat.le_of_ble_eq_true rfl) (Nat.le_of_ble_eq_true rfl) (Nat.le_of_ble_eq_true rfl) rfl dX12_takesEquation_42 (fun V_42 h_42 => ?_)
        obtain ⟨d_42, -, f_42⟩ := h_42
        rw [f1_Y] at d_42
        simp only [Int.zero_add] at d_42
        have hE2 := CEM_nrm hE d_42
        have k1 : V_42 55 1 = V 55 1 := (f_42 55 1 (by decide)).trans f1_Y
        have jn_73 : ∀ (l9 : Int), (-1 ≤ l9 ∧ l9 ≤ V 55 1 - 1) → (∀ y, l9 < y → y < V 55 1 → V_42 75 y = 0) → (0 ≤ l9 → V_42 75 l9 ≠ 0) → J X G 73 [vA 55, vI l9, vU] [] V_42 := by
          intro l9 hl9 hz9 hn9
          refine j_il1 hX dX12_takesEquation_73 ?_
          refine j_if_ge (tgt := 78) hX dX12_takesEquation_74 (by decide) (fun h_74 => ?_) (fun h_74 => ?_)
          · skip
            have lr : 0 ≤ l9 ∧ l9 < V 55 1 := by omega
            have vl := hn9 lr.1
            have hpr : PRIM (V 55 1) (V_42 75) := NRM.p d_42 lr.1 lr.2 vl
            have nbv := CEM_nb hg hJ hf3 hE2 lr vl hz9 hpr
            have lz9 : rwM V l9 l9 = 0 := Classical.byContradiction fun q => vl (hE2.1 l9 (by omega) lr.2 q)
            have k78 : ∀ x, V_42 78 x = V 78 x := fun x => (f_42 78 x (by decide)).trans (hs 78 x (by decide))
            have k76 : ∀ x, V_42 76 x = V 76 x := fun x => (f_42 76 x (by decide)).trans (hs 76 x (by decide))
            refine j_al0 hX dX12_takesEquation_78 rfl ?_
            refine j_getR (q := 78) hX hG fl_X12_83 rfl rfl (by decide) dX12_takesEquation_79 ?_
            refine j_il1 hX dX12_takesEquation_82 ?_
            refine j_iconst hX dX12_takesEquation_83 ⟨by decide, by decide⟩ ?_
            refine j_zast (n := 6) hX hG (by decide) (by omega) (by omega) dX12_takesEquation_84 ?_
            refine j_iconst hX dX12_takesEquation_85 ⟨by decide, by decide⟩ ?_
            refine j_is2 hX dX12_takesEquation_86 rfl ?_
            have lp_87 : ∀ (f9 : Nat) (x : Int) (Z : VV), (0 ≤ x ∧ x ≤ V 55 1) → (fr [76] (up V_42 78 l9 1) Z) → (∀ j, 0 ≤ j → j < x → Z 76 (6 * l9 + j) = V_42 75 j) → (∀ j, (j < 6 * l9 ∨ 6 * l9 + 6 ≤ j) → Z 76 j = V_42 76 j) → ((V 55 1 - x).toNat) < f9 → J X G 87 [vA 55, vI l9, vI x] [] Z := by
              intro f9
              induction f9 with
              | zero => intro x Z _ _ _ _ hm; exact absurd hm (Nat.not_lt_zero _)
              | succ f9 ih_87 =>
                intro x Z hx hs3 hcp hot hm
                refine j_il2 hX dX12_takesEquation_87 ?_
                have f1_Z : Z 55 1 = V 55 1 := (hs3 55 1 (by decide)).trans ((up_n _ (by omega)).trans k1)
                refine j_al0 hX dX12_takesEquation_88 rfl ?_
                refine j_getI hX hG fl_X12_136 (Or.inl rfl) (by decide) dX12_takesEquation_89 ?_
                refine j_fx (x := V 55 1) (by first | assumption | rfl) ?_
                refine j_icmp_ge (tgt := 118) hX dX12_takesEquation_92 (by decide) (fun h_92 => ?_) (fun h_92 => ?_)
                · skip
                  refine j_iconst hX dX12_takesEquation_118 ⟨by decide, by decide⟩ ?_
                  refine j_is2 hX dX12_takesEquation_119 rfl ?_
                  have lp_120 : ∀ (f9 : Nat) (j : Int) (Z2 : VV), (0 ≤ j ∧ j ≤ V 55 1) → (fr [76] (up V_42 78 l9 1) Z2) → (GJP (V 55 1) (rwM V) (V_42 75) l9 j (rwM Z2)) → ((V 55 1 - j).toNat) < f9 → J X G 120 [vA 55, vI l9, vI j] [] Z2 := by
                    intro f9
                    induction f9 with
                    | zero => intro j Z2 _ _ _ hm; exact absurd hm (Nat.not_lt_zero _)
                    | succ f9 ih_120 =>
                      intro j Z2 hj hs4 hP hm
                      refine j_il2 hX dX12_takesEquation_120 ?_
                      have f1_Z2 : Z2 55 1 = V 55 1 := (hs4 55 1 (by decide)).trans ((up_n _ (by omega)).trans k1)
                      refine j_al0 hX dX12_takesEquation_121 rfl ?_
                      refine j_getI hX hG fl_X12_136 (Or.inl rfl) (by decide) dX12_takesEquation_122 ?_
                      refine j_fx (x := V 55 1) (by first | assumption | rfl) ?_
                      refine j_icmp_ge (tgt := 176) hX dX12_takesEquation_125 (by decide) (fun h_125 => ?_) (fun h_125 => ?_)
                      · skip
                        exact j_ret hR dX12_takesEquation_176 (by
      have ej : j = V 55 1 := by omega
      rw [ej] at hP
      have fF : fr [75, 76, 78] V Z2 := fr_t (fr_t (fr_w hs (by decide)) (fr_w f_42 (by decide))) (fr_t (fr_u fr_0 (by decide)) (fr_w hs4 (by decide)))
      refine ⟨⟨?_, ?_⟩, fF⟩
      · rw [show Z2 55 1 = V 55 1 from fF 55 1 (by decide)]
        exact GJ_new hJ hf3 hE2 lr vl hz9 hpr hP
      · rw [show Z2 55 1 = V 55 1 from fF 55 1 (by decide)]
        refine GJP_p hJ hP hE2 lr vl (fun x x0 x1 xl xs => hpv x x0 x1 fun q => xs ?_)
        rw [hs4 78 x (by decide), up_n _ (by omega), k78 x]
        exact q)
                      · skip
                        refine j_il2 hX dX12_takesEquation_128 ?_
                        refine j_il1 hX dX12_takesEquation_129 ?_
                        refine j_icmp_eq (tgt := 170) hX dX12_takesEquation_130 (by decide) (fun h_130 => ?_) (fun h_130 => ?_)
                        · skip
                          refine j_inc2 hX dX12_takesEquation_170 rfl (by omega) ?_
                          refine j_goto (tgt := 120) hX dX12_takesEquation_173 (by decide) ?_
                          exact ih_120 _ _ (by omega) (by first | exact fr_t hs4 (fr_t f_155 f_167) | exact hs4) (by first | exact hPn | exact GJP_l hP (by omega) | exact GJP_0 hP (by omega) (c00 h_139)) (by omega)
                        · skip
                          have jl : j ≠ l9 := by omega
                          have j78 : Z2 78 j = V 78 j := (hs4 78 j (by decide)).trans ((up_n _ (by omega)).trans (k78 j))
                          have c00 : Z2 78 j = 0 → rwM V j j = 0 := fun q => rw0 (j78.symm.trans q)
                          refine j_al0 hX dX12_takesEquation_133 rfl ?_
                          refine j_getR (q := 78) hX hG fl_X12_83 rfl rfl (by decide) dX12_takesEquation_134 ?_
                          refine j_il2 hX dX12_takesEquation_137 ?_
                          refine j_zald (n := 6) hX hG (by decide) (by omega) dX12_takesEquation_138 ?_
                          refine j_if_ne (tgt := 145) hX dX12_takesEquation_139 (by decide) (fun h_139 => ?_) (fun h_139 => ?_)
                          · skip
                            have jr : 0 ≤ j ∧ j < V 55 1 := by omega
                            have sj : ¬ V 78 j = 0 := fun q => h_139 (j78.trans q)
                            have pj := hpv j jr.1 jr.2 sj
                            have row := fun x (x0 : 0 ≤ x) (x1 : x < V 55 1) => ((hP.2 j jr.1 jr.2 jl).2 pj).1 (Int.le_refl _) x x0 x1
                            have rj : rwM Z2 j = fun y => Z2 76 (6 * j + y) := rw1 h_139
                            have rV : rwM V j = fun y => V 76 (6 * j + y) := rw1 sj
                            have nbj := hJ.nb hg jr.1 jr.2 pj
                            have rl : ∀ x, 0 ≤ x → x < V 55 1 → Z2 76 (6 * l9 + x) = V_42 75 x := fun x x0 x1 => by
                              have := hP.1 x x0 x1
                              rw [rw1 (by rw [hs4 78 l9 (by decide), up_s]; decide)] at this
                              exact this
                            have rA : ∀ x, 0 ≤ x → x < V 55 1 → Z2 76 (6 * j + x) = rwM V j x := fun x x0 x1 => by
                              have := row x x0 x1
                              rw [rj] at this
                              exact this
                            refine j_al0 hX dX12_takesEquation_145 rfl ?_
                            refine j_al0 hX dX12_takesEquation_146 rfl ?_
                            refine j_getR (q := 76) hX hG fl_X12_77 rfl rfl (by decide) dX12_takesEquation_147 ?_
                            refine j_bipush hX dX12_takesEquation_150 (by decide) ⟨by decide, by decide⟩ ?_
                            refine j_il2 hX dX12_takesEquation_152 ?_
                            refine j_imul hX dX12_takesEquation_153 (by omega) ?_
                            refine j_il1 hX dX12_takesEquation_154 ?_
                            refine j_cVV3 (ci := 12) hX hG lk_X12_374 (ok_X12_puts_S (by rw [f1_Z2]; exact hg) (by omega) (by rw [f1_Z2]; exact lr) (fun x a b => by rw [f1_Z2] at b; rw [rA x a b]; exact (NB_e nbj a b).1) (fun x a b => by rw [f1_Z2] at b; rw [rl x a b]; exact (NB_e nbv a b).1) (by decide) (by omega)) (by decide) rfl (Nat.le_of_ble_eq_true rfl) (Nat.le_of_ble_eq_true rfl) (Nat.le_of_ble_eq_true rfl) rfl dX12_takesEquation_155 (fun V_155 h_155 => ?_)
                            obtain ⟨d_155, o_155, f_155⟩ := h_155
                            rw [f1_Z2] at d_155 o_155
                            have g1 : V_155 55 1 = V 55 1 := (f_155 55 1 (by decide)).trans f1_Z2
                            obtain ⟨w9, hw9, hw8, hwb⟩ := te_w d_155 rA rl (NB_el nbj nbv lr.1 lr.2) nbj lr
                            refine j_al0 hX dX12_takesEquation_158 rfl ?_
                            refine j_al0 hX dX12_takesEquation_159 rfl ?_
                            refine j_getR (q := 76) hX hG fl_X12_77 rfl rfl (by decide) dX12_takesEquation_160 ?_
                            refine j_bipush hX dX12_takesEquation_163 (by decide) ⟨by decide, by decide⟩ ?_
                            refine j_il2 hX dX12_takesEquation_165 ?_
                            refine j_imul hX dX12_takesEquation_166 (by omega) ?_
                            refine j_cVV2 (ci := 12) hX hG lk_X12_378 (ok_X12_shortens_S (by rw [g1]; exact hg) (by omega) (fun x a b => by rw [g1] at b; rw [hw9 x a b]; have := (hwb x a b); omega)) (by decide) rfl (Nat.le_of_ble_eq_true rfl) (Nat.le_of_ble_eq_true rfl) (Nat.le_of_ble_eq_true rfl) rfl dX12_takesEquation_167 (fun V_167 h_167 => ?_)
                            obtain ⟨d_167, o_167, f_167⟩ := h_167
                            rw [g1] at d_167 o_167
                            have hPn : GJP (V 55 1) (rwM V) (V_42 75) l9 (j + 1) (rwM V_167) := te_row hP jr jl pj hw9 hw8 d_167 (fun x => (f_167 78 x (by decide)).trans (f_155 78 x (by decide))) (fun q => h_139 q) (fun i hi => (o_167 i (by omega)).trans (o_155 i (by omega)))
                            refine j_inc2 hX dX12_takesEquation_170 rfl (by omega) ?_
                            refine j_goto (tgt := 120) hX dX12_takesEquation_173 (by decide) ?_
                            exact ih_120 _ _ (by omega) (by first | exact fr_t hs4 (fr_t f_155 f_167) | exact hs4) (by first | exact hPn | exact GJP_l hP (by omega) | exact GJP_0 hP (by omega) (c00 h_139)) (by omega)
                          · skip
                            refine j_goto (tgt := 170) hX dX12_takesEquation_142 (by decide) ?_
                            refine j_inc2 hX dX12_takesEquation_170 rfl (by omega) ?_
                            refine j_goto (tgt := 120) hX dX12_takesEquation_173 (by decide) ?_
                            exact ih_120 _ _ (by omega) (by first | exact fr_t hs4 (fr_t f_155 f_167) | exact hs4) (by first | exact hPn | exact GJP_l hP (by omega) | exact GJP_0 hP (by omega) (c00 h_139)) (by omega)
                  exact lp_120 _ 0 _ (by omega) hs3 (te_P0 lz9 hs3 k78 (fun j a b => hcp j a (by omega)) (fun j hj => (hot j hj).trans (k76 j)) hl9.1) (Nat.lt_succ_self _)
                · skip
                  refine j_al0 hX dX12_takesEquation_95 rfl ?_
                  refine j_getR (q := 76) hX hG fl_X12_77 rfl rfl (by decide) dX12_takesEquation_96 ?_
                  refine j_bipush hX dX12_takesEquation_99 (by decide) ⟨by decide, by decide⟩ ?_
                  refine j_il1 hX dX12_takesEquation_101 ?_
                  refine j_imul hX dX12_takesEquation_102 (by omega) ?_
                  refine j_il2 hX dX12_takesEquation_103 ?_
                  refine j_iadd hX dX12_takesEquation_104 (by omega) ?_
                  refine j_al0 hX dX12_takesEquation_105 rfl ?_
                  refine j_getR (q := 75) hX hG fl_X12_73 rfl rfl (by decide) dX12_takesEquation_106 ?_
                  refine j_il2 hX dX12_takesEquation_109 ?_
                  refine j_lald (n := 6) hX hG (by decide) (by omega) dX12_takesEquation_110 ?_
                  refine j_last (n := 36) hX hG (by decide) (by omega) dX12_takesEquation_111 ?_
                  refine j_inc2 hX dX12_takesEquation_112 rfl (by omega) ?_
                  refine j_goto (tgt := 87) hX dX12_takesEquation_115 (by decide) ?_
                  exact ih_87 _ _ (by omega) (fr_u hs3 (by decide)) (lt_stepI (fun j a b => by rw [up_n _ (by omega)]; exact hcp j a b) (by rw [up_s]; exact (hs3 75 _ (by decide)).trans (up_n _ (by omega)))) (fun j hj => by rw [up_n _ (by omega)]; exact hot j hj) (by omega)
            exact lp_87 _ 0 _ (by omega) fr_0 (fun j a b => by omega) (fun j _ => up_n _ (by omega)) (Nat.lt_succ_self _)
          · skip
            exact j_ret hR dX12_takesEquation_77 ⟨⟨GJM_n hJ hf3 (by rw [← f1_Y]; exact f_42 55 1 (by decide)) (fun x => (f_42 78 x (by decide)).trans (hs 78 x (by decide))) (fun x => (f_42 76 x (by decide)).trans (hs 76 x (by decide))) hE2 (fun x a b => hz9 x (by omega) b), fun x a b c => GJM_p hpv (fun x => (f_42 78 x (by decide)).trans (hs 78 x (by decide))) (fun x => (f_42 76 x (by decide)).trans (hs 76 x (by decide))) x a (by rw [← f1_Y, ← f_42 55 1 (by decide)]; exact b) c⟩, fr_t (fr_w hs (by decide)) (fr_w f_42 (by decide))⟩
        refine j_al0 hX dX12_takesEquation_45 rfl ?_
        refine j_getI hX hG fl_X12_136 (Or.inl rfl) (by decide) dX12_takesEquation_46 ?_
        refine j_fx (x := V 55 1) (by first | assumption | rfl) ?_
        refine j_iconst hX dX12_takesEquation_49 ⟨by decide, by decide⟩ ?_
        refine j_isub hX dX12_takesEquation_50 (by omega) ?_
        refine j_is1 hX dX12_takesEquation_51 rfl ?_
        have lp_52 : ∀ (f9 : Nat) (l : Int), (-1 ≤ l ∧ l ≤ V 55 1 - 1) → (∀ y, l < y → y < V 55 1 → V_42 75 y = 0) → ((l + 1).toNat) < f9 → J X G 52 [vA 55, vI l, vU] [] V_42 := by
          intro f9
          induction f9 with
          | zero => intro l _ _ hm; exact absurd hm (Nat.not_lt_zero _)
          | succ f9 ih_52 =>
            intro l hl hz hm
            refine j_il1 hX dX12_takesEquation_52 ?_
            refine j_if_lt (tgt := 73) hX dX12_takesEquation_53 (by decide) (fun h_53 => ?_) (fun h_53 => ?_)
            · skip
              exact jn_73 _ hl hz (by first | exact fun q => h_64 | exact fun q => by omega)
            · skip
              refine j_al0 hX dX12_takesEquation_56 rfl ?_
              refine j_getR (q := 75) hX hG fl_X12_73 rfl rfl (by decide) dX12_takesEquation_57 ?_
              refine j_il1 hX dX12_takesEquation_60 ?_
              refine j_lald (n := 6) hX hG (by decide) (by omega) dX12_takesEquation_61 ?_
              refine j_lconst (x := 0) hX dX12_takesEquation_62 rfl ⟨by decide, by decide⟩ ?_
              refine j_lcmp_ne (tgt := 73) hX dX12_takesEquation_63 dX12_takesEquation_64 (by decide) (fun h_64 => ?_) (fun h_64 => ?_)
              · skip
                exact jn_73 _ hl hz (by first | exact fun q => h_64 | exact fun q => by omega)
              · skip
                refine j_inc1 hX dX12_takesEquation_67 rfl (by omega) ?_
                refine j_goto (tgt := 52) hX dX12_takesEquation_70 (by decide) ?_
                exact ih_52 _ (by omega) (fun y a b => if q : y = l then by rw [q]; exact h_64 else hz y (by omega) b) (by omega)
        exact lp_52 _ _ (by omega) (fun y a b => by omega) (Nat.lt_succ_self _)
      · skip
        have f1_Y : Y 55 1 = V 55 1 := hs 55 1 (by decide)
        refine j_al0 hX dX12_takesEquation_11 rfl ?_
        refine j_getR (q := 78) hX hG fl_X12_83 rfl rfl (by decide) dX12_takesEquation_12 ?_
        refine j_il1 hX dX12_takesEquation_15 ?_
        refine j_zald (n := 6) hX hG (by decide) (by omega) dX12_takesEquation_16 ?_
        refine j_if_eq (tgt := 30) hX dX12_takesEquation_17 (by decide) (fun h_17 => ?_) (fun h_17 => ?_)
        · skip
          refine j_inc1 hX dX12_takesEquation_30 rfl (by omega) ?_
          refine j_goto (tgt := 7) hX dX12_takesEquation_33 (by decide) ?_
          exact ih_7 _ _ (by omega) (by first | exact fr_t hs f_27 | exact hs) (by first | exact te_s hJ hbd hE kp c0 d_27 f1_Y (funext fun z => hs 76 z (by decide)) (hpv k kp.1 kp.2 c0) | exact CEM_skip hE (Or.inl (rw0 ((hs 78 k (by decide)).symm.trans h_17))) (hbd.2.2.2.2.1 k (by omega) (by omega)).2) (by omega)
        · skip
          have kp : 0 ≤ k ∧ k < V 55 1 := by omega
          have c0 : ¬ V 78 k = 0 := fun q => h_17 ((hs 78 k (by decide)).trans q)
          have nbk := hbd.1 k kp.1 kp.2 (hpv k kp.1 kp.2 c0)
          have bk := (hbd.2.2.2.2.1 k kp.1 kp.2).1 (hpv k kp.1 kp.2 c0)
          have bm := hbd.2.2.2.2.2 (k - 1) (by omega) (by omega)
          refine j_al0 hX dX12_takesEquation_20 rfl ?_
          refine j_al0 hX dX12_takesEquation_21 rfl ?_
          refine j_getR (q := 75) hX hG fl_X12_73 rfl rfl (by decide) dX12_takesEquation_22 ?_
          refine j_iconst hX dX12_takesEquation_25 ⟨by decide, by decide⟩ ?_
          refine j_il1 hX dX12_takesEquation_26 ?_
          refine j_cVV3 (ci := 12) hX hG lk_X12_374 (ok_X12_puts_E (by rw [f1_Y]; exact hg) (by decide) (by rw [f1_Y]; exact kp) (fun x a b => by rw [f1_Y] at b; rw [Int.zero_add]; exact (NB_e hE.2.2.2 a b).1) (fun x a b => by rw [f1_Y] at b; rw [hs 76 _ (by decide)]; have h9 := (NB_e nbk a b).1; rw [rw1 c0] at h9; exact h9) (by omega)) (by decide) rfl (Nat.le_of_ble_eq_true rfl) (Nat.le_of_ble_eq_true rfl) (Nat.le_of_ble_eq_true rfl) rfl dX12_takesEquation_27 (fun V_27 h_27 => ?_)
          obtain ⟨d_27, -, f_27⟩ := h_27
          refine j_inc1 hX dX12_takesEquation_30 rfl (by omega) ?_
          refine j_goto (tgt := 7) hX dX12_takesEquation_33 (by decide) ?_
          exact ih_7 _ _ (by omega) (by first | exact fr_t hs f_27 | exact hs) (by first | exact te_s hJ hbd hE kp c0 d_27 f1_Y (funext fun z => hs 76 z (by decide)) (hpv k kp.1 kp.2 c0) | exact CEM_skip hE (Or.inl (rw0 ((hs 78 k (by decide)).symm.trans h_17))) (hbd.2.2.2.2.1 k (by omega) (by omega)).2) (by omega)
  exact lp_7 _ _ _ (by omega) fr_0 (CEM_0 hf3 hbd.2.2.2.1 he) (Nat.lt_succ_self _)
