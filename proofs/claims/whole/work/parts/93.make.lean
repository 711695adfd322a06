/-! MAKING: what new, newarray and the constructors do -/
/-- which fields are set, by a list of (first cell, cell after the last, field or -1 for all) -/
def pB (L : List (Int × Int × Int)) (a : Int) (j : Nat) : Bool := L.any (fun q => decide (q.1 ≤ a) && decide (a < q.2.1) && (decide (q.2.2 = -1) || decide (q.2.2 = (j : Int))))
def mx (k : Int) (L : List (Int × Int × Int)) (R : Int → Nat → Bool) : Int → Nat → Bool := fun a j => if k ≤ a then pB L a j else R a j
def sT (R : Int → Nat → Bool) (k n : Int) : Int → Nat → Bool := fun a j => if k ≤ a ∧ a < n then true else R a j
theorem cel_no {Y : Lay} {G G' : GS} {V : VV} {k : Int} (h : (kd k).1 ≠ 0) : cel Y G V k = cel Y G' V k := by
  unfold cel
  rcases hk : kd k with ⟨t, n⟩
  rw [hk] at h
  match t, h with
  | 0, h => exact absurd rfl h
  | 1, _ => rfl
  | 2, _ => rfl
  | t + 3, _ => rfl
theorem cel_refs {Y : Lay} {G G' : GS} {V : VV} {k : Int} (e : ∀ (ci j : Nat), kd k = (0, ci) → ft ci j = 2 → G.2.1 k j = G'.2.1 k j) : cel Y G V k = cel Y G' V k := by
  by_cases h : (kd k).1 = 0
  · have hk : kd k = (0, (kd k).2) := by rw [← h]
    rw [cel_ob hk, cel_ob hk]
    congr 2
    refine List.map_congr_left fun j _ => ?_
    unfold fv
    by_cases h2 : ft (kd k).2 j = 2
    · rw [if_pos h2, if_pos h2, e _ j hk h2]
    · rw [if_neg h2, if_neg h2]
  · exact cel_no h
theorem Wd.refs {Y : Lay} {n : Nat} {R R' : Int → Nat → Bool} {c s c' s' : Nat} {V : VV} {H : Heap} (h : Wd Y (n, R, c, s) V H) (e : ∀ (a ci j : Nat), a < n → kd a = (0, ci) → ft ci j = 2 → R a j = R' a j) : Wd Y (n, R', c', s') V H := by
  refine ⟨h.1, h.2.1, fun k hk => ?_⟩
  have := h.2.2 k hk
  rw [cel_refs (G' := (n, R', c', s')) (fun ci j h1 h2 => e k ci j hk h1 h2)] at this
  exact this
section MAKE
variable {X : Cx} {own : String} {cc : ByteArray} {nL fr lo : Nat} {n c s : Nat} {R R' : Int → Nat → Bool} {pc : Nat} {ls st : List MV} {V : VV}
theorem j_R (e : ∀ (a ci j : Nat), a < n → kd a = (0, ci) → ft ci j = 2 → R a j = R' a j) (kk : J X (n, R', c, s) pc ls st V) : J X (n, R, c, s) pc ls st V := fun h1 h2 h3 H locs lsr hW hS hL =>
  kk h1 h2 h3 H locs lsr ⟨hW.1.refs e, hW.2⟩ hS hL
theorem kept_new {Y : Lay} {G G' : GS} {H H' : Heap} (h : Wd Y G V H) (o1 : ∀ q, q < H.size → H'[q]? = H[q]?) {k : Nat} (hk : k < G.1) (e : cel Y G V k = cel Y G' V k) : va_at (yD Y) vwCl (yz Y + k, cel Y G' V k) H' := by
  rw [← e]
  refine (h.2.2 k hk).kept (o1 _ ?_)
  have := h.1
  show yz Y + k < H.size
  omega
theorem j_newarr {x : Int} {t len : Nat} {at9 : ArrayType} {ty : FieldType} (hX : Good X own cc nL fr lo) (hn : n < NA) (hk : kd n = (t, len)) (hty : newarray.typeOf at9 = ty) (ha : Cond.arrayClass ty ∈ Gw) (ht : (t = 1 ∧ ty = .int) ∨ (t = 2 ∧ ty = .long) ∨ (t = 3 ∧ ty = .boolean)) (hx : x = len) (hl : len ≤ 60000) (hz : ∀ j, V n j = 0) (hc : c + 1 ≤ (cR X).cells) (hs : s + len ≤ (cR X).slots) (hd : decode cc pc = .ok (.newarray at9, 2))
    (kk : J X (n + 1, R, c + 1, s + len) (pc + 2) ls (vA n :: st) V) : J X (n, R, c, s) pc ls (vI x :: st) V := fun h1 h2 h3 H locs lsr hW hS hL => by
  subst hty
  subst hx
  have hsz : H.size = yz (cY X) + n := hW.1.2.1 hn
  have hi : (Int32.ofInt (len : Int)).toInt = (len : Int) := i32v ⟨by omega, by omega⟩
  refine va_newaK (atype := at9) hX.1 hX.2.1 (hX.ts _ ha) rfl hd rfl (N := len) ?_ ?_ ?_ hc hs rfl ?_
  · rw [Int32.lt_iff_toInt_lt, hi]
    show ¬ ((len : Int) < 0)
    omega
  · show (Int32.ofInt (len : Int)).toInt.toNat = len
    rw [hi]
    rfl
  · rcases ht with ⟨_, e⟩ | ⟨_, e⟩ | ⟨_, e⟩ <;> rw [e] <;> simp only [componentBytes] <;> omega
  · intro H' cA e1 e2 e3 e4 e5
    have hS' : va_S (aZ0 (cY X)) (cs X).heap H' locs := ⟨Nat.le_trans hS.1 (by omega), fun q g1 g2 => (e3 q (Nat.lt_of_lt_of_le g1 hS.1)).trans (hS.2.1 q g1 g2), hS.2.2⟩
    have hcell : va_at (yD (cY X)) vwCl (yz (cY X) + n, cel (cY X) (n + 1, R, c + 1, s + len) V n) H' := by
      rw [hsz] at e1
      rcases ht with ⟨rfl, e⟩ | ⟨rfl, e⟩ | ⟨rfl, e⟩
      · rw [cel_i hk]
        have hy : cA = yI (cY X) := by
          have := (hX.k.2 0 _ rfl).2
          rw [e] at e5
          exact Option.some.inj (e5.symm.trans this)
        subst hy
        show H'[yz (cY X) + n]? = some (vp_cell _ _)
        rw [e1, vp_cell_i, e]
        congr 2
        funext j
        rw [hz]
        rfl
      · rw [cel_l hk]
        have hy : cA = yL (cY X) := by
          have := (hX.k.2 1 _ rfl).2
          rw [e] at e5
          exact Option.some.inj (e5.symm.trans this)
        subst hy
        show H'[yz (cY X) + n]? = some (vp_cell _ _)
        rw [e1, vp_cell_l, e]
        congr 2
        funext j
        rw [hz]
        rfl
      · rw [cel_z hk]
        have hy : cA = yZ (cY X) := by
          have := (hX.k.2 2 _ rfl).2
          rw [e] at e5
          exact Option.some.inj (e5.symm.trans this)
        subst hy
        show H'[yz (cY X) + n]? = some (vp_cell _ _)
        rw [e1, vp_cell_i, e]
        congr 2
        funext j
        rw [hz]
        rfl
    have hWd : Wd (cY X) (n + 1, R, c + 1, s + len) V H' := by
      refine ⟨?_, fun _ => ?_, fun k hk9 => ?_⟩
      · show yz (cY X) + (n + 1) ≤ H'.size
        omega
      · show H'.size = yz (cY X) + (n + 1)
        omega
      · by_cases e : k = n
        · rw [e]
          exact hcell
        · exact kept_new hW.1 e3 (show k < n by have : k < n + 1 := hk9; omega) (cel_refs (fun _ _ _ _ => rfl))
    have hv : mvv (cY X) (vA (n : Int)) = .ref H.size := by
      show Value.ref (adr _ _) = _
      unfold adr
      rw [hsz]
      rfl
    have := kk h1 (okl_cons (okO (by decide) (by decide)) (okl_tl h2)) h3 H' locs lsr ⟨hWd, hc, hs⟩ hS' hL
    rw [List.map_cons, hv] at this
    exact this
theorem j_new {idx ci N : Nat} {C : String} {T : u_T} {ty : Nat → FieldType} (hX : Good X own cc nL fr lo) (hn : n < NA) (hk : kd n = (0, ci)) (hcl : vwCl[ci]? = some (C, T, N)) (hN : nfL.getD ci 0 = N) (hin : ∀ w ∈ u_ws C T N, w ∈ Gw) (hty : ∀ k, k < N → parseFieldDescriptor (T k).2.2.1 = some (ty k)) (hdv : ∀ j, j < N → defaultValue (ty j) = if ft ci j = 2 then .null else .int 0)
    (hlk : Cond.classLink own idx C ∈ Gw) (hins : Cond.instantiable C N ∈ Gw) (hini : Cond.initialized C ∈ Gw) (hz : ∀ j, V n j = 0) (hr : ∀ j, R n j = false) (hc : c + 1 ≤ (cR X).cells) (hs : s + N ≤ (cR X).slots) (hd : decode cc pc = .ok (.new idx, 3))
    (kk : J X (n + 1, R, c + 1, s + N) (pc + 3) ls (vA n :: st) V) : J X (n, R, c, s) pc ls st V := fun h1 h2 h3 H locs lsr hW hS hL => by
  have hsz : H.size = yz (cY X) + n := hW.1.2.1 hn
  have hKn := hX.k.1 ci _ hcl
  refine W.newcK hX.1 hX.2.1 hX.own (hX.ts _ hlk) (hX.ts _ hins) (hX.ts _ hini) rfl hd hc hs hKn.2.1 rfl fun H' kC hkC e1 e2 e3 => ?_
  have hS' : va_S (aZ0 (cY X)) (cs X).heap H' locs := ⟨Nat.le_trans hS.1 (by omega), fun q g1 g2 => (e3 q (Nat.lt_of_lt_of_le g1 hS.1)).trans (hS.2.1 q g1 g2), hS.2.2⟩
  have hcell : va_at (yD (cY X)) vwCl (yz (cY X) + n, cel (cY X) (n + 1, R, c + 1, s + N) V n) H' := by
    rw [cel_ob hk]
    rw [hsz] at e1
    refine ⟨_, hcl, (u_born ty hX.ts hin hKn hkC e1 hty).to fun j hj => ?_⟩
    show defaultValue (ty j) = ((List.range (nfL.getD ci 0)).map (fv (cY X) (n + 1, R, c + 1, s + N) V n ci)).getD j .null
    rw [List.getD_eq_getElem?_getD, fs_at hN hj, hdv j hj]
    show _ = fv (cY X) (n + 1, R, c + 1, s + N) V n ci j
    unfold fv
    by_cases h2 : ft ci j = 2
    · rw [if_pos h2, if_pos h2]
      show Value.null = if R n j = true then _ else Value.null
      rw [if_neg (by rw [hr]; decide)]
    · rw [if_neg h2, if_neg h2, hz]
      rfl
  have hWd : Wd (cY X) (n + 1, R, c + 1, s + N) V H' := by
    refine ⟨?_, fun _ => ?_, fun k hk9 => ?_⟩
    · show yz (cY X) + (n + 1) ≤ H'.size
      omega
    · show H'.size = yz (cY X) + (n + 1)
      omega
    · by_cases e : k = n
      · rw [e]
        exact hcell
      · exact kept_new hW.1 e3 (show k < n by have : k < n + 1 := hk9; omega) (cel_refs (fun _ _ _ _ => rfl))
  have hv : mvv (cY X) (vA (n : Int)) = .ref H.size := by
    show Value.ref (adr _ _) = _
    unfold adr
    rw [hsz]
    rfl
  have := kk h1 (okl_cons (okO (by decide) (by decide)) h2) h3 H' locs lsr ⟨hWd, hc, hs⟩ hS' hL
  rw [List.map_cons, hv] at this
  exact this
/-- a final field of a reference as a constructor names it -/
def FN9 (own : String) (idx ci j : Nat) : Prop := ∃ (T : u_T) (N : Nat) (ty : Nat → FieldType), vwCl[ci]? = some (own, T, N) ∧ nfL.getD ci 0 = N ∧ j < N ∧ (∀ w ∈ u_ws own T N, w ∈ Gw) ∧ Cond.fieldLink own idx own (T j).2.1 (T j).2.2.1 ∈ Gw ∧
  (∀ k, k < N → parseFieldDescriptor (T k).2.2.1 = some (ty k)) ∧ (∀ a, a < N → ∀ b, b < N → a ≠ b → (T a).2.1 ≠ (T b).2.1) ∧ (T j).1 = own ∧ (T j).2.2.2 = true ∧ (∀ a, narrow (ty j) (.ref a) = .ref a) ∧ (∀ a, fits (ty j) (.ref a) = true)
theorem j_putR {idx ci j : Nat} {k q : Int} (hX : Good X own cc nL fr lo) (hk : 0 ≤ k ∧ k < n) (hkd : kd k = (0, ci)) (hf : FN9 own idx ci j) (hrf : rf k j = q) (ht : ft ci j = 2) (hI : (cme X).name = "<init>") (hd : decode cc pc = .ok (.putfield idx, 3))
    (kk : J X (n, fun a b => if a = k ∧ b = j then true else R a b, c, s) (pc + 3) ls st V) : J X (n, R, c, s) pc ls (vA q :: vA k :: st) V := fun h1 h2 h3 H locs lsr hW hS hL => by
  obtain ⟨T, N, ty, hc, hN, hj, hin, hlink, hty, hnm, hdecl, hfin, hnr, hft⟩ := hf
  have hat := hW.1.2.2 k.toNat (show k.toNat < n by omega)
  rw [show ((k.toNat : Nat) : Int) = k by omega, cel_ob hkd] at hat
  have hap := va_apart (own := own) hX.ts hin ty hty hnm hX.k hc
  obtain ⟨r, g1, cell, q1, q2, q3, q4⟩ := hat
  have hr : r = (own, T, N) := Option.some.inj (g1.symm.trans hc)
  subst hr
  obtain ⟨hSl, hfc, kC, hkC, hkind⟩ := hX.k.1 ci _ hc
  obtain ⟨cf, kf, fi, f, hi, hsl⟩ := hSl j hj
  have hlay := hX.ts _ (hin _ (u_in_lay hj))
  unfold u_lay at hlay
  rw [if_pos hfin] at hlay
  have hst := (u_facts hfc hkC (u_lays hX.ts hin hj) hi).1
  have hcf : (cm X).cls = cf := by
    obtain ⟨_, _, c', _, _, _, -, -, hf', -, -, -, hown2, -⟩ := Cond.laysFinal_spec hlay
    have e1 : c' = cf := by have := hi.symm.trans hf'; simp at this; exact this.1.symm
    rw [hdecl] at hown2
    rw [← e1]; exact Option.some.inj (hX.own.symm.trans hown2)
  have h6 := u_fits hfc hkC hkind (Or.inr hlay) hi (hty j hj) (hnr (adr (cY X) q)) (hft (adr (cY X) q))
  have hadr : yz (cY X) + k.toNat = adr (cY X) k := rfl
  rw [hadr] at q1
  refine W.putFinK hX.1 hX.2.1 hX.own (hX.ts _ hlink) (by rw [← hdecl]; exact hi) hst hcf hI (by rw [q2]; exact h6) q1 q3 (by rw [hsl]; exact k2_hasslot (q4 j hj)) rfl rfl hd fun H' e1 e2 e3 => ?_
  rw [hsl] at e1 ⊢
  have hW' : Wd (cY X) (n, fun a b => if a = k ∧ b = j then true else R a b, c, s) V H' := by
    refine ⟨by rw [e2]; exact hW.1.1, fun q => by rw [e2]; exact hW.1.2.1 q, fun a ha => ?_⟩
    by_cases hak : (a : Int) = k
    · subst hak
      rw [cel_ob hkd]
      have e : ((List.range (nfL.getD ci 0)).map (fv (cY X) (n, fun x b => if x = (a : Int) ∧ b = j then true else R x b, c, s) V a ci)) = ((List.range (nfL.getD ci 0)).map (fv (cY X) (n, R, c, s) V a ci)).set j (.ref (adr (cY X) q)) := by
        refine List.ext_getElem? fun i => ?_
        rw [List.getElem?_set]
        simp only [List.getElem?_map, List.length_map, List.length_range]
        by_cases hi9 : j = i
        · subst hi9
          rw [if_pos rfl, if_pos (by rw [hN]; exact hj), List.getElem?_range (by rw [hN]; exact hj)]
          show some (fv _ _ _ _ _ _) = _
          unfold fv
          rw [if_pos ht]
          show some (if (if (a : Int) = (a : Int) ∧ j = j then true else R a j) = true then _ else _) = _
          rw [if_pos (by rw [if_pos ⟨rfl, rfl⟩]), hrf]
        · rw [if_neg hi9]
          by_cases hl : i < nfL.getD ci 0
          · rw [List.getElem?_range hl]
            show some (fv _ _ _ _ _ _) = some (fv _ _ _ _ _ _)
            unfold fv
            by_cases h2 : ft ci i = 2
            · rw [if_pos h2, if_pos h2]
              show some (if (if (a : Int) = (a : Int) ∧ i = j then true else R a i) = true then _ else _) = _
              rw [if_neg (fun z : (a : Int) = (a : Int) ∧ i = j => hi9 z.2.symm)]
            · rw [if_neg h2, if_neg h2]
          · rw [List.getElem?_eq_none (by simpa using hl)]
            rfl
      rw [e]
      have hadr2 : yz (cY X) + a = adr (cY X) (a : Int) := rfl
      rw [hadr2]
      exact ⟨_, hc, t_OB.to (V := updV (vp_V _) j (.ref (adr (cY X) q))) ⟨_, e1, q2, q3, t_set q4 hap hj _⟩ (fun i _ => vp_updV_set (by rw [List.length_map, List.length_range, hN]; exact hj) _ i)⟩
    · rw [← cel_refs (G := (n, R, c, s)) (fun ci' j' _ _ => by show R a j' = if (a : Int) = k ∧ j' = j then true else R a j'; rw [if_neg (fun z => hak z.1)])]
      refine (hW.1.2.2 a ha).kept (e3 _ ?_)
      show yz (cY X) + a ≠ adr (cY X) k
      unfold adr
      omega
  exact kk h1 (okl_tl (okl_tl h2)) h3 H' _ lsr ⟨hW', hW.2⟩ (hS.put e2 e3 (adr_z _ _)) hL
theorem j_putM {idx ci j : Nat} {k q k0 : Int} {L : List (Int × Int × Int)} (hX : Good X own cc nL fr lo) (hk : 0 ≤ k ∧ k < n) (h0 : k0 ≤ k) (hkd : kd k = (0, ci)) (hf : FN9 own idx ci j) (hrf : rf k j = q) (ht : ft ci j = 2) (hI : (cme X).name = "<init>") (hd : decode cc pc = .ok (.putfield idx, 3))
    (kk : J X (n, mx k0 ((k, k + 1, (j : Int)) :: L) R, c, s) (pc + 3) ls st V) : J X (n, mx k0 L R, c, s) pc ls (vA q :: vA k :: st) V := by
  refine j_putR hX hk hkd hf hrf ht hI hd (j_R (fun a ci' j' _ _ _ => ?_) kk)
  show (if (a : Int) = k ∧ j' = j then true else mx k0 L R a j') = mx k0 ((k, k + 1, (j : Int)) :: L) R a j'
  unfold mx
  by_cases ha : k0 ≤ (a : Int)
  · rw [if_pos ha, if_pos ha]
    unfold pB
    rw [List.any_cons]
    by_cases e : (a : Int) = k ∧ j' = j
    · rw [if_pos e]
      have : (decide (k ≤ (a : Int)) && decide ((a : Int) < k + 1) && (decide ((j : Int) = -1) || decide ((j : Int) = (j' : Int)))) = true := by
        rw [decide_eq_true (show k ≤ (a : Int) by omega), decide_eq_true (show (a : Int) < k + 1 by omega), decide_eq_true (show (j : Int) = (j' : Int) by omega), Bool.or_true]
        rfl
      rw [this, Bool.true_or]
    · rw [if_neg e]
      have : (decide (k ≤ (a : Int)) && decide ((a : Int) < k + 1) && (decide ((j : Int) = -1) || decide ((j : Int) = (j' : Int)))) = false := by
        by_cases e1 : k ≤ (a : Int) ∧ (a : Int) < k + 1
        · rw [decide_eq_false (show ¬ ((j : Int) = -1) by omega), decide_eq_false (show ¬ ((j : Int) = (j' : Int)) by omega), Bool.or_false, Bool.and_false]
        · by_cases e2 : k ≤ (a : Int)
          · rw [decide_eq_false (show ¬ (a : Int) < k + 1 by omega), Bool.and_false, Bool.false_and]
          · rw [decide_eq_false e2, Bool.false_and, Bool.false_and]
      rw [this, Bool.false_or]
  · rw [if_neg ha, if_neg ha, if_neg (by omega)]
theorem oI_i : Cond.instanceMethod objectInit ∈ Gw := inT1 33 (by decide +kernel) rfl
theorem oI_c : Cond.code objectInit ⟨#[0xb1]⟩ 1 none ∈ Gw := inT1 34 (by decide +kernel) rfl
theorem j_objI {G : GS} {v : MV} {idx : Nat} (hX : Good X own cc nL fr lo) (hl : Cond.methodLink own idx objectInit ∈ Gw) (hr : isR v = true) (hfr : 1 ≤ fr) (hlo : stk st + 12 ≤ lo) (hlen : ls.length = nL) (hd : decode cc pc = .ok (.invokespecial idx, 3)) (kk : J X G (pc + 3) ls st V) : J X G pc ls (v :: st) V := fun h1 h2 h3 H locs lsr hW hS hL => by
  obtain ⟨a, ha⟩ := isR_ref (cY X) hr
  show WX X H locs _ _ (F0 (cm X) pc lsr (mvv (cY X) v :: st.map (mvv (cY X))))
  rw [ha]
  refine W.objInit hX.1 hX.2.1 hX.own (hX.ts _ hl) (hX.ts _ oI_i) (hX.ts _ oI_c) rfl ((hL.1.trans hlen).trans hX.2.2.1.symm) rfl hd (by rw [hX.2.2.2.2.2.2.2.1]; exact hfr) ?_ (kk h1 (okl_tl h2) h3 H locs lsr hW hS hL)
  rw [hX.2.2.2.2.2.2.2.2, stk_cat]
  show 2 * 0 + stk st + 12 ≤ lo
  omega
end MAKE
/-- A CONSTRUCTOR'S CONTRACT, of the object k made last: it makes the cells up to n', and sets all their fields of references -/
def OkN (y : MethodName) (cb : ByteArray) (mL fr lo k n' mc ms : Nat) (V : VV) (post : VV → Prop) : Prop :=
  okV V → ∀ (l : Launch) (Y : Lay) (R : Int → Nat → Bool), ((∀ (a : Int) (j : Nat), (k : Int) ≤ a → R a j = false) ∧ (k = 55 → ∀ (a : Int) (j : Nat), 0 ≤ a → a < 55 → R a j = true)) →
    Met l y (.code y cb mL none :: Gw) ({ frames := fr, cells := mc, slots := ms, locals := lo } : Room) (mPc Y (k + 1, R, 0, 0) [vA k] V) (mQc Y (n', sT R k n', 0, 0) (pV post)) mc ms (aZ0 Y)
theorem OkN.intro {y : MethodName} {cb : ByteArray} {mL fr lo k n' mc ms : Nat} {V : VV} {post : VV → Prop} (hy : plainFor y = true) (hI : y.name = "<init>") (hlen : 1 ≤ mL)
    (body : ∀ (X : Cx) (R : Int → Nat → Bool), Good X y.cls cb mL fr lo → (cme X).name = "<init>" → (k = 55 → ∀ (a : Int) (j : Nat), 0 ≤ a → a < 55 → R a j = true) → (cR X).cells = mc → (cR X).slots = ms → Ret X cb none (n', sT R k n', mc, ms) (pV post) → okV V → J X (k + 1, mx k [] R, 0, 0) 0 (entL [vA k] mL) [] V) : OkN y cb mL fr lo k n' mc ms V post := by
  intro hoV l Y R hR
  have hoa : okl [vA (k : Int)] := fun v hv => by rw [List.mem_singleton.mp hv]; exact okO (by decide) (by decide)
  refine Met.ofWF (cc := cb) (maxL := mL) (ret := none) hy rfl ?_
  intro p e s m args below meth c s₁ B hml hv
  obtain ⟨rfl, hW, hK⟩ := hv
  have hts := atoms_spec (ws := .code y cb mL none :: Gw) B.pre
  have hret := B.returns
  have hlocks : meth.locks = false := B.notSynchronized
  have hx := B.exec
  have hbb := B.bytes
  have key := body (Y, p, l, e, ({ frames := fr, cells := mc, slots := ms, locals := lo } : Room), s, m, ([vA (k : Int)].map (mvv Y)).toArray, below, meth, c, MQ below (mQc Y (n', sT R k n', 0, 0) (pV post)) ([vA (k : Int)].map (mvv Y)).toArray s mc ms (aZ0 Y)) R
    ⟨hx, hbb, hml, findClass_of_methodNamed B.named, fun w hw => hts w (List.mem_cons_of_mem _ hw), hK, hlocks, rfl, rfl⟩ ((name_of_methodNamed B.named B.method).1.trans hI) hR.2 rfl rfl ?_ hoV
  · have h9 := key (entL_okl hoa) (fun _ h => by cases h) hoV s.heap [] _ ⟨hW.refs (fun a ci j _ _ _ => ?_), Nat.zero_le _, Nat.zero_le _⟩ va_S.rf (ent_lvh Y hlen)
    · rw [lg_entry_eq]
      exact h9
    · show R a j = mx k [] R a j
      unfold mx
      by_cases h : (k : Int) ≤ (a : Int)
      · rw [if_pos h, hR.1 _ _ h]
        rfl
      · rw [if_neg h]
  · intro pc r V' H locs lsr hp hok hoV' hW' hS hr
    have hWd : Wd Y (n', sT R k n', 0, 0) V' H := hW'.1.refs (fun _ _ _ _ _ _ => rfl)
    have hF : ∀ t : State, t.heap = H → va_F (aZ0 Y) s t := fun t ht => hS.F ht
    have hl : ∀ q ∈ locs, aZ0 Y q.base := hS.2.2
    obtain ⟨rfl, hp⟩ := hp
    exact W.vret hx hbb hret (fun t ht _ => ⟨⟨none, V', rfl, ⟨rfl, hp⟩, hok, hoV', by rw [ht]; exact hWd⟩, hF t ht⟩) hl hr.2 hlocks
theorem j_afterN {X : Cx} {H : Heap} {locs : List Loc} {cells slots mc ms pc : Nat} {lsr : Array Slot} {st0 rest : List Value} {G' : GS} {post : Option MV → VV → Prop} {a : Array Value}
    (hr : va_Run X.2.1 X.2.2.1 X.2.2.2.1 X.2.2.2.2.1 X.2.2.2.2.2.1 X.2.2.2.2.2.2.1 X.2.2.2.2.2.2.2.1 X.2.2.2.2.2.2.2.2.1 X.2.2.2.2.2.2.2.2.2.1 X.2.2.2.2.2.2.2.2.2.2.1 H locs cells slots mc ms (F0 (cm X) pc lsr st0) rest (mQc (cY X) G' post a) (aZ0 (cY X)))
    (hS : va_S (aZ0 (cY X)) (cs X).heap H locs)
    (kk : ∀ (r : Option MV) (V' : VV) (H' : Heap) (locs' : List Loc), post r V' → (∀ v, r = some v → okv v) → okV V' → Wd (cY X) G' V' H' → va_S (aZ0 (cY X)) (cs X).heap H' locs' → WX X H' locs' (cells + mc) (slots + ms) (F0 (cm X) (pc + 3) lsr ((r.map (mvv (cY X))).toList ++ rest))) :
    WX X H locs cells slots (F0 (cm X) pc lsr st0) := by
  intro T hT XX
  obtain ⟨v, st₀, t, T', L, h0, X', hL, e1, e2, ⟨⟨r, V', ho, hp, hok, hoV, hW'⟩, hz, hk⟩, go⟩ := hr T hT XX
  cases ho
  rw [h0] at hz hk
  obtain ⟨t2, a1, b1⟩ := kk r V' T'.heap (locs ++ L) hp hok hoV (by rw [e1]; exact hW')
    ⟨Nat.le_trans hS.1 (by rw [e1]; exact hz), fun q h1 h2 => by rw [e1, hk q (Nat.lt_of_lt_of_le h1 hS.1) h2]; exact hS.2.1 q h1 h2, fun q hq => by
      rcases List.mem_append.mp hq with h | h
      · exact hS.2.2 q h
      · exact hL q h⟩ T' rfl X'
  exact ⟨t2, go t2 a1, b1⟩
def lkN (own : String) (idx : Nat) (y : MethodName) (cb : ByteArray) (mL : Nat) : Prop := lk0 own idx y cb mL none 0 ∧ Cond.instanceMethod y ∈ Gw ∧ y.name = "<init>"
section CALLN
variable {X : Cx} {own : String} {cc : ByteArray} {nL fr lo : Nat} {c s : Nat} {R : Int → Nat → Bool} {pc : Nat} {ls st : List MV} {V : VV}
variable {y : MethodName} {cb : ByteArray} {mL fr' lo' idx k n2 mc ms : Nat} {post : VV → Prop}
theorem j_callN (hX : Good X own cc nL fr lo) (hc : lkN own idx y cb mL) (hok : OkN y cb mL fr' lo' k n2 mc ms V post) (hR : (∀ (a : Int) (j : Nat), (k : Int) ≤ a → R a j = false) ∧ (k = 55 → ∀ (a : Int) (j : Nat), 0 ≤ a → a < 55 → R a j = true)) (hfr : fr' + 1 ≤ fr) (hlo : 8 + (mL + 11) + lo' ≤ lo) (hst : stk st ≤ 8) (hlen : ls.length = nL)
    (hrm : c + mc ≤ (cR X).cells ∧ s + ms ≤ (cR X).slots) (hd : decode cc pc = .ok (.invokespecial idx, 3)) (kk : ∀ V', post V' → J X (n2, sT R k n2, c + mc, s + ms) (pc + 3) ls st V') : J X (k + 1, R, c, s) pc ls (vA k :: st) V := fun h1 h2 h3 H locs lsr hW hS hL => by
  have hM := hok h3 X.2.2.1 (cY X) R hR
  have hp : PreS (cs X) H (mPc (cY X) (k + 1, R, 0, 0) [vA (k : Int)] V) (.ref (adr (cY X) k) :: []) := ⟨mPc_blind, fun U hU hWU => ⟨rfl, by rw [hU]; exact hW.1.refs (fun _ _ _ _ _ _ => rfl), hX.kk.at hS hU hWU⟩⟩
  have hsz : lsr.size = nL := hL.1.trans hlen
  show WX X H locs _ _ (F0 (cm X) pc lsr (.ref (adr (cY X) k) :: st.map (mvv (cY X))))
  have fin : ∀ (r : Option MV) (V' : VV) (H' : Heap) (locs' : List Loc), (pV post) r V' → (∀ v, r = some v → okv v) → okV V' → Wd (cY X) (n2, sT R k n2, 0, 0) V' H' → va_S (aZ0 (cY X)) (cs X).heap H' locs' → WX X H' locs' (c + mc) (s + ms) (F0 (cm X) (pc + 3) lsr ((r.map (mvv (cY X))).toList ++ st.map (mvv (cY X)))) := by
    intro r V' H' locs' p1 p2 p3 p4 p5
    obtain ⟨rfl, p1⟩ := p1
    exact kk V' p1 h1 (okl_tl h2) p3 H' locs' lsr ⟨p4.refs (fun _ _ _ _ _ _ => rfl), hrm⟩ p5 hL
  obtain ⟨h0, hins, hnm⟩ := hc
  have hroom : fr' + 1 ≤ (cR X).frames ∧ 8 + (mL + 11) + lo' ≤ (cR X).locals := ⟨by rw [hX.2.2.2.2.2.2.2.1]; exact hfr, by rw [hX.2.2.2.2.2.2.2.2]; exact hlo⟩
  have hgw : GoodIn Gw (.code y cb mL none :: Gw) := fun w hw => (List.mem_cons.mp hw).elim (fun e => by rw [e]; exact Gw_good _ h0.2.2.1) (Gw_good w)
  rcases h0.1 with hl | ⟨host, hl⟩
  · exact j_afterN (va_runI (As := []) (fixX hX) hM ⟨callB_of 0 hX.ts hgw rfl rfl rfl (hX.ts _ h0.2.1) (hX.ts _ hl) h0.2.2.2 hroom, hnm, hX.ts _ hins⟩ hp rfl rfl hsz rfl (roomX hst) hd hrm) hS fin
  · exact j_afterN (va_runIN (As := []) (fixX hX) hM ⟨va_cnB 0 hX.ts hgw rfl rfl rfl (hX.kk.2.1 _ hl) (hX.ts _ h0.2.1) h0.2.2.2 hroom, hnm, hX.ts _ hins⟩ hp rfl rfl hsz rfl (roomX hst) hd hrm) hS fin
/-- within a constructor of k0 -/
theorem j_callM {k0 : Int} {L : List (Int × Int × Int)} (hX : Good X own cc nL fr lo) (hc : lkN own idx y cb mL) (hok : OkN y cb mL fr' lo' k n2 mc ms V post) (h0 : k0 ≤ k) (hne : k ≠ 55) (hL9 : L.all (fun q => decide (q.2.1 ≤ (k : Int))) = true) (hfr : fr' + 1 ≤ fr) (hlo : 8 + (mL + 11) + lo' ≤ lo) (hst : stk st ≤ 8) (hlen : ls.length = nL)
    (hrm : c + mc ≤ (cR X).cells ∧ s + ms ≤ (cR X).slots) (hd : decode cc pc = .ok (.invokespecial idx, 3)) (kk : ∀ V', post V' → J X (n2, mx k0 (((k : Int), (n2 : Int), -1) :: L) R, c + mc, s + ms) (pc + 3) ls st V') : J X (k + 1, mx k0 L R, c, s) pc ls (vA k :: st) V := by
  refine j_callN hX hc hok ⟨fun a j ha => ?_, fun e => absurd e hne⟩ hfr hlo hst hlen hrm hd (fun V' hp => j_R (fun a ci j _ _ _ => ?_) (kk V' hp))
  · unfold mx
    rw [if_pos (by omega)]
    unfold pB
    refine Bool.eq_false_iff.mpr fun h => ?_
    obtain ⟨q, q1, q2⟩ := List.any_eq_true.mp h
    have := List.all_eq_true.mp hL9 q q1
    rw [decide_eq_true_eq] at this
    rw [Bool.and_eq_true, Bool.and_eq_true, decide_eq_true_eq, decide_eq_true_eq] at q2
    omega
  · show sT (mx k0 L R) k n2 a j = mx k0 (((k : Int), (n2 : Int), -1) :: L) R a j
    unfold sT mx
    by_cases ha : k0 ≤ (a : Int)
    · rw [if_pos ha, if_pos ha]
      unfold pB
      rw [List.any_cons]
      by_cases e : (k : Int) ≤ a ∧ (a : Int) < n2
      · rw [if_pos e, decide_eq_true e.1, decide_eq_true e.2]
        rfl
      · rw [if_neg e]
        have : (decide ((k : Int) ≤ (a : Int)) && decide ((a : Int) < (n2 : Int))) = false := by
          by_cases e2 : (k : Int) ≤ (a : Int)
          · rw [decide_eq_false (show ¬ (a : Int) < (n2 : Int) by omega), Bool.and_false]
          · rw [decide_eq_false e2, Bool.false_and]
        rw [this, Bool.false_and, Bool.false_or]
    · rw [if_neg ha, if_neg ha, if_neg (by omega)]
end CALLN
/-- at a constructor's end all is set -/
def allB (k n : Nat) (L : List (Int × Int × Int)) : Bool := (List.range n).all (fun a => decide (a < k) || decide ((kd a).1 ≠ 0) || (List.range 60).all (fun j => decide (ft (kd a).2 j ≠ 2) || pB L a j))
theorem ft_60 {ci j : Nat} (h : ft ci j = 2) : j < 60 := by
  by_cases hj : j < 60
  · exact hj
  · exfalso
    unfold ft at h
    have hall : ∀ r ∈ ftL, r.length ≤ 60 := by decide +kernel
    have : (ftL.getD ci []).length ≤ 60 := by
      rw [List.getD_eq_getElem?_getD]
      cases e : ftL[ci]? with
      | none => exact Nat.zero_le _
      | some r => exact hall r (List.mem_of_getElem? e)
    rw [List.getD_eq_getElem?_getD, List.getElem?_eq_none (by omega)] at h
    exact absurd h (by decide)
theorem j_end {X : Cx} {n k c s pc : Nat} {R : Int → Nat → Bool} {L : List (Int × Int × Int)} {ls st : List MV} {V : VV} (h : allB k n L = true) (kk : J X (n, sT R k n, c, s) pc ls st V) : J X (n, mx k L R, c, s) pc ls st V := by
  refine j_R (fun a ci j ha hk ht => ?_) kk
  unfold mx sT
  by_cases e : (k : Int) ≤ (a : Int)
  · rw [if_pos e, if_pos ⟨e, by omega⟩]
    have h1 := List.all_eq_true.mp h a (List.mem_range.mpr ha)
    rw [Bool.or_eq_true, Bool.or_eq_true, decide_eq_true_eq, decide_eq_true_eq] at h1
    rcases h1 with (h1 | h1) | h1
    · omega
    · rw [hk] at h1
      exact absurd rfl h1
    · have h2 := List.all_eq_true.mp h1 j (List.mem_range.mpr (ft_60 ht))
      rw [Bool.or_eq_true, decide_eq_true_eq, hk] at h2
      rcases h2 with h2 | h2
      · exact absurd ht h2
      · exact h2
  · rw [if_neg e, if_neg (by omega)]
