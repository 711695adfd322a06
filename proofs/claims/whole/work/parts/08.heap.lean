/-- a cell that is an object of a class, a row of a kind and a length -/
abbrev ob (nx : Nat) (k : Int) (ci : Nat) : Prop := 0 ≤ k ∧ k < nx ∧ kd k = (0, ci)
abbrev ar (nx : Nat) (k : Int) (t : Nat) (n : Int) : Prop := 0 ≤ k ∧ k < nx ∧ (kd k).1 = t ∧ (((kd k).2 : Nat) : Int) = n
/-- V with another number at one place -/
def up (V : VV) (k j x : Int) : VV := fun a b => if a = k ∧ b = j then x else V a b
theorem up_s (V : VV) (k j x : Int) : up V k j x k j = x := by simp [up]
theorem up_n (V : VV) {k j x a b : Int} (h : ¬ (a = k ∧ b = j)) : up V k j x a b = V a b := by simp [up, h]
/-- a field as an instruction names it: own class, place in the pool, class, place, the place as a number -/
def FL (own : String) (idx ci j : Nat) (ji : Int) : Prop := (j : Int) = ji ∧ ∃ (C : String) (T : u_T) (N : Nat), vwCl[ci]? = some (C, T, N) ∧ nfL.getD ci 0 = N ∧ j < N ∧ (∀ w ∈ u_ws C T N, w ∈ Gw) ∧ Cond.fieldLink own idx (T j).1 (T j).2.1 (T j).2.2.1 ∈ Gw
/-- such a field that may be stored: an int or a boolean, not final -/
def FP9 (own : String) (idx ci j : Nat) (ji : Int) (t : FieldType) : Prop := (j : Int) = ji ∧ ∃ (C : String) (T : u_T) (N : Nat) (ty : Nat → FieldType), vwCl[ci]? = some (C, T, N) ∧ nfL.getD ci 0 = N ∧ j < N ∧ (∀ w ∈ u_ws C T N, w ∈ Gw) ∧ Cond.fieldLink own idx (T j).1 (T j).2.1 (T j).2.2.1 ∈ Gw ∧
  (∀ k, k < N → parseFieldDescriptor (T k).2.2.1 = some (ty k)) ∧ (∀ a, a < N → ∀ b, b < N → a ≠ b → (T a).2.1 ≠ (T b).2.1) ∧ ty j = t ∧ (T j).2.2.2 = false
theorem Wd.at {Y : Lay} {G : GS} {V : VV} {H : Heap} {nx : Nat} (h : Wd Y G V H) (hG : gOK nx G) {k : Int} (h0 : 0 ≤ k) (h1 : k < nx) : va_at (yD Y) vwCl (adr Y k, cel Y G V k) H := by
  have := h.2.2 k.toNat (by have := hG.1; omega)
  rw [show ((k.toNat : Nat) : Int) = k by omega] at this
  exact this
theorem cel_ob {Y : Lay} {G : GS} {V : VV} {k : Int} {ci : Nat} (h : kd k = (0, ci)) : cel Y G V k = .inr (ci, (List.range (nfL.getD ci 0)).map (fv Y G V k ci)) := by
  unfold cel
  rw [h]
  rfl
theorem cel_i {Y : Lay} {G : GS} {V : VV} {k : Int} {n : Nat} (h : kd k = (1, n)) : cel Y G V k = .inl (yI Y, (n, .inl (fun j => Int32.ofInt (V k j)))) := by
  unfold cel
  rw [h]
  rfl
theorem cel_l {Y : Lay} {G : GS} {V : VV} {k : Int} {n : Nat} (h : kd k = (2, n)) : cel Y G V k = .inl (yL Y, (n, .inr (.inl (fun j => Int64.ofInt (V k j))))) := by
  unfold cel
  rw [h]
  rfl
theorem cel_z {Y : Lay} {G : GS} {V : VV} {k : Int} {n : Nat} (h : kd k = (3, n)) : cel Y G V k = .inl (yZ Y, (n, .inl (fun j => Int32.ofInt (V k j)))) := by
  unfold cel
  rw [h]
  rfl
theorem fs_at {Y : Lay} {G : GS} {V : VV} {k : Int} {ci N j : Nat} (h : nfL.getD ci 0 = N) (hj : j < N) : ((List.range (nfL.getD ci 0)).map (fv Y G V k ci))[j]? = some (fv Y G V k ci j) := by
  rw [h, List.getElem?_map, List.getElem?_range hj]
  rfl
/-- cells of other places don't see a store -/
theorem cel_ne {Y : Lay} {G : GS} {V : VV} {k j x a : Int} (h : a ≠ k) : cel Y G (up V k j x) a = cel Y G V a := by
  have e : ∀ b, up V k j x a b = V a b := fun b => up_n V (fun q => h q.1)
  unfold cel fv
  simp only [e]
theorem Wd.upd {Y : Lay} {G : GS} {V : VV} {H H1 : Heap} {k j x : Int} (h : Wd Y G V H) (h0 : 0 ≤ k) (hz : H1.size = H.size) (oq : ∀ q : Nat, q ≠ adr Y k → H1[q]? = H[q]?) (hc : va_at (yD Y) vwCl (adr Y k, cel Y G (up V k j x) k) H1) : Wd Y G (up V k j x) H1 := by
  refine ⟨by rw [hz]; exact h.1, fun q => by rw [hz]; exact h.2.1 q, fun a ha => ?_⟩
  by_cases hak : (a : Int) = k
  · subst hak
    have e : adr Y (a : Int) = yz Y + a := by unfold adr; omega
    rw [e] at hc
    exact hc
  · rw [cel_ne hak]
    refine (h.2.2 a ha).kept (oq _ ?_)
    show yz Y + a ≠ adr Y k
    unfold adr
    omega
theorem cty_ob {k : Int} {ci j : Nat} (h : kd k = (0, ci)) : cty k (j : Int) = ft ci j := by
  unfold cty
  rw [h]
  rfl
theorem ok_up {V : VV} {k j x : Int} (h : okV V) (hx : okc (cty k j) x) : okV (up V k j x) := fun a b => by
  unfold up
  split
  · rename_i q
    rw [q.1, q.2]
    exact hx
  · exact h a b
theorem okc_r {t : Nat} {x : Int} (h : okc t x) (ht : t = 0 ∨ t = 3) : r32 x := by
  rcases ht with rfl | rfl
  · exact h.1 rfl
  · rcases h.2.2 rfl with rfl | rfl <;> exact ⟨by decide, by decide⟩
theorem Good.kk {X : Cx} {own : String} {cc : ByteArray} {nL fr lo : Nat} (h : Good X own cc nL fr lo) : KK (cY X) (cs X) := h.2.2.2.2.2.1
theorem Good.ts {X : Cx} {own : String} {cc : ByteArray} {nL fr lo : Nat} (h : Good X own cc nL fr lo) : ∀ w ∈ Gw, w.before (ca X) (cs X) = true := h.2.2.2.2.1
theorem Good.own {X : Cx} {own : String} {cc : ByteArray} {nL fr lo : Nat} (h : Good X own cc nL fr lo) : (cs X).vm.findClass own = some (cm X).cls := h.2.2.2.1
theorem Good.k {X : Cx} {own : String} {cc : ByteArray} {nL fr lo : Nat} (h : Good X own cc nL fr lo) : va_K (yD (cY X)) vwCl [(yI (cY X), .int), (yL (cY X), .long), (yZ (cY X), .boolean)] (cs X) := h.kk.1
theorem one_P {D : va_G} {cl : List vw_C} {q : Nat × va_E} {H : Heap} (h : va_at D cl q H) : va_P D cl [q] H := fun k x hk => by
  have : k = 0 := by have := (List.getElem?_eq_some_iff.mp hk).1; simp at this; exact this
  subst this
  cases hk
  exact h
/-- an index in its row -/
theorem in_r {i n : Int} {N : Nat} (hr : r32 i) (h : 0 ≤ i ∧ i < n) (hn : (N : Int) = n) : vp_in (Int32.ofInt i) N := vp_in_iff.mpr (by rw [i32v hr]; omega)
theorem cl_r {i : Int} (hr : r32 i) (h : 0 ≤ i) : (Int32.ofInt i).toNatClampNeg = i.toNat := by
  show (Int32.ofInt i).toInt.toNat = _
  rw [i32v hr]
section HEAP
variable {X : Cx} {own : String} {cc : ByteArray} {nL fr lo nx : Nat} {G : GS} {pc : Nat} {ls st : List MV} {V : VV}
theorem j_getI {idx ci j : Nat} {ji k : Int} (hX : Good X own cc nL fr lo) (hG : gOK nx G) (hf : FL own idx ci j ji) (ht : ft ci j = 0 ∨ ft ci j = 3) (ho : ob nx k ci) (hd : decode cc pc = .ok (.getfield idx, 3)) (kk : J X G (pc + 3) ls (vI (V k ji) :: st) V) : J X G pc ls (vA k :: st) V := fun h1 h2 h3 H locs lsr hW hS hL => by
  obtain ⟨rfl, C, T, N, hc, hN, hj, hin, hlink⟩ := hf
  have hat := hW.1.at hG ho.1 ho.2.1
  rw [cel_ob ho.2.2] at hat
  refine va_get hX.1 hX.2.1 hX.ts hin hX.own hX.k (one_P hat) 0 rfl hc j hj (hX.ts _ hlink) (fun x h => h) (fs_at hN hj) hd ?_
  have e : fv (cY X) G V k ci j = .int (Int32.ofInt (V k j)) := by
    unfold fv
    rw [if_neg (by rcases ht with q | q <;> rw [q] <;> decide)]
  rw [e]
  have hr : r32 (V k j) := okc_r (h3 k j) (by rw [cty_ob ho.2.2]; exact ht)
  exact kk h1 (okl_cons (okI hr) (okl_tl h2)) h3 H locs lsr hW hS hL
theorem j_getR {idx ci j : Nat} {ji k q : Int} (hX : Good X own cc nL fr lo) (hG : gOK nx G) (hf : FL own idx ci j ji) (ht : ft ci j = 2) (hq : rf k j = q) (ho : ob nx k ci) (hd : decode cc pc = .ok (.getfield idx, 3)) (kk : J X G (pc + 3) ls (vA q :: st) V) : J X G pc ls (vA k :: st) V := fun h1 h2 h3 H locs lsr hW hS hL => by
  obtain ⟨rfl, C, T, N, hc, hN, hj, hin, hlink⟩ := hf
  subst hq
  have hat := hW.1.at hG ho.1 ho.2.1
  rw [cel_ob ho.2.2] at hat
  refine va_get hX.1 hX.2.1 hX.ts hin hX.own hX.k (one_P hat) 0 rfl hc j hj (hX.ts _ hlink) (fun x h => h) (fs_at hN hj) hd ?_
  have e : fv (cY X) G V k ci j = .ref (adr (cY X) (rf k j)) := by
    unfold fv
    rw [if_pos ht, if_pos (hG.2 k j ho.1 ho.2.1)]
  rw [e]
  exact kk h1 (okl_cons (okO (by decide) (by decide)) (okl_tl h2)) h3 H locs lsr hW hS hL
theorem j_iald {k i n : Int} (hX : Good X own cc nL fr lo) (hG : gOK nx G) (ha : ar nx k 1 n) (hi : 0 ≤ i ∧ i < n) (hd : decode cc pc = .ok (.iaload, 1)) (kk : J X G (pc + 1) ls (vI (V k i) :: st) V) : J X G pc ls (vI i :: vA k :: st) V := fun h1 h2 h3 H locs lsr hW hS hL => by
  have hk : kd k = (1, (kd k).2) := by rw [← ha.2.2.1]
  have hat := hW.1.at hG ha.1 ha.2.1
  rw [cel_i hk] at hat
  have hri := okIr (okl_hd h2)
  refine va_iald hX.1 hX.2.1 hX.k (one_P hat) 0 0 rfl rfl (in_r hri hi ha.2.2.2) hd ?_
  rw [cl_r hri hi.1, show ((i.toNat : Nat) : Int) = i by omega]
  have hr : r32 (V k i) := okc_r (h3 k i) (Or.inl (by unfold cty; rw [hk]; rfl))
  exact kk h1 (okl_cons (okI hr) (okl_tl (okl_tl h2))) h3 H locs lsr hW hS hL
theorem j_lald {k i n : Int} (hX : Good X own cc nL fr lo) (hG : gOK nx G) (ha : ar nx k 2 n) (hi : 0 ≤ i ∧ i < n) (hd : decode cc pc = .ok (.laload, 1)) (kk : J X G (pc + 1) ls (vL (V k i) :: st) V) : J X G pc ls (vI i :: vA k :: st) V := fun h1 h2 h3 H locs lsr hW hS hL => by
  have hk : kd k = (2, (kd k).2) := by rw [← ha.2.2.1]
  have hat := hW.1.at hG ha.1 ha.2.1
  rw [cel_l hk] at hat
  have hri := okIr (okl_hd h2)
  refine va_lald hX.1 hX.2.1 hX.k (one_P hat) 0 1 rfl rfl (in_r hri hi ha.2.2.2) hd ?_
  rw [cl_r hri hi.1, show ((i.toNat : Nat) : Int) = i by omega]
  have hr : r64 (V k i) := (h3 k i).2.1 (by unfold cty; rw [hk]; rfl)
  exact kk h1 (okl_cons (okL hr) (okl_tl (okl_tl h2))) h3 H locs lsr hW hS hL
theorem j_zald {k i n : Int} (hX : Good X own cc nL fr lo) (hG : gOK nx G) (ha : ar nx k 3 n) (hi : 0 ≤ i ∧ i < n) (hd : decode cc pc = .ok (.baload, 1)) (kk : J X G (pc + 1) ls (vI (V k i) :: st) V) : J X G pc ls (vI i :: vA k :: st) V := fun h1 h2 h3 H locs lsr hW hS hL => by
  have hk : kd k = (3, (kd k).2) := by rw [← ha.2.2.1]
  have hat := hW.1.at hG ha.1 ha.2.1
  rw [cel_z hk] at hat
  have hri := okIr (okl_hd h2)
  refine va_zald hX.1 hX.2.1 hX.k (one_P hat) 0 2 rfl rfl (in_r hri hi ha.2.2.2) hd ?_
  rw [cl_r hri hi.1, show ((i.toNat : Nat) : Int) = i by omega]
  have hr : r32 (V k i) := okc_r (h3 k i) (Or.inr (by unfold cty; rw [hk]; rfl))
  exact kk h1 (okl_cons (okI hr) (okl_tl (okl_tl h2))) h3 H locs lsr hW hS hL
theorem j_alen {k n : Int} {t : Nat} (hX : Good X own cc nL fr lo) (hG : gOK nx G) (ha : ar nx k t n) (ht : t = 1 ∨ t = 2 ∨ t = 3) (hn : n < 100000) (hd : decode cc pc = .ok (.arraylength, 1)) (kk : J X G (pc + 1) ls (vI n :: st) V) : J X G pc ls (vA k :: st) V := fun h1 h2 h3 H locs lsr hW hS hL => by
  have hk : kd k = (t, (kd k).2) := by rw [← ha.2.2.1]
  have hat := hW.1.at hG ha.1 ha.2.1
  have hn2 := ha.2.2.2
  have go : WX X H locs G.2.2.1 G.2.2.2 (F0 (cm X) (pc + 1) lsr (.int (Int32.ofInt n) :: st.map (mvv (cY X)))) := kk h1 (okl_cons (okI ⟨by omega, by omega⟩) (okl_tl h2)) h3 H locs lsr hW hS hL
  have hv : Int32.ofNat (kd k).2 = Int32.ofInt n := by rw [← hn2]; rfl
  rcases ht with rfl | rfl | rfl
  · rw [cel_i hk] at hat
    exact va_alen hX.1 hX.2.1 hX.k (one_P hat) 0 0 rfl rfl hv hd go
  · rw [cel_l hk] at hat
    exact va_alen hX.1 hX.2.1 hX.k (one_P hat) 0 1 rfl rfl hv hd go
  · rw [cel_z hk] at hat
    exact va_alen hX.1 hX.2.1 hX.k (one_P hat) 0 2 rfl rfl hv hd go
theorem adr_z (Y : Lay) (k : Int) : aZ0 Y (adr Y k) := Nat.le_add_right _ _
theorem j_iast {k i n x : Int} (hX : Good X own cc nL fr lo) (hG : gOK nx G) (ha : ar nx k 1 n) (hi : 0 ≤ i ∧ i < n) (hd : decode cc pc = .ok (.iastore, 1)) (kk : J X G (pc + 1) ls st (up V k i x)) : J X G pc ls (vI x :: vI i :: vA k :: st) V := fun h1 h2 h3 H locs lsr hW hS hL => by
  have hk : kd k = (1, (kd k).2) := by rw [← ha.2.2.1]
  have hat := hW.1.at hG ha.1 ha.2.1
  rw [cel_i hk] at hat
  have hrx := okIr (okl_hd h2)
  have hri := okIr (okl_hd (okl_tl h2))
  refine W.iast hX.1 hX.2.1 hat ((hX.k.2 0 _ rfl).1 _ (fun j => .int (Int32.ofInt (V k j)))) (fun q => by cases q) (by show ¬ (_ ∨ (arrV _ _ _).slots.size ≤ _); rw [arrV_size]; exact in_r hri hi ha.2.2.2) rfl rfl hd fun H1 e z oq => ?_
  refine kk h1 (okl_tl (okl_tl (okl_tl h2))) (ok_up h3 ?_) H1 _ lsr ⟨hW.1.upd ha.1 z oq ?_, hW.2⟩ (hS.put z oq (adr_z _ _)) hL
  · have : cty k i = 0 := by unfold cty; rw [hk]; rfl
    rw [this]
    exact ⟨fun _ => hrx, fun q => absurd q (by decide), fun q => absurd q (by decide)⟩
  · rw [cel_i hk]
    show H1[adr (cY X) k]? = some (vp_cell _ _)
    rw [e, vp_cell_i, vp_cell_i, arrV_store, cl_r hri hi.1]
    congr 2
    funext q
    unfold updV up
    by_cases hq : q = i.toNat
    · subst hq
      rw [if_pos rfl, if_pos ⟨rfl, by omega⟩]
    · rw [if_neg hq, if_neg (by omega)]
theorem j_last {k i n x : Int} (hX : Good X own cc nL fr lo) (hG : gOK nx G) (ha : ar nx k 2 n) (hi : 0 ≤ i ∧ i < n) (hd : decode cc pc = .ok (.lastore, 1)) (kk : J X G (pc + 1) ls st (up V k i x)) : J X G pc ls (vL x :: vI i :: vA k :: st) V := fun h1 h2 h3 H locs lsr hW hS hL => by
  have hk : kd k = (2, (kd k).2) := by rw [← ha.2.2.1]
  have hat := hW.1.at hG ha.1 ha.2.1
  rw [cel_l hk] at hat
  have hrx := okLr (okl_hd h2)
  have hri := okIr (okl_hd (okl_tl h2))
  refine W.last hX.1 hX.2.1 hat ((hX.k.2 1 _ rfl).1 _ (fun j => .long (Int64.ofInt (V k j)))) (fun q => by cases q) (by show ¬ (_ ∨ (arrV _ _ _).slots.size ≤ _); rw [arrV_size]; exact in_r hri hi ha.2.2.2) rfl rfl hd fun H1 e z oq => ?_
  refine kk h1 (okl_tl (okl_tl (okl_tl h2))) (ok_up h3 ?_) H1 _ lsr ⟨hW.1.upd ha.1 z oq ?_, hW.2⟩ (hS.put z oq (adr_z _ _)) hL
  · have : cty k i = 1 := by unfold cty; rw [hk]; rfl
    rw [this]
    exact ⟨fun q => absurd q (by decide), fun _ => hrx, fun q => absurd q (by decide)⟩
  · rw [cel_l hk]
    show H1[adr (cY X) k]? = some (vp_cell _ _)
    rw [e, vp_cell_l, vp_cell_l, arrV_store, cl_r hri hi.1]
    congr 2
    funext q
    unfold updV up
    by_cases hq : q = i.toNat
    · subst hq
      rw [if_pos rfl, if_pos ⟨rfl, by omega⟩]
    · rw [if_neg hq, if_neg (by omega)]
theorem j_zast {k i n x : Int} (hX : Good X own cc nL fr lo) (hG : gOK nx G) (ha : ar nx k 3 n) (hi : 0 ≤ i ∧ i < n) (hx : x = 0 ∨ x = 1) (hd : decode cc pc = .ok (.bastore, 1)) (kk : J X G (pc + 1) ls st (up V k i x)) : J X G pc ls (vI x :: vI i :: vA k :: st) V := fun h1 h2 h3 H locs lsr hW hS hL => by
  have hk : kd k = (3, (kd k).2) := by rw [← ha.2.2.1]
  have hat := hW.1.at hG ha.1 ha.2.1
  rw [cel_z hk] at hat
  have hri := okIr (okl_hd (okl_tl h2))
  refine W.zast hX.1 hX.2.1 hat ((hX.k.2 2 _ rfl).1 _ (fun j => .int (Int32.ofInt (V k j)))) (fun q => by cases q) (by show ¬ (_ ∨ (arrV _ _ _).slots.size ≤ _); rw [arrV_size]; exact in_r hri hi ha.2.2.2) rfl rfl hd fun H1 e z oq => ?_
  refine kk h1 (okl_tl (okl_tl (okl_tl h2))) (ok_up h3 ?_) H1 _ lsr ⟨hW.1.upd ha.1 z oq ?_, hW.2⟩ (hS.put z oq (adr_z _ _)) hL
  · have : cty k i = 3 := by unfold cty; rw [hk]; rfl
    rw [this]
    exact ⟨fun q => absurd q (by decide), fun q => absurd q (by decide), fun _ => hx⟩
  · rw [cel_z hk]
    show H1[adr (cY X) k]? = some (vp_cell _ _)
    rw [e, nar_bool hx, vp_cell_i, vp_cell_i, arrV_store, cl_r hri hi.1]
    congr 2
    funext q
    unfold updV up
    by_cases hq : q = i.toNat
    · subst hq
      rw [if_pos rfl, if_pos ⟨rfl, by omega⟩]
    · rw [if_neg hq, if_neg (by omega)]
end HEAP
