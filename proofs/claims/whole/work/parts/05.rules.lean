theorem okl_cons {v : MV} {l : List MV} (h : okv v) (hl : okl l) : okl (v :: l) := fun x hx => (List.mem_cons.mp hx).elim (fun e => e ▸ h) (hl x)
theorem okl_hd {v : MV} {l : List MV} (h : okl (v :: l)) : okv v := h v List.mem_cons_self
theorem okl_tl {v : MV} {l : List MV} (h : okl (v :: l)) : okl l := fun x hx => h x (List.mem_cons_of_mem _ hx)
theorem okI {x : Int} (h : r32 x) : okv (vI x) := ⟨fun _ => h, fun q => absurd q (show ¬ (0 : Nat) = 1 by decide)⟩
theorem okL {x : Int} (h : r64 x) : okv (vL x) := ⟨fun q => absurd q (show ¬ (1 : Nat) = 0 by decide), fun _ => h⟩
theorem okO {t : Nat} {x : Int} (h0 : t ≠ 0) (h1 : t ≠ 1) : okv (t, x) := ⟨fun q => absurd q h0, fun q => absurd q h1⟩
theorem okIr {x : Int} (h : okv (vI x)) : r32 x := h.1 rfl
theorem okLr {x : Int} (h : okv (vL x)) : r64 x := h.2 rfl
/-- a value of one slot, or nothing known -/
def c1 (v : MV) : Bool := v.1 != 1 && v.1 != 4
def isR (v : MV) : Bool := v.1 == 2 || v.1 == 3 || v.1 == 5 || v.1 == 6 || v.1 == 7 || (v.1 == 8 && v.2 != 0)
theorem isR_ref {v : MV} (Y : Lay) (h : isR v = true) : ∃ a : Nat, mvv Y v = .ref a := by
  obtain ⟨t, x⟩ := v
  simp only [isR, Bool.or_eq_true, beq_iff_eq, Bool.and_eq_true, bne_iff_ne] at h
  rcases h with ((((rfl | rfl) | rfl) | rfl) | rfl) | ⟨rfl, h⟩
  · exact ⟨_, rfl⟩
  · exact ⟨_, rfl⟩
  · exact ⟨_, rfl⟩
  · exact ⟨_, rfl⟩
  · exact ⟨_, rfl⟩
  · exact ⟨(x - 1).toNat, by show (if x = 0 then Value.null else _) = _; rw [if_neg h]⟩
theorem isR_ok {v : MV} (h : isR v = true) : okv v := by
  obtain ⟨t, x⟩ := v
  refine ⟨fun q => ?_, fun q => ?_⟩ <;> (have q' : t = _ := q; subst q'; simp [isR] at h)
theorem c1_cat {v : MV} (Y : Lay) (h : c1 v = true) : (mvv Y v).category = 1 := by
  obtain ⟨t, x⟩ := v
  simp only [c1, Bool.and_eq_true, bne_iff_ne] at h
  match t, h with
  | 0, _ => rfl
  | 2, _ => rfl
  | 3, _ => rfl
  | 5, _ => rfl
  | 6, _ => rfl
  | 7, _ => rfl
  | 8, _ => (show (if x = 0 then Value.null else Value.ref (x - 1).toNat).category = 1); split <;> rfl
  | 1, h => exact absurd rfl h.1
  | 4, h => exact absurd rfl h.2
  | n + 9, _ => rfl
def lvl (Y : Lay) (ls : List MV) : List (Nat × Value) := (List.range ls.length).filterMap (fun i => (ls[i]?).bind (fun v => if v.1 = 9 then none else some (i, mvv Y v)))
theorem mem_lvl {Y : Lay} {ls : List MV} {j : Nat} {v : MV} (h : ls[j]? = some v) (h9 : v.1 ≠ 9) : (j, mvv Y v) ∈ lvl Y ls := by
  refine List.mem_filterMap.mpr ⟨j, List.mem_range.mpr (List.getElem?_eq_some_iff.mp h).1, ?_⟩
  rw [h]
  show (if v.1 = 9 then none else some (j, mvv Y v)) = _
  rw [if_neg h9]
theorem lvh_has {Y : Lay} {lsr : Array Slot} {ls : List MV} (h : lvh Y lsr ls) : lv_has lsr ls.length (lvl Y ls) := by
  refine ⟨h.1, h.2.1, fun q hq => ?_⟩
  obtain ⟨i, -, hi⟩ := List.mem_filterMap.mp hq
  cases hv : ls[i]? with
  | none => rw [hv] at hi; cases hi
  | some v =>
    rw [hv] at hi
    have hi : (if v.1 = 9 then none else some (i, mvv Y v)) = some q := hi
    by_cases h9 : v.1 = 9
    · rw [if_pos h9] at hi; cases hi
    · rw [if_neg h9] at hi
      cases hi
      exact h.2.2 i v hv h9
theorem lvh_st1 {Y : Lay} {lsr : Array Slot} {ls : List MV} {i : Nat} {x : MV} (h : lv_has lsr ls.length ((i, mvv Y x) :: (lvl Y ls).filter (fun q => !(q.1 == i) && !(q.1 + 1 == i && q.2.category == 2))))
    (hp : ∀ j v, j + 1 = i → ls[j]? = some v → c1 v = true) : lvh Y lsr (ls.set i x) := by
  refine ⟨by rw [List.length_set]; exact h.1, h.2.1, fun j v hj h9 => ?_⟩
  by_cases hij : i = j
  · subst hij
    have hl : i < ls.length := by
      have := (List.getElem?_eq_some_iff.mp hj).1
      rwa [List.length_set] at this
    rw [List.getElem?_set_self hl] at hj
    cases hj
    exact h.2.2 _ List.mem_cons_self
  · rw [List.getElem?_set_ne hij] at hj
    refine h.2.2 (j, mvv Y v) (List.mem_cons_of_mem _ (List.mem_filter.mpr ⟨mem_lvl hj h9, ?_⟩))
    by_cases hji : j + 1 = i
    · have := c1_cat Y (hp j v hji hj)
      simp [this]
      exact fun q => hij q.symm
    · simp [hji]
      exact fun q => hij q.symm
theorem lvh_st2 {Y : Lay} {lsr : Array Slot} {ls : List MV} {i : Nat} {x : MV} (h : lv_has lsr ls.length ((i, mvv Y x) :: (lvl Y ls).filter (fun q => !(q.1 == i) && (!(q.1 == i + 1) && !(q.1 + 1 == i && q.2.category == 2)))))
    (hp : ∀ j v, j + 1 = i → ls[j]? = some v → c1 v = true) : lvh Y lsr ((ls.set i x).set (i + 1) vU) := by
  refine ⟨by rw [List.length_set, List.length_set]; exact h.1, h.2.1, fun j v hj h9 => ?_⟩
  by_cases h1 : i + 1 = j
  · subst h1
    have hl : i + 1 < (ls.set i x).length := by
      have := (List.getElem?_eq_some_iff.mp hj).1
      rwa [List.length_set] at this
    rw [List.getElem?_set_self hl] at hj
    cases hj
    exact absurd rfl h9
  · rw [List.getElem?_set_ne h1] at hj
    by_cases hij : i = j
    · subst hij
      have hl : i < ls.length := by
        have := (List.getElem?_eq_some_iff.mp hj).1
        rwa [List.length_set] at this
      rw [List.getElem?_set_self hl] at hj
      cases hj
      exact h.2.2 _ List.mem_cons_self
    · rw [List.getElem?_set_ne hij] at hj
      refine h.2.2 (j, mvv Y v) (List.mem_cons_of_mem _ (List.mem_filter.mpr ⟨mem_lvl hj h9, ?_⟩))
      have a1 : ¬ j = i := fun q => hij q.symm
      have a2 : ¬ j = i + 1 := fun q => h1 q.symm
      by_cases hji : j + 1 = i
      · have := c1_cat Y (hp j v hji hj)
        simp [this, a1, a2]
      · simp [hji, a1, a2]
theorem okl_set {ls : List MV} {i : Nat} {x : MV} (h : okl ls) (hx : okv x) : okl (ls.set i x) := fun v hv => (List.mem_or_eq_of_mem_set hv).elim (h v) (fun e => e ▸ hx)
theorem okU : okv vU := okO (by decide) (by decide)
section RULES
variable {X : Cx} {own : String} {cc : ByteArray} {nL fr lo : Nat} {G : GS} {pc : Nat} {ls st : List MV} {V : VV}
theorem j_iconst {n : Int} (hX : Good X own cc nL fr lo) (hd : decode cc pc = .ok (.iconst n, 1)) (ho : r32 n) (kk : J X G (pc + 1) ls (vI n :: st) V) : J X G pc ls st V := fun h1 h2 h3 H locs lsr hW hS hL =>
  lv_iconst hX.1 hX.2.1 hd rfl (kk h1 (okl_cons (okI ho) h2) h3 H locs lsr hW hS hL)
theorem j_bipush {n : Int} (hX : Good X own cc nL fr lo) (hd : decode cc pc = .ok (.bipush n, 2)) (hv : (Int8.ofInt n).toInt32 = Int32.ofInt n) (ho : r32 n) (kk : J X G (pc + 2) ls (vI n :: st) V) : J X G pc ls st V := fun h1 h2 h3 H locs lsr hW hS hL =>
  lv_bipush hX.1 hX.2.1 hd hv (kk h1 (okl_cons (okI ho) h2) h3 H locs lsr hW hS hL)
theorem j_sipush {n : Int} (hX : Good X own cc nL fr lo) (hd : decode cc pc = .ok (.sipush n, 3)) (hv : (Int16.ofInt n).toInt32 = Int32.ofInt n) (ho : r32 n) (kk : J X G (pc + 3) ls (vI n :: st) V) : J X G pc ls st V := fun h1 h2 h3 H locs lsr hW hS hL =>
  lv_sipush hX.1 hX.2.1 hd hv (kk h1 (okl_cons (okI ho) h2) h3 H locs lsr hW hS hL)
theorem j_lconst {n : Fin 2} {x : Int} (hX : Good X own cc nL fr lo) (hd : decode cc pc = .ok (.lconst n, 1)) (hv : Int64.ofNat (n : Nat) = Int64.ofInt x) (ho : r64 x) (kk : J X G (pc + 1) ls (vL x :: st) V) : J X G pc ls st V := fun h1 h2 h3 H locs lsr hW hS hL =>
  lv_lconst hX.1 hX.2.1 hd hv (kk h1 (okl_cons (okL ho) h2) h3 H locs lsr hW hS hL)
theorem j_iload_n {k : Fin 4} {i : Nat} {x : Int} (hX : Good X own cc nL fr lo) (hd : decode cc pc = .ok (.iload_n k, 1)) (hi : (k : Nat) = i) (hg : ls[i]? = some (vI x)) (kk : J X G (pc + 1) ls (vI x :: st) V) : J X G pc ls st V := fun h1 h2 h3 H locs lsr hW hS hL =>
  lv_iload_n hX.1 hX.2.1 hd hi (hL.2.2 i _ hg (show (0 : Nat) ≠ 9 by decide)) (kk h1 (okl_cons (h1 _ (List.mem_of_getElem? hg)) h2) h3 H locs lsr hW hS hL)
theorem j_iload {i : Nat} {x : Int} (hX : Good X own cc nL fr lo) (hd : decode cc pc = .ok (.iload i, 2)) (hg : ls[i]? = some (vI x)) (kk : J X G (pc + 2) ls (vI x :: st) V) : J X G pc ls st V := fun h1 h2 h3 H locs lsr hW hS hL =>
  lv_iload hX.1 hX.2.1 hd (hL.2.2 i _ hg (show (0 : Nat) ≠ 9 by decide)) (kk h1 (okl_cons (h1 _ (List.mem_of_getElem? hg)) h2) h3 H locs lsr hW hS hL)
theorem j_lload_n {k : Fin 4} {i : Nat} {x : Int} (hX : Good X own cc nL fr lo) (hd : decode cc pc = .ok (.lload_n k, 1)) (hi : (k : Nat) = i) (hg : ls[i]? = some (vL x)) (kk : J X G (pc + 1) ls (vL x :: st) V) : J X G pc ls st V := fun h1 h2 h3 H locs lsr hW hS hL =>
  lv_lload_n hX.1 hX.2.1 hd hi (hL.2.2 i _ hg (show (1 : Nat) ≠ 9 by decide)) (kk h1 (okl_cons (h1 _ (List.mem_of_getElem? hg)) h2) h3 H locs lsr hW hS hL)
theorem j_lload {i : Nat} {x : Int} (hX : Good X own cc nL fr lo) (hd : decode cc pc = .ok (.lload i, 2)) (hg : ls[i]? = some (vL x)) (kk : J X G (pc + 2) ls (vL x :: st) V) : J X G pc ls st V := fun h1 h2 h3 H locs lsr hW hS hL =>
  lv_lload hX.1 hX.2.1 hd (hL.2.2 i _ hg (show (1 : Nat) ≠ 9 by decide)) (kk h1 (okl_cons (h1 _ (List.mem_of_getElem? hg)) h2) h3 H locs lsr hW hS hL)
theorem j_aload_n {k : Fin 4} {i : Nat} {v : MV} (hX : Good X own cc nL fr lo) (hd : decode cc pc = .ok (.aload_n k, 1)) (hi : (k : Nat) = i) (hg : ls[i]? = some v) (hr : isR v = true) (kk : J X G (pc + 1) ls (v :: st) V) : J X G pc ls st V := fun h1 h2 h3 H locs lsr hW hS hL => by
  obtain ⟨a, ha⟩ := isR_ref (cY X) hr
  have h9 : v.1 ≠ 9 := fun q => by obtain ⟨t, x⟩ := v; have q' : t = 9 := q; subst q'; simp [isR] at hr
  have hl := hL.2.2 i _ hg h9
  rw [ha] at hl
  refine lv_aload_n hX.1 hX.2.1 hd hi hl ?_
  have := kk h1 (okl_cons (h1 _ (List.mem_of_getElem? hg)) h2) h3 H locs lsr hW hS hL
  rw [List.map_cons, ha] at this
  exact this
theorem j_aload {i : Nat} {v : MV} (hX : Good X own cc nL fr lo) (hd : decode cc pc = .ok (.aload i, 2)) (hg : ls[i]? = some v) (hr : isR v = true) (kk : J X G (pc + 2) ls (v :: st) V) : J X G pc ls st V := fun h1 h2 h3 H locs lsr hW hS hL => by
  obtain ⟨a, ha⟩ := isR_ref (cY X) hr
  have h9 : v.1 ≠ 9 := fun q => by obtain ⟨t, x⟩ := v; have q' : t = 9 := q; subst q'; simp [isR] at hr
  have hl := hL.2.2 i _ hg h9
  rw [ha] at hl
  refine lv_aload hX.1 hX.2.1 hd hl ?_
  have := kk h1 (okl_cons (h1 _ (List.mem_of_getElem? hg)) h2) h3 H locs lsr hW hS hL
  rw [List.map_cons, ha] at this
  exact this
theorem j_istore_n {k : Fin 4} {i : Nat} {x : Int} (hX : Good X own cc nL fr lo) (hd : decode cc pc = .ok (.istore_n k, 1)) (hi : (k : Nat) = i) (hn : i < ls.length) (hp : ∀ j v, j + 1 = i → ls[j]? = some v → c1 v = true) (kk : J X G (pc + 1) (ls.set i (vI x)) st V) : J X G pc ls (vI x :: st) V := fun h1 h2 h3 H locs lsr hW hS hL =>
  lv_istore_n hX.1 hX.2.1 hd hi (lvh_has hL) hn rfl (fun ls' hl => kk (okl_set h1 (okl_hd h2)) (okl_tl h2) h3 H locs ls' hW hS (lvh_st1 (x := vI x) hl hp))
theorem j_istore {i : Nat} {x : Int} (hX : Good X own cc nL fr lo) (hd : decode cc pc = .ok (.istore i, 2)) (hn : i < ls.length) (hp : ∀ j v, j + 1 = i → ls[j]? = some v → c1 v = true) (kk : J X G (pc + 2) (ls.set i (vI x)) st V) : J X G pc ls (vI x :: st) V := fun h1 h2 h3 H locs lsr hW hS hL =>
  lv_istore hX.1 hX.2.1 hd (lvh_has hL) hn rfl (fun ls' hl => kk (okl_set h1 (okl_hd h2)) (okl_tl h2) h3 H locs ls' hW hS (lvh_st1 (x := vI x) hl hp))
theorem j_lstore_n {k : Fin 4} {i : Nat} {x : Int} (hX : Good X own cc nL fr lo) (hd : decode cc pc = .ok (.lstore_n k, 1)) (hi : (k : Nat) = i) (hn : i + 1 < ls.length) (hp : ∀ j v, j + 1 = i → ls[j]? = some v → c1 v = true) (kk : J X G (pc + 1) ((ls.set i (vL x)).set (i + 1) vU) st V) : J X G pc ls (vL x :: st) V := fun h1 h2 h3 H locs lsr hW hS hL =>
  lv_lstore_n hX.1 hX.2.1 hd hi (lvh_has hL) hn rfl (fun ls' hl => kk (okl_set (okl_set h1 (okl_hd h2)) okU) (okl_tl h2) h3 H locs ls' hW hS (lvh_st2 (x := vL x) hl hp))
theorem j_lstore {i : Nat} {x : Int} (hX : Good X own cc nL fr lo) (hd : decode cc pc = .ok (.lstore i, 2)) (hn : i + 1 < ls.length) (hp : ∀ j v, j + 1 = i → ls[j]? = some v → c1 v = true) (kk : J X G (pc + 2) ((ls.set i (vL x)).set (i + 1) vU) st V) : J X G pc ls (vL x :: st) V := fun h1 h2 h3 H locs lsr hW hS hL =>
  lv_lstore hX.1 hX.2.1 hd (lvh_has hL) hn rfl (fun ls' hl => kk (okl_set (okl_set h1 (okl_hd h2)) okU) (okl_tl h2) h3 H locs ls' hW hS (lvh_st2 (x := vL x) hl hp))
theorem j_astore_n {k : Fin 4} {i : Nat} {v : MV} (hX : Good X own cc nL fr lo) (hd : decode cc pc = .ok (.astore_n k, 1)) (hi : (k : Nat) = i) (hr : isR v = true) (hn : i < ls.length) (hp : ∀ j v, j + 1 = i → ls[j]? = some v → c1 v = true) (kk : J X G (pc + 1) (ls.set i v) st V) : J X G pc ls (v :: st) V := fun h1 h2 h3 H locs lsr hW hS hL => by
  obtain ⟨a, ha⟩ := isR_ref (cY X) hr
  show WX X H locs _ _ (F0 (cm X) pc lsr (mvv (cY X) v :: st.map (mvv (cY X))))
  rw [ha]
  exact lv_astore_n hX.1 hX.2.1 hd hi (lvh_has hL) hn rfl (fun ls' hl => kk (okl_set h1 (okl_hd h2)) (okl_tl h2) h3 H locs ls' hW hS (lvh_st1 (x := v) (by rw [ha]; exact hl) hp))
theorem j_astore {i : Nat} {v : MV} (hX : Good X own cc nL fr lo) (hd : decode cc pc = .ok (.astore i, 2)) (hr : isR v = true) (hn : i < ls.length) (hp : ∀ j v, j + 1 = i → ls[j]? = some v → c1 v = true) (kk : J X G (pc + 2) (ls.set i v) st V) : J X G pc ls (v :: st) V := fun h1 h2 h3 H locs lsr hW hS hL => by
  obtain ⟨a, ha⟩ := isR_ref (cY X) hr
  show WX X H locs _ _ (F0 (cm X) pc lsr (mvv (cY X) v :: st.map (mvv (cY X))))
  rw [ha]
  exact lv_astore hX.1 hX.2.1 hd (lvh_has hL) hn rfl (fun ls' hl => kk (okl_set h1 (okl_hd h2)) (okl_tl h2) h3 H locs ls' hW hS (lvh_st1 (x := v) (by rw [ha]; exact hl) hp))
theorem j_iinc {i : Nat} {n x : Int} (hX : Good X own cc nL fr lo) (hd : decode cc pc = .ok (.iinc i n, 3)) (hg : ls[i]? = some (vI x)) (hn : i < ls.length) (hp : ∀ j v, j + 1 = i → ls[j]? = some v → c1 v = true) (ho : r32 (x + n)) (kk : J X G (pc + 3) (ls.set i (vI (x + n))) st V) : J X G pc ls st V := fun h1 h2 h3 H locs lsr hW hS hL => by
  obtain ⟨k, hk⟩ := List.getElem?_of_mem (mem_lvl (Y := cY X) hg (show (0 : Nat) ≠ 9 by decide))
  refine lv_iinc (v := Int32.ofInt (x + n)) hX.1 hX.2.1 hd (lvh_has hL) hk ?_ hn rfl (fun ls' hl => kk (okl_set h1 (okI ho)) h2 h3 H locs ls' hW hS (lvh_st1 (x := vI (x + n)) hl hp))
  rw [Int32.ofInt_add]
end RULES
