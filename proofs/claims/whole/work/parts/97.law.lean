/-! the law's own frame: calls of its wrappers, doubles -/
def dz (k : Int) : Int := (Op.cmpValue (FP.dcmp (dcode k) (dcode k)) .l).toInt
def lkC (own : String) (idx : Nat) (y : MethodName) (cb : ByteArray) (mL : Nat) (ty : Option FieldType) (hh : List (Nat × Nat × Nat × Nat)) (n : Nat) : Prop :=
  Cond.methodLink own idx y ∈ Gw ∧ Cond.initialized y.cls ∈ Gw ∧ Cond.codeWith y cb mL ty hh ∈ Gw ∧ Cond.static y ∈ Gw ∧ y.cls ≠ "java/lang/invoke/MethodHandle" ∧ y.cls ≠ "java/lang/invoke/VarHandle" ∧ (parseMethodDescriptor y.desc).map (fun d => d.parameters.length) = some n
section LAWR
variable {X : Cx} {own : String} {cc : ByteArray} {nL fr lo : Nat} {G : GS} {pc : Nat} {ls st : List MV} {V : VV}
theorem j_wid {n c s c' s' : Nat} {R : Int → Nat → Bool} (h1 : c ≤ c') (h2 : s ≤ s') (h3 : c' ≤ (cR X).cells ∧ s' ≤ (cR X).slots) (kk : J X (n, R, c', s') pc ls st V) : J X (n, R, c, s) pc ls st V := fun a1 a2 a3 H locs lsr hW hS hL =>
  W.widen h1 h2 (kk a1 a2 a3 H locs lsr ⟨hW.1.refs (fun _ _ _ _ _ _ => rfl), h3⟩ hS hL)
theorem j_dload {i : Nat} {x : Int} (hX : Good X own cc nL fr lo) (hd : decode cc pc = .ok (.dload i, 2)) (hg : ls[i]? = some (vD x)) (kk : J X G (pc + 2) ls (vD x :: st) V) : J X G pc ls st V := fun h1 h2 h3 H locs lsr hW hS hL =>
  lv_dload hX.1 hX.2.1 hd (hL.2.2 i _ hg (show (4 : Nat) ≠ 9 by decide)) (kk h1 (okl_cons (h1 _ (List.mem_of_getElem? hg)) h2) h3 H locs lsr hW hS hL)
theorem j_dstore {i : Nat} {x : Int} (hX : Good X own cc nL fr lo) (hd : decode cc pc = .ok (.dstore i, 2)) (hn : i + 1 < ls.length) (hp : ∀ j v, j + 1 = i → ls[j]? = some v → c1 v = true) (kk : J X G (pc + 2) ((ls.set i (vD x)).set (i + 1) vU) st V) : J X G pc ls (vD x :: st) V := fun h1 h2 h3 H locs lsr hW hS hL =>
  lv_dstore hX.1 hX.2.1 hd (lvh_has hL) hn rfl (fun ls' hl => kk (okl_set (okl_set h1 (okl_hd h2)) okU) (okl_tl h2) h3 H locs ls' hW hS (lvh_st2 (x := vD x) hl hp))
theorem j_dcmpS {k : Int} (hX : Good X own cc nL fr lo) (hd : decode cc pc = .ok (.dcmp .l, 1)) (kk : J X G (pc + 1) ls (vI (dz k) :: st) V) : J X G pc ls (vD k :: vD k :: st) V := fun h1 h2 h3 H locs lsr hW hS hL => by
  have hz : r32 (dz k) := ⟨Int32.le_toInt _, Int32.toInt_le _⟩
  have := kk h1 (okl_cons (okI hz) (okl_tl (okl_tl h2))) h3 H locs lsr hW hS hL
  rw [List.map_cons, show mvv (cY X) (vI (dz k)) = .int (Op.cmpValue (FP.dcmp (dcode k) (dcode k)) .l) by show Value.int (Int32.ofInt _) = _; unfold dz; rw [Int32.ofInt_toInt]] at this
  exact lv_dcmp hX.1 hX.2.1 hd this
variable {y : MethodName} {cb : ByteArray} {mL : Nat} {ty : Option FieldType} {hh : List (Nat × Nat × Nat × Nat)} {fr' lo' idx n : Nat} {as : List MV} {post : Option MV → VV → Prop}
theorem j_callC (hX : Good X own cc nL fr lo) (hG : gOK NA G) (hst9 : X.2.2.1.stackTraces = false) (hXW : XW (cs X)) (hc : lkC own idx y cb mL ty hh n) (hok : OkC y cb mL ty hh fr' lo' as V post) (hn : as.length = n) (hfr : fr' + 1 ≤ fr) (hlo : 8 + (mL + 11) + lo' ≤ lo) (hst : stk st ≤ 8) (hlen : ls.length = nL)
    (hrm : G.2.2.1 + 1 ≤ (cR X).cells ∧ G.2.2.2 + 6 ≤ (cR X).slots) (hd : decode cc pc = .ok (.invokestatic idx, 3)) (kk : ∀ r V', post r V' → J X (G16 G) (pc + 3) ls (r.toList ++ st) V') : J X G pc ls (as.reverse ++ st) V := fun h1 h2 h3 H locs lsr hW hS hL => by
  have hoa := okl_rev (okl_app h2).1
  have hos := (okl_app h2).2
  have hM := hok hoa h3 X.2.2.1 hst9 (cY X) G hG
  have hp : PreS (cs X) H (XPc (cY X) G as V) (as.map (mvv (cY X))) := ⟨XPc_blind, fun U hU hWU => ⟨⟨rfl, by rw [hU]; exact hW.1, hX.kk.at hS hU hWU⟩, hXW.moved hWU.alike⟩⟩
  have hsz : lsr.size = nL := hL.1.trans hlen
  have hstk : (as.reverse ++ st).map (mvv (cY X)) = (as.map (mvv (cY X))).reverse ++ st.map (mvv (cY X)) := by rw [List.map_append, List.map_reverse]
  rw [hstk]
  have fin : ∀ (r : Option MV) (V' : VV) (H' : Heap) (locs' : List Loc), post r V' → (∀ v, r = some v → okv v) → okV V' → Wd (cY X) G V' H' → va_S (aZ0 (cY X)) (cs X).heap H' locs' → WX X H' locs' (G.2.2.1 + 1) (G.2.2.2 + 6) (F0 (cm X) (pc + 3) lsr ((r.map (mvv (cY X))).toList ++ st.map (mvv (cY X)))) := by
    intro r V' H' locs' p1 p2 p3 p4 p5
    have := kk r V' p1 h1 (okl_opt p2 hos) p3 H' locs' lsr ⟨p4, hrm⟩ p5 hL
    rw [List.map_append] at this
    cases r with
    | none => exact this
    | some v => exact this
  obtain ⟨l1, l2, l3, l4, l5, l6, l7⟩ := hc
  have hgw : GoodIn Gw (.codeWith y cb mL ty hh :: Gw) := fun w hw => (List.mem_cons.mp hw).elim (fun e => by rw [e]; exact Gw_good _ l3) (Gw_good w)
  have cw : vx_CSW (cR X) (cs X) (ca X) own idx y cb mL ty hh (.codeWith y cb mL ty hh :: Gw) ({ frames := fr', cells := 1, slots := 6, locals := lo' } : Room) 1 6 n := by
    refine ⟨⟨rfl, rfl, by rw [hX.2.2.2.2.2.2.2.1]; exact hfr, by rw [hX.2.2.2.2.2.2.2.2]; exact hlo, pay_in hX.ts hgw, List.mem_cons_self⟩, hX.ts _ l3, hX.ts _ l2, ⟨l5, l6⟩, fun sig h => ?_, hX.ts _ l1, hX.ts _ l4⟩
    rw [h] at l7
    exact (Option.some.inj l7).symm
  exact j_afterN (vx_runSW (fixX hX) hM cw hp rfl (by rw [List.length_map]; exact hn) hsz rfl (roomX hst) hd hrm) hS fin
end LAWR
