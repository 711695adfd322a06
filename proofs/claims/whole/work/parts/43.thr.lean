/-! exceptions that leave the class's methods -/
abbrev exS : String := "java/lang/IllegalStateException"
abbrev exB : String := "java/lang/IndexOutOfBoundsException"
abbrev exA : String := "java/lang/IllegalArgumentException"
abbrev exN : String := "java/util/NoSuchElementException"
abbrev nmsX : List String := ["java/lang/RuntimeException", "java/lang/Exception"]
def XLw : List Cond := [.declares (Bundle.initS "java/lang/RuntimeException"), .declares (Bundle.initS "java/lang/Exception"), .declares (Bundle.initS Bundle.tN), .castable exS exS, .castable exB exB, .castable exA exA, .castable exN exN]
def XNp : List (String × String) := [(exS, exB), (exS, exA), (exS, exN), (exB, exS), (exB, exA), (exB, exN), (exA, exS), (exA, exB), (exA, exN), (exN, exS), (exN, exB), (exN, exA)]
def XW (U : State) : Prop := (∀ w ∈ XLw, ∀ a, w.before a U = true) ∧ ∀ q ∈ XNp, va_Nc q.1 q.2 U
theorem XW.moved {s U : State} (hal : s.vm.Alike U.vm) (h : XW s) : XW U := by
  refine ⟨fun w hw a => ?_, fun q hq => (h.2 q hq).moved hal⟩
  have h1 := h.1 w hw a
  have e : w.before a U = w.before a (s.setVm U.vm) := by
    have ho : w.onTables = true := by
      simp only [XLw, List.mem_cons, List.not_mem_nil, or_false] at hw
      rcases hw with rfl | rfl | rfl | rfl | rfl | rfl | rfl <;> rfl
    exact Cond.onTables_vm (A := a) (U := U) (A' := a) (U' := s) U.vm w ho
  rw [e]
  simp only [XLw, List.mem_cons, List.not_mem_nil, or_false] at hw
  rcases hw with rfl | rfl | rfl | rfl | rfl | rfl | rfl
  · rw [Cond.declares_setVm hal]; exact h1
  · rw [Cond.declares_setVm hal]; exact h1
  · rw [Cond.declares_setVm hal]; exact h1
  · rw [Cond.castable_setVm hal]; exact h1
  · rw [Cond.castable_setVm hal]; exact h1
  · rw [Cond.castable_setVm hal]; exact h1
  · rw [Cond.castable_setVm hal]; exact h1
def THW (ik ic : Nat) (cls : String) : Prop := (∀ w ∈ [Cond.classLink RX11 ik cls, Cond.initialized cls], w ∈ Gw) ∧ (∀ w ∈ (vx_atS RX11 ic cls nmsX).filter goodWord, w ∈ Gw) ∧ (∀ w ∈ (vx_atS RX11 ic cls nmsX).filter (fun w => !goodWord w), w ∈ XLw) ∧ (∀ w ∈ Cond.classLink RX11 ik cls :: Cond.initialized cls :: vx_atS RX11 ic cls nmsX, vx_ot w = true) ∧ Bundle.fit cls = true
theorem THW_of {ik ic : Nat} {cls : String} (h0 : (goodWord (Cond.classLink RX11 ik cls) && goodWord (Cond.initialized cls) && decide (Cond.classLink RX11 ik cls ∈ lw_tbl) && decide (Cond.initialized cls ∈ lw_tbl)) = true) (h : (vx_atS RX11 ic cls nmsX).all (fun w => if goodWord w then decide (w ∈ lw_tbl) else decide (w ∈ XLw)) = true)
    (h2 : (Cond.classLink RX11 ik cls :: Cond.initialized cls :: vx_atS RX11 ic cls nmsX).all vx_ot = true) (h3 : Bundle.fit cls = true) : THW ik ic cls := by
  rw [Bool.and_eq_true, Bool.and_eq_true, Bool.and_eq_true, decide_eq_true_eq, decide_eq_true_eq] at h0
  refine ⟨fun w hw => ?_, fun w hw => ?_, fun w hw => ?_, List.all_eq_true.mp h2, h3⟩
  · simp only [List.mem_cons, List.not_mem_nil, or_false] at hw
    rcases hw with rfl | rfl
    · exact inGw h0.1.2 h0.1.1.1
    · exact inGw h0.2 h0.1.1.2
  · obtain ⟨h4, h5⟩ := List.mem_filter.mp hw
    have := List.all_eq_true.mp h w h4
    rw [if_pos h5, decide_eq_true_eq] at this
    exact inGw this h5
  · obtain ⟨h4, h5⟩ := List.mem_filter.mp hw
    have := List.all_eq_true.mp h w h4
    rw [if_neg (by simpa using h5), decide_eq_true_eq] at this
    exact this
theorem th_118 : THW 118 122 exS := THW_of (by decide +kernel) (by decide +kernel) (by decide +kernel) (by decide +kernel)
theorem th_128 : THW 128 132 exB := THW_of (by decide +kernel) (by decide +kernel) (by decide +kernel) (by decide +kernel)
theorem th_137 : THW 137 141 exA := THW_of (by decide +kernel) (by decide +kernel) (by decide +kernel) (by decide +kernel)
def XPc (Y : Lay) (G : GS) (as : List MV) (V : VV) : Array Value → State → Prop := fun v U => mPc Y G as V v U ∧ XW U
def XCd (Y : Lay) (G : GS) (XP : String → VV → Prop) : String → State → State → Prop := fun E st t => (∃ V', XP E V' ∧ okV V' ∧ Wd Y G V' t.heap) ∧ va_F (aZ0 Y) st t
/-- A METHOD'S CONTRACT, that makes nothing but what it throws -/
def OkX (y : MethodName) (cb : ByteArray) (mL : Nat) (ty : Option FieldType) (fr lo : Nat) (as : List MV) (V : VV) (post : Option MV → VV → Prop) (XP : String → VV → Prop) : Prop :=
  okl as → okV V → ∀ (l : Launch), l.stackTraces = false → ∀ (Y : Lay) (G : GS), gOK NA G → vx_Met l y (.code y cb mL ty :: Gw) ({ frames := fr, cells := 1, slots := 6, locals := lo } : Room) (XPc Y G as V) (mQc Y G post) (XCd Y G XP) 1 6 (aZ0 Y)
def TX (X : Cx) (G : GS) (XP : String → VV → Prop) : Prop := X.2.2.1.stackTraces = false ∧ (∀ x ∈ (cc9 X).exceptionTable.toList, False) ∧ XW (cs X) ∧ (cR X).cells = 1 ∧ (cR X).slots = 6 ∧ NA ≤ G.1 ∧ G.2.2.1 = 0 ∧ G.2.2.2 = 0 ∧
  ∃ Qc XC, X.2.2.2.2.2.2.2.2.2.2.2 = vx_MQ X.2.2.2.2.2.2.2.2.1 Qc XC (ca X) (cs X) 1 6 (aZ0 (cY X)) ∧ ∀ (E : String) (t : State) (V' : VV), XP E V' → okV V' → Wd (cY X) G V' t.heap → va_F (aZ0 (cY X)) (cs X) t → XC E (cs X) t
theorem OkX.intro {y : MethodName} {cb : ByteArray} {mL : Nat} {ty : Option FieldType} {fr lo : Nat} {as : List MV} {V : VV} {post : Option MV → VV → Prop} {XP : String → VV → Prop} (hy : plainName y.cls = true) (hlen : (entA as).length ≤ mL)
    (body : ∀ (X : Cx) (G : GS), Good X y.cls cb mL fr lo → gOK NA G → Ret X cb ty G post → TX X G XP → okl as → okV V → J X G 0 (entL as mL) [] V) : OkX y cb mL ty fr lo as V post XP := by
  intro hoa hoV l hst Y G0 hG
  refine vx_ofW (cc := cb) (maxL := mL) (ret := ty) hy rfl ?_
  intro p e s m args below meth c s₁ B hml hex hv
  obtain ⟨⟨rfl, hW, hK⟩, hXW⟩ := hv
  have hts := atoms_spec (ws := .code y cb mL ty :: Gw) B.pre
  have hret := B.returns
  have hlocks : meth.locks = false := B.notSynchronized
  have hx := B.exec
  have hbb := B.bytes
  have key := body (Y, p, l, e, ({ frames := fr, cells := 1, slots := 6, locals := lo } : Room), s, m, (as.map (mvv Y)).toArray, below, meth, c, vx_MQ below (mQc Y G0 post) (XCd Y G0 XP) (as.map (mvv Y)).toArray s 1 6 (aZ0 Y)) (G0.1, G0.2.1, 0, 0)
    ⟨hx, hbb, hml, findClass_of_methodNamed B.named, fun w hw => hts w (List.mem_cons_of_mem _ hw), hK, hlocks, rfl, rfl⟩ hG ?_ ⟨hst, hex, hXW, rfl, rfl, hG.1, rfl, rfl, _, _, rfl, fun E t V' h1 h2 h3 h4 => ⟨⟨V', h1, h2, h3⟩, h4⟩⟩ hoa hoV
  · have h9 := key (entL_okl hoa) (fun _ h => by cases h) hoV s.heap [] _ ⟨hW, Nat.zero_le _, Nat.zero_le _⟩ va_S.rf (ent_lvh Y hlen)
    rw [lg_entry_eq]
    exact h9
  · intro pc r V' H locs lsr hp hok hoV' hW' hS hr
    have hWd : Wd Y G0 V' H := hW'.1
    have hF : ∀ t : State, t.heap = H → va_F (aZ0 Y) s t := fun t ht => hS.F ht
    have hl : ∀ q ∈ locs, aZ0 Y q.base := hS.2.2
    show W p l e _ s m _ below meth c H locs 0 0 (vx_MQ below (mQc Y G0 post) (XCd Y G0 XP) (as.map (mvv Y)).toArray s 1 6 (aZ0 Y)) _
    refine vx_ret (W.widen (k := 1) (n := 6) (by decide) (by decide) ?_)
    cases r with
    | none => exact W.vret hx hbb (by rw [hret]; exact hr.1) (fun t ht _ => ⟨⟨none, V', rfl, hp, hok, hoV', by rw [ht]; exact hWd⟩, hF t ht⟩) hl hr.2 hlocks
    | some v =>
      obtain ⟨tg, x⟩ := v
      rcases hr with ⟨rfl, hd, t, ht, hn⟩ | ⟨rfl, hd, ht⟩ | ⟨rfl, hd, ht⟩ | ⟨rfl, hd, C, ht⟩
      · exact W.zret hx hbb (by rw [hret]; exact ht) hn (fun t ht _ => ⟨⟨some (0, x), V', rfl, hp, hok, hoV', by rw [ht]; exact hWd⟩, hF t ht⟩) hl hd hlocks
      · exact W.lret hx hbb (by rw [hret]; exact ht) (fun t ht _ => ⟨⟨some (1, x), V', rfl, hp, hok, hoV', by rw [ht]; exact hWd⟩, hF t ht⟩) hl hd hlocks
      · exact W.dret hx hbb (by rw [hret]; exact ht) (fun t ht _ => ⟨⟨some (4, x), V', rfl, hp, hok, hoV', by rw [ht]; exact hWd⟩, hF t ht⟩) hl hd hlocks
      · exact W.aret hx hbb (by rw [hret]; exact ht) (Or.inl ⟨C, rfl⟩) (Or.inr ⟨_, rfl⟩) (fun t ht _ => ⟨⟨some (2, x), V', rfl, hp, hok, hoV', by rw [ht]; exact hWd⟩, hF t ht⟩) hl hd hlocks
theorem va_at.grown {D : va_G} {cl : List vw_C} {q : Nat × va_E} {H H1 : Heap} (h : va_at D cl q H) (e : H1[q.1]? = H[q.1]?) : va_at D cl q H1 := by
  obtain ⟨a, o⟩ := q
  cases o with
  | inl w => show H1[a]? = _; rw [e]; exact h
  | inr w =>
    obtain ⟨r, h1, h2⟩ := h
    refine ⟨r, h1, ?_⟩
    obtain ⟨cell, h3⟩ := h2
    exact ⟨cell, by rw [e]; exact h3.1, h3.2⟩
theorem Wd.grown {Y : Lay} {G : GS} {V : VV} {H H1 : Heap} (h : Wd Y G V H) (hG : NA ≤ G.1) (hz : H.size ≤ H1.size) (hq : ∀ q : Nat, q < H.size → H1[q]? = H[q]?) : Wd Y G V H1 := by
  refine ⟨Nat.le_trans h.1 hz, fun q => by omega, fun k hk => (h.2.2 k hk).grown (hq _ ?_)⟩
  have := h.1
  show yz Y + k < H.size
  omega
section THROWS
variable {X : Cx} {own : String} {cc : ByteArray} {nL fr lo : Nat} {G : GS} {pc : Nat} {ls st : List MV} {V : VV} {XP : String → VV → Prop}
theorem j_throw {ik is ic : Nat} {cls text : String} (hX : Good X RX11 cc nL fr lo) (hT : TX X G XP) (hs : THW ik ic cls) (hm : (RX11, is, text) ∈ msgs) (d0 : decode cc pc = .ok (.new ik, 3)) (d3 : decode cc (pc + 3) = .ok (.dup, 1)) (d4 : decode cc (pc + 4) = .ok (.ldc is, 2)) (d6 : decode cc (pc + 6) = .ok (.invokespecial ic, 3)) (d9 : decode cc (pc + 9) = .ok (.athrow, 1))
    (hfr : 5 < fr) (hlo : stk st + 82 ≤ lo) (hlen : ls.length = nL) (hp : XP cls V) : J X G pc ls st V := fun h1 h2 h3 H locs lsr hW hS hL => by
  obtain ⟨t1, t2, t3, t4, t5, t6, t7, t8, Qc, XC, t9, t10⟩ := hT
  obtain ⟨a, ha⟩ := hX.kk.2.2.2.2.2.1 _ hm
  show W X.2.1 X.2.2.1 X.2.2.2.1 X.2.2.2.2.1 X.2.2.2.2.2.1 X.2.2.2.2.2.2.1 X.2.2.2.2.2.2.2.1 X.2.2.2.2.2.2.2.2.1 X.2.2.2.2.2.2.2.2.2.1 X.2.2.2.2.2.2.2.2.2.2.1 H locs G.2.2.1 G.2.2.2 X.2.2.2.2.2.2.2.2.2.2.2 _
  rw [t9]
  exact vx_throwS (names := nmsX) (sa := a) hX.1 hX.2.1 t1 hX.own hs.2.2.2.2 (by decide +kernel) (hX.ts _ (hs.1 _ List.mem_cons_self)) (hX.ts _ (hs.1 _ (List.mem_cons_of_mem _ List.mem_cons_self))) ha
    (vx_hat (fun w hw => hX.ts w (hs.2.1 w hw)) hs.2.2.1 (fun w hw => t3.1 w hw _)) hs.2.2.2.1 hX.kk.2.2.2.2.2.2.1 hX.kk.2.2.2.2.2.2.2.1 hS (hL.1.trans (hlen.trans hX.2.2.1.symm)) d0 d3 d4 d6 d9
    (fun x hx => absurd hx (fun q => t2 x q)) (by rw [hX.2.2.2.2.2.2.2.1]; exact hfr) (by rw [hX.2.2.2.2.2.2.2.2, stk_cat]; exact hlo) (by rw [t7]; exact Nat.le_of_eq t4.symm) (by rw [t8]; exact Nat.le_of_eq t5.symm) hX.2.2.2.2.2.2.1
    (fun t al hz hq => t10 _ _ V hp h3 (hW.1.grown t6 hz hq) ⟨Nat.le_trans hS.1 hz, fun q q1 q2 => by rw [hq q (Nat.lt_of_lt_of_le q1 hS.1)]; exact hS.2.1 q q1 q2⟩) hS.2.2 (by rw [t7]; decide) (by rw [t8]; decide)
theorem j_throwW {ik is ic : Nat} {cls text : String} (hX : Good X RX11 cc nL fr lo) (hT : TX X G XP) (hs : THW ik ic cls) (hm : (RX11, is, text) ∈ msgs) (d0 : decode cc pc = .ok (.new ik, 3)) (d3 : decode cc (pc + 3) = .ok (.dup, 1)) (d4 : decode cc (pc + 4) = .ok (.ldc_w is, 3)) (d7 : decode cc (pc + 7) = .ok (.invokespecial ic, 3)) (d10 : decode cc (pc + 10) = .ok (.athrow, 1))
    (hfr : 5 < fr) (hlo : stk st + 82 ≤ lo) (hlen : ls.length = nL) (hp : XP cls V) : J X G pc ls st V := fun h1 h2 h3 H locs lsr hW hS hL => by
  obtain ⟨t1, t2, t3, t4, t5, t6, t7, t8, Qc, XC, t9, t10⟩ := hT
  obtain ⟨a, ha⟩ := hX.kk.2.2.2.2.2.1 _ hm
  show W X.2.1 X.2.2.1 X.2.2.2.1 X.2.2.2.2.1 X.2.2.2.2.2.1 X.2.2.2.2.2.2.1 X.2.2.2.2.2.2.2.1 X.2.2.2.2.2.2.2.2.1 X.2.2.2.2.2.2.2.2.2.1 X.2.2.2.2.2.2.2.2.2.2.1 H locs G.2.2.1 G.2.2.2 X.2.2.2.2.2.2.2.2.2.2.2 _
  rw [t9]
  exact vx_throwSW (names := nmsX) (sa := a) hX.1 hX.2.1 t1 hX.own hs.2.2.2.2 (by decide +kernel) (hX.ts _ (hs.1 _ List.mem_cons_self)) (hX.ts _ (hs.1 _ (List.mem_cons_of_mem _ List.mem_cons_self))) ha
    (vx_hat (fun w hw => hX.ts w (hs.2.1 w hw)) hs.2.2.1 (fun w hw => t3.1 w hw _)) hs.2.2.2.1 hX.kk.2.2.2.2.2.2.1 hX.kk.2.2.2.2.2.2.2.1 hS (hL.1.trans (hlen.trans hX.2.2.1.symm)) d0 d3 d4 d7 d10
    (fun x hx => absurd hx (fun q => t2 x q)) (by rw [hX.2.2.2.2.2.2.2.1]; exact hfr) (by rw [hX.2.2.2.2.2.2.2.2, stk_cat]; exact hlo) (by rw [t7]; exact Nat.le_of_eq t4.symm) (by rw [t8]; exact Nat.le_of_eq t5.symm) hX.2.2.2.2.2.2.1
    (fun t al hz hq => t10 _ _ V hp h3 (hW.1.grown t6 hz hq) ⟨Nat.le_trans hS.1 hz, fun q q1 q2 => by rw [hq q (Nat.lt_of_lt_of_le q1 hS.1)]; exact hS.2.1 q q1 q2⟩) hS.2.2 (by rw [t7]; decide) (by rw [t8]; decide)
theorem j_tabIn {dflt lo' hi : Int} {offs : Array Int} {len : Nat} {x off : Int} {tgt : Nat} (hX : Good X own cc nL fr lo) (hd : decode cc pc = .ok (.tableswitch dflt lo' hi offs, len)) (hx : lo' ≤ x ∧ x ≤ hi) (ho : offs[(x - lo').toNat]? = some off) (ht : (pc : Int) + off = (tgt : Int)) (kk : J X G tgt ls st V) : J X G pc ls (vI x :: st) V := fun h1 h2 h3 H locs lsr hW hS hL => by
  have hr := okIr (okl_hd h2)
  exact lv_tableIn hX.1 hX.2.1 hd (by rw [i32v hr]; omega) (by rw [i32v hr]; omega) (by rw [i32v hr]; exact ho) ht (kk h1 (okl_tl h2) h3 H locs lsr hW hS hL)
theorem j_tabOut {dflt lo' hi : Int} {offs : Array Int} {len : Nat} {x : Int} {tgt : Nat} (hX : Good X own cc nL fr lo) (hd : decode cc pc = .ok (.tableswitch dflt lo' hi offs, len)) (hx : x < lo' ∨ hi < x) (ht : (pc : Int) + dflt = (tgt : Int)) (kk : J X G tgt ls st V) : J X G pc ls (vI x :: st) V := fun h1 h2 h3 H locs lsr hW hS hL => by
  have hr := okIr (okl_hd h2)
  exact lv_tableOut hX.1 hX.2.1 hd (by rw [i32v hr]; exact hx) ht (kk h1 (okl_tl h2) h3 H locs lsr hW hS hL)
end THROWS
