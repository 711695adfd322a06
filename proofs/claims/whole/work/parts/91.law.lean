/-! THE LAW'S WRAPPERS: a call that may throw, what it throws caught by the caller's own table -/
theorem XPc_blind {Y : Lay} {G : GS} {as : List MV} {V : VV} : FrameBlind (XPc Y G as V) := fun a U g mk h => ⟨mPc_blind a U g mk h.1, h.2.moved (State.WarmedH.refl U).alike⟩
/-- the row of the caller's table that takes an exception of class E thrown at pc -/
def CTC (X : Cx) (own : String) (pc : Nat) (E : String) (h : Nat) : Prop :=
  ∃ (pre : List ExceptionTableEntry) (x : ExceptionTableEntry) (suf : List ExceptionTableEntry) (name : String), (cc9 X).exceptionTable.toList = pre ++ x :: suf ∧
    (∀ z ∈ pre, covers z pc = false ∨ (z.catchType ≠ 0 ∧ ∃ nm : String, (Cond.classLink own z.catchType nm).before (ca X) (cs X) = true ∧ va_Nc E nm (cs X))) ∧ covers x pc = true ∧ x.catchType ≠ 0 ∧
    (Cond.classLink own x.catchType name).before (ca X) (cs X) = true ∧ (Cond.castable E name).before (ca X) (cs X) = true ∧ x.handlerPc = h
abbrev G16 (G : GS) : GS := (G.1, G.2.1, G.2.2.1 + 1, G.2.2.2 + 6)
theorem mvv_vN (Y : Lay) (q : Nat) : mvv Y (vN ((q : Int) + 1)) = .ref q := by
  show (if (q : Int) + 1 = 0 then Value.null else Value.ref ((q : Int) + 1 - 1).toNat) = _
  rw [if_neg (by omega), show (q : Int) + 1 - 1 = (q : Int) by omega]
  rfl
section CALLX
variable {X : Cx} {own : String} {cc : ByteArray} {nL fr lo : Nat} {G : GS} {pc : Nat} {ls st : List MV} {V : VV}
variable {y : MethodName} {cb : ByteArray} {mL : Nat} {ty : Option FieldType} {fr' lo' idx n : Nat} {as : List MV} {post : Option MV → VV → Prop} {XP : String → VV → Prop}
theorem lk_BX (hX : Good X own cc nL fr lo) (h : lk0 own idx y cb mL ty n) (hl : Cond.methodLink own idx y ∈ Gw) (hfr : fr' + 1 ≤ fr) (hlo : 8 + (mL + 11) + lo' ≤ lo) :
    CallB (cR X) (cs X) (ca X) own idx y cb mL ty (.code y cb mL ty :: Gw) ({ frames := fr', cells := 1, slots := 6, locals := lo' } : Room) 1 6 n :=
  callB_of n hX.ts (fun w hw => (List.mem_cons.mp hw).elim (fun e => by rw [e]; exact Gw_good _ h.2.2.1) (Gw_good w)) rfl rfl rfl (hX.ts _ h.2.1) (hX.ts _ hl) h.2.2.2 ⟨by rw [hX.2.2.2.2.2.2.2.1]; exact hfr, by rw [hX.2.2.2.2.2.2.2.2]; exact hlo⟩
theorem j_callX {k : Int} {ci : Nat} {T : u_T} {N : Nat} (hX : Good X own cc nL fr lo) (hG : gOK NA G) (hst9 : X.2.2.1.stackTraces = false) (hXW : XW (cs X)) (hc : lkV own idx y cb mL ty n) (hl : Cond.methodLink own idx y ∈ Gw) (hok : OkX y cb mL ty fr' lo' (vA k :: as) V post XP) (ho : ob NA k ci) (hcl : vwCl[ci]? = some (y.cls, T, N)) (hn : as.length = n) (hfr : fr' + 1 ≤ fr) (hlo : 8 + (mL + 11) + lo' ≤ lo) (hst : stk st ≤ 8) (hlen : ls.length = nL)
    (hrm : G.2.2.1 + 1 ≤ (cR X).cells ∧ G.2.2.2 + 6 ≤ (cR X).slots) (hd : decode cc pc = .ok (.invokevirtual idx, 3))
    (kk : ∀ r V', post r V' → J X (G16 G) (pc + 3) ls (r.toList ++ st) V')
    (kx : ∀ E V', XP E V' → ∃ h, CTC X own pc E h ∧ ∀ q : Nat, J X (G16 G) h ls [vN ((q : Int) + 1)] V') : J X G pc ls (as.reverse ++ vA k :: st) V := fun h1 h2 h3 H locs lsr hW hS hL => by
  have hoa := okl_rev (okl_app h2).1
  have hob := okl_hd (okl_app h2).2
  have hos := okl_tl (okl_app h2).2
  have hM := hok (okl_cons hob hoa) h3 X.2.2.1 hst9 (cY X) G hG
  have hp : PreV (cs X) H y.cls (adr (cY X) k) (XPc (cY X) G (vA k :: as) V) (as.map (mvv (cY X))) := ⟨XPc_blind, recvA hX hG hW.1 ho hcl, fun U hU hWU => ⟨⟨rfl, by rw [hU]; exact hW.1, hX.kk.at hS hU hWU⟩, hXW.moved hWU.alike⟩⟩
  have hsz : lsr.size = nL := hL.1.trans hlen
  have hstk : (as.reverse ++ vA k :: st).map (mvv (cY X)) = (as.map (mvv (cY X))).reverse ++ .ref (adr (cY X) k) :: st.map (mvv (cY X)) := by rw [List.map_append, List.map_reverse, List.map_cons]; rfl
  rw [hstk]
  obtain ⟨h0, hins, hsel⟩ := hc
  have hr := vx_runV (p := X.2.1) (l := X.2.2.1) (e := X.2.2.2.1) (R := X.2.2.2.2.1) (below := X.2.2.2.2.2.2.2.2.1) (meth := X.2.2.2.2.2.2.2.2.2.1) (H := H) (locs := locs) (g := F0 (cm X) pc lsr ((as.map (mvv (cY X))).reverse ++ .ref (adr (cY X) k) :: st.map (mvv (cY X)))) (C := y.cls) (fixX hX) hM ⟨lk_BX hX h0 hl hfr hlo, hX.ts _ hins, hX.ts _ hsel⟩ hp rfl (by rw [List.length_map]; exact hn) hsz rfl (roomX hst) hd hrm
  intro T hT XX
  rcases hr T hT XX with ⟨v, st₀, t, T', L, g0, X', hL', e1, e2, ⟨⟨r, V', ho', hp', hok', hoV, hW'⟩, hz, hk⟩, go⟩ | ⟨q, st₀, t, T', L, E, ce, g0, X', hL', e1, e2, ⟨⟨V', hxp, hoV, hW'⟩, hz, hk⟩, hce, hcv, hcls, go⟩
  · cases ho'
    rw [g0] at hz hk
    have hS' : va_S (aZ0 (cY X)) (cs X).heap T'.heap (locs ++ L) := ⟨Nat.le_trans hS.1 (by rw [e1]; exact hz), fun q h1 h2 => by rw [e1, hk q (Nat.lt_of_lt_of_le h1 hS.1) h2]; exact hS.2.1 q h1 h2, fun q hq => by
      rcases List.mem_append.mp hq with h | h
      · exact hS.2.2 q h
      · exact hL' q h⟩
    have kq := kk r V' hp' h1 (okl_opt hok' hos) hoV T'.heap (locs ++ L) lsr ⟨by rw [e1]; exact hW', hrm⟩ hS' hL
    rw [List.map_append] at kq
    have kq' : WX X T'.heap (locs ++ L) (G.2.2.1 + 1) (G.2.2.2 + 6) (F0 (cm X) (pc + 3) lsr ((r.map (mvv (cY X))).toList ++ st.map (mvv (cY X)))) := by
      cases r with
      | none => exact kq
      | some v => exact kq
    obtain ⟨t2, a1, b1⟩ := kq' T' rfl X'
    exact ⟨t2, go t2 a1, b1⟩
  · rw [g0] at hz hk
    have hS' : va_S (aZ0 (cY X)) (cs X).heap T'.heap (locs ++ L) := ⟨Nat.le_trans hS.1 (by rw [e1]; exact hz), fun q h1 h2 => by rw [e1, hk q (Nat.lt_of_lt_of_le h1 hS.1) h2]; exact hS.2.1 q h1 h2, fun q hq => by
      rcases List.mem_append.mp hq with h | h
      · exact hS.2.2 q h
      · exact hL' q h⟩
    obtain ⟨h, ⟨pre, x, suf, name, c1, c2, c3, c4, c5, c6, rfl⟩, kq⟩ := kx E V' hxp
    have k0 := kq q h1 (fun w hw => by rw [List.mem_singleton.mp hw]; exact okO (by decide) (by decide)) hoV T'.heap (locs ++ L) lsr ⟨by rw [e1]; exact hW', hrm⟩ hS' hL
    rw [List.map_cons, List.map_nil, mvv_vN] at k0
    obtain ⟨t2, a1, b1⟩ := vx_catch (rest := st.map (mvv (cY X))) hX.own pre x suf c1 c2 c3 c4 c5 c6 (by rw [e1]; exact hce) hcv hcls k0 T' rfl X'
    exact ⟨t2, go.trans a1, b1⟩
end CALLX
/-- A CONTRACT OF A METHOD WITH A TABLE OF ITS OWN that catches all -/
def OkC (y : MethodName) (cb : ByteArray) (mL : Nat) (ty : Option FieldType) (hh : List (Nat × Nat × Nat × Nat)) (fr lo : Nat) (as : List MV) (V : VV) (post : Option MV → VV → Prop) : Prop :=
  okl as → okV V → ∀ (l : Launch), l.stackTraces = false → ∀ (Y : Lay) (G : GS), gOK NA G → Met l y (.codeWith y cb mL ty hh :: Gw) ({ frames := fr, cells := 1, slots := 6, locals := lo } : Room) (XPc Y G as V) (mQc Y G post) 1 6 (aZ0 Y)
theorem Met.ofWT {l : Launch} {y : MethodName} {ws ws' : List Cond} {rm : Room} {Pc : Array Value → State → Prop} {Qc : Array Value → State → Outcome → State → Prop} {mc ms : Nat} {free : Addr → Prop} {cc : ByteArray} {maxL : Nat} {ret : Option FieldType} {hh : List (Nat × Nat × Nat × Nat)}
    (hy : plainFor y = true) (hw : ws = Cond.codeWith y cc maxL ret hh :: ws')
    (body : ∀ p e s m args below meth c s₁, BodyLoose p l y (headSpec ws rm) cc maxL ret e s m args below meth c s₁ → c.maxLocals = maxL → Pc args s →
      W p l e (headSpec ws rm).room s m args below meth c s.heap [] 0 0 (MQ below Qc args s mc ms free) (entryFrame m args maxL)) : Met l y ws rm Pc Qc mc ms free := by
  refine MetFree.of_bodySF (code := cc) (maxLocals := maxL) (ret := ret) hy ?_ ?_
  · intro args s m h hn
    obtain ⟨m9, meth, c, hn9, h1, h2, h3, h4, -, h5, h6, -⟩ := Cond.codeWith_spec (atoms_spec (ws := ws) h _ (by rw [hw]; exact List.mem_cons_self))
    cases hn.symm.trans hn9
    exact ⟨meth, c, h1, h2, h3, h4, h5, h6⟩
  · intro p e s m args below meth c s₁ B hml hP _
    have hh0 : s₁.heap = s.heap := by rw [B.state]; rfl
    obtain ⟨t, a1, o, b1, b2, b3⟩ := body p e s m args below meth c s₁ B hml hP s₁ hh0 (Stand.of_body B)
    exact ⟨t, o, a1, b1, b2, ⟨b3.1, b3.2⟩⟩
def CX (X : Cx) (hh : List (Nat × Nat × Nat × Nat)) : Prop := X.2.2.1.stackTraces = false ∧ XW (cs X) ∧ (cc9 X).exceptionTable.toList = tableOf hh ∧ (cR X).cells = 1 ∧ (cR X).slots = 6
theorem OkC.intro {y : MethodName} {cb : ByteArray} {mL : Nat} {ty : Option FieldType} {hh : List (Nat × Nat × Nat × Nat)} {fr lo : Nat} {as : List MV} {V : VV} {post : Option MV → VV → Prop} (hy : plainFor y = true) (hlen : (entA as).length ≤ mL)
    (body : ∀ (X : Cx) (G : GS), Good X y.cls cb mL fr lo → gOK NA (G.1, G.2.1, 0, 0) → Ret X cb ty (G.1, G.2.1, 1, 6) post → CX X hh → okl as → okV V → J X (G.1, G.2.1, 0, 0) 0 (entL as mL) [] V) : OkC y cb mL ty hh fr lo as V post := by
  intro hoa hoV l hst Y G0 hG
  refine Met.ofWT (cc := cb) (maxL := mL) (ret := ty) (hh := hh) hy rfl ?_
  intro p e s m args below meth c s₁ B hml hv
  obtain ⟨⟨rfl, hW, hK⟩, hXW⟩ := hv
  have hts := atoms_spec (ws := .codeWith y cb mL ty hh :: Gw) B.pre
  have htab := vx_table (x := y) B (hts _ List.mem_cons_self)
  have hret := B.returns
  have hlocks : meth.locks = false := B.notSynchronized
  have hx := B.exec
  have hbb := B.bytes
  have key := body (Y, p, l, e, ({ frames := fr, cells := 1, slots := 6, locals := lo } : Room), s, m, (as.map (mvv Y)).toArray, below, meth, c, MQ below (mQc Y G0 post) (as.map (mvv Y)).toArray s 1 6 (aZ0 Y)) G0
    ⟨hx, hbb, hml, findClass_of_methodNamed B.named, fun w hw => hts w (List.mem_cons_of_mem _ hw), hK, hlocks, rfl, rfl⟩ hG ?_ ⟨hst, hXW, htab, rfl, rfl⟩ hoa hoV
  · have h9 := key (entL_okl hoa) (fun _ h => by cases h) hoV s.heap [] _ ⟨hW, Nat.zero_le _, Nat.zero_le _⟩ va_S.rf (ent_lvh Y hlen)
    rw [lg_entry_eq]
    exact h9
  · intro pc r V' H locs lsr hp hok hoV' hW' hS hr
    have hWd : Wd Y G0 V' H := hW'.1
    have hF : ∀ t : State, t.heap = H → va_F (aZ0 Y) s t := fun t ht => hS.F ht
    have hl : ∀ q ∈ locs, aZ0 Y q.base := hS.2.2
    cases r with
    | none => exact W.vret hx hbb (by rw [hret]; exact hr.1) (fun t ht _ => ⟨⟨none, V', rfl, hp, hok, hoV', by rw [ht]; exact hWd⟩, hF t ht⟩) hl hr.2 hlocks
    | some v =>
      obtain ⟨tg, x⟩ := v
      rcases hr with ⟨rfl, hd, t, ht, hn⟩ | ⟨rfl, hd, ht⟩ | ⟨rfl, hd, ht⟩ | ⟨rfl, hd, C, ht⟩
      · exact W.zret hx hbb (by rw [hret]; exact ht) hn (fun t ht _ => ⟨⟨some (0, x), V', rfl, hp, hok, hoV', by rw [ht]; exact hWd⟩, hF t ht⟩) hl hd hlocks
      · exact W.lret hx hbb (by rw [hret]; exact ht) (fun t ht _ => ⟨⟨some (1, x), V', rfl, hp, hok, hoV', by rw [ht]; exact hWd⟩, hF t ht⟩) hl hd hlocks
      · exact W.dret hx hbb (by rw [hret]; exact ht) (fun t ht _ => ⟨⟨some (4, x), V', rfl, hp, hok, hoV', by rw [ht]; exact hWd⟩, hF t ht⟩) hl hd hlocks
      · exact W.aret hx hbb (by rw [hret]; exact ht) (Or.inl ⟨C, rfl⟩) (Or.inr ⟨_, rfl⟩) (fun t ht _ => ⟨⟨some (2, x), V', rfl, hp, hok, hoV', by rw [ht]; exact hWd⟩, hF t ht⟩) hl hd hlocks
