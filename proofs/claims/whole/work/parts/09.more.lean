/-! fields that are stored; calls -/
theorem cel_up_ob {Y : Lay} {G : GS} {V : VV} {k x : Int} {ci j : Nat} (h : kd k = (0, ci)) (hj : j < nfL.getD ci 0) (ht : ft ci j ≠ 2) :
    cel Y G (up V k j x) k = .inr (ci, ((List.range (nfL.getD ci 0)).map (fv Y G V k ci)).set j (.int (Int32.ofInt x))) := by
  rw [cel_ob h]
  congr 2
  refine List.ext_getElem? fun i => ?_
  rw [List.getElem?_set]
  simp only [List.getElem?_map, List.length_map, List.length_range]
  by_cases hi : j = i
  · subst hi
    rw [if_pos rfl, if_pos hj, List.getElem?_range hj]
    show some (fv Y G (up V k j x) k ci j) = _
    unfold fv
    rw [if_neg ht, up_s]
  · rw [if_neg hi]
    by_cases hl : i < nfL.getD ci 0
    · rw [List.getElem?_range hl]
      show some (fv Y G (up V k j x) k ci i) = some (fv Y G V k ci i)
      unfold fv
      rw [up_n V (by omega)]
    · rw [List.getElem?_eq_none (by simpa using hl)]
      rfl
section PUT
variable {X : Cx} {own : String} {cc : ByteArray} {nL fr lo nx : Nat} {G : GS} {pc : Nat} {ls st : List MV} {V : VV}
theorem j_put {idx ci j : Nat} {ji k x : Int} {t : FieldType} (hX : Good X own cc nL fr lo) (hG : gOK nx G) (hf : FP9 own idx ci j ji t) (hn : narrow t (.int (Int32.ofInt x)) = .int (Int32.ofInt x)) (hfit : fits t (.int (Int32.ofInt x)) = true) (hok : r32 x → okc (ft ci j) x) (ht : ft ci j ≠ 2) (ho : ob nx k ci) (hd : decode cc pc = .ok (.putfield idx, 3))
    (kk : J X G (pc + 3) ls st (up V k ji x)) : J X G pc ls (vI x :: vA k :: st) V := fun h1 h2 h3 H locs lsr hW hS hL => by
  obtain ⟨rfl, C, T, N, ty, hc, hN, hj, hin, hlink, hty, hnm, htj, hfin⟩ := hf
  have hat := hW.1.at hG ho.1 ho.2.1
  rw [cel_ob ho.2.2] at hat
  have hap := va_apart (own := own) hX.ts hin ty hty hnm hX.k hc
  obtain ⟨r, g1, cell, q1, q2, q3, q4⟩ := hat
  have hr : r = (C, T, N) := Option.some.inj (g1.symm.trans hc)
  subst hr
  obtain ⟨hSl, hfc, kC, hkC, hkind⟩ := hX.k.1 ci _ hc
  obtain ⟨cf, kf, fi, f, hi, hsl⟩ := hSl j hj
  have hlay := hX.ts _ (hin _ (u_in_lay hj))
  unfold u_lay at hlay
  rw [if_neg (by rw [hfin]; decide)] at hlay
  have hst := (u_facts hfc hkC (u_lays hX.ts hin hj) hi).1
  have h6 := u_store hfc hkC hkind hlay hi (by rw [hty j hj, htj]) hn hfit
  refine W.putK hX.1 hX.2.1 (f := f) ⟨hX.own, hX.ts _ hlink, ⟨_, _, _, hi⟩, hst⟩ (by rw [q2]; exact h6) q1 q3 (by rw [hsl]; exact k2_hasslot (q4 j hj)) rfl rfl hd fun H' e1 e2 e3 => ?_
  rw [hsl] at e1 ⊢
  have hrx := okIr (okl_hd h2)
  refine kk h1 (okl_tl (okl_tl h2)) (ok_up h3 (by rw [cty_ob ho.2.2]; exact hok hrx)) H' _ lsr ⟨hW.1.upd ho.1 e2 e3 ?_, hW.2⟩ (hS.put e2 e3 (adr_z _ _)) hL
  rw [cel_up_ob ho.2.2 (by rw [hN]; exact hj) ht]
  exact ⟨_, hc, t_OB.to (V := updV (vp_V _) j (.int (Int32.ofInt x))) ⟨_, e1, q2, q3, t_set q4 hap hj _⟩ (fun i _ => vp_updV_set (by rw [List.length_map, List.length_range, hN]; exact hj) _ i)⟩
theorem j_putI {idx ci j : Nat} {ji k x : Int} (hX : Good X own cc nL fr lo) (hG : gOK nx G) (hf : FP9 own idx ci j ji .int) (ht : ft ci j = 0) (ho : ob nx k ci) (hd : decode cc pc = .ok (.putfield idx, 3))
    (kk : J X G (pc + 3) ls st (up V k ji x)) : J X G pc ls (vI x :: vA k :: st) V :=
  j_put hX hG hf rfl rfl (fun h => by rw [ht]; exact ⟨fun _ => h, fun q => absurd q (by decide), fun q => absurd q (by decide)⟩) (by rw [ht]; decide) ho hd kk
theorem j_putZ {idx ci j : Nat} {ji k x : Int} (hX : Good X own cc nL fr lo) (hG : gOK nx G) (hf : FP9 own idx ci j ji .boolean) (ht : ft ci j = 3) (hx : x = 0 ∨ x = 1) (ho : ob nx k ci) (hd : decode cc pc = .ok (.putfield idx, 3))
    (kk : J X G (pc + 3) ls st (up V k ji x)) : J X G pc ls (vI x :: vA k :: st) V :=
  j_put hX hG hf (nar_bool hx) (by rcases hx with rfl | rfl <;> rfl) (fun h => by rw [ht]; exact ⟨fun q => absurd q (by decide), fun q => absurd q (by decide), fun _ => hx⟩) (by rw [ht]; decide) ho hd kk
end PUT
/-- a static method as a call names it; a method of an object -/
def lkM (own : String) (idx : Nat) (y : MethodName) : Prop := Cond.methodLink own idx y ∈ Gw ∨ ∃ host, (own, idx, y, host) ∈ nestM
def lk0 (own : String) (idx : Nat) (y : MethodName) (cb : ByteArray) (mL : Nat) (ty : Option FieldType) (n : Nat) : Prop :=
  lkM own idx y ∧ Cond.initialized y.cls ∈ Gw ∧ Cond.code y cb mL ty ∈ Gw ∧ (y.cls ≠ "java/lang/invoke/MethodHandle" ∧ y.cls ≠ "java/lang/invoke/VarHandle" ∧ (parseMethodDescriptor y.desc).map (fun d => d.parameters.length) = some n)
def lkS (own : String) (idx : Nat) (y : MethodName) (cb : ByteArray) (mL : Nat) (ty : Option FieldType) (n : Nat) : Prop := lk0 own idx y cb mL ty n ∧ Cond.static y ∈ Gw
def lkV (own : String) (idx : Nat) (y : MethodName) (cb : ByteArray) (mL : Nat) (ty : Option FieldType) (n : Nat) : Prop := lk0 own idx y cb mL ty n ∧ Cond.instanceMethod y ∈ Gw ∧ Cond.selects y.cls y y ∈ Gw
theorem mPc_blind {Y : Lay} {G : GS} {as : List MV} {V : VV} : FrameBlind (mPc Y G as V) := fun a U g mk ⟨h1, h2, h3⟩ => ⟨h1, h2, h3.go (State.WarmedH.refl U) (Nat.le_refl _) (fun _ _ _ => rfl)⟩
theorem KK.at {Y : Lay} {s U : State} {H : Heap} {locs : List Loc} (h : KK Y s) (hS : va_S (aZ0 Y) s.heap H locs) (hU : U.heap = H) (hW : s.WarmedH U.vm) : KK Y U :=
  h.go hW (by rw [hU]; exact hS.1) (fun q h1 h2 => by rw [hU]; exact hS.2.1 q h1 h2)
theorem j_after {X : Cx} {H : Heap} {locs : List Loc} {cells slots pc : Nat} {lsr : Array Slot} {st0 rest : List Value} {G : GS} {post : Option MV → VV → Prop} {a : Array Value}
    (hr : va_Run X.2.1 X.2.2.1 X.2.2.2.1 X.2.2.2.2.1 X.2.2.2.2.2.1 X.2.2.2.2.2.2.1 X.2.2.2.2.2.2.2.1 X.2.2.2.2.2.2.2.2.1 X.2.2.2.2.2.2.2.2.2.1 X.2.2.2.2.2.2.2.2.2.2.1 H locs cells slots 0 0 (F0 (cm X) pc lsr st0) rest (mQc (cY X) G post a) (aZ0 (cY X)))
    (hS : va_S (aZ0 (cY X)) (cs X).heap H locs)
    (kk : ∀ (r : Option MV) (V' : VV) (H' : Heap) (locs' : List Loc), post r V' → (∀ v, r = some v → okv v) → okV V' → Wd (cY X) G V' H' → va_S (aZ0 (cY X)) (cs X).heap H' locs' → WX X H' locs' cells slots (F0 (cm X) (pc + 3) lsr ((r.map (mvv (cY X))).toList ++ rest))) :
    WX X H locs cells slots (F0 (cm X) pc lsr st0) := by
  intro T hT XX
  obtain ⟨v, st₀, t, T', L, h0, X', hL, e1, e2, ⟨⟨r, V', ho, hp, hok, hoV, hW'⟩, hz, hk⟩, go⟩ := hr T hT XX
  cases ho
  rw [h0] at hz hk
  obtain ⟨t2, a1, b1⟩ := kk r V' T'.heap (locs ++ L) hp hok hoV (by rw [e1]; exact hW')
    ⟨Nat.le_trans hS.1 (by rw [e1]; exact hz), fun q h1 h2 => by rw [e1, hk q (Nat.lt_of_lt_of_le h1 hS.1) h2]; exact hS.2.1 q h1 h2, fun q hq => by
      rcases List.mem_append.mp hq with h | h
      · exact hS.2.2 q h
      · exact hL q h⟩ T' rfl X'
  exact ⟨t2, go t2 a1, b1⟩
/-- how much of the stack's room what stays below takes -/
def stk (st : List MV) : Nat := (st.map (fun v => if c1 v then 1 else 2)).sum
theorem stk_cat (Y : Lay) : ∀ st : List MV, ((st.map (mvv Y)).map fun v => v.category).sum = stk st
  | [] => rfl
  | v :: r => by
    have ih := stk_cat Y r
    unfold stk at ih ⊢
    simp only [List.map_cons, List.sum_cons, ih]
    by_cases hc : c1 v = true
    · rw [c1_cat Y hc, if_pos hc]
    · have hc' : c1 v = false := by simpa using hc
      rw [c2_cat Y hc', if_neg hc]
theorem okl_app {a b : List MV} (h : okl (a ++ b)) : okl a ∧ okl b := ⟨fun v hv => h v (List.mem_append_left _ hv), fun v hv => h v (List.mem_append_right _ hv)⟩
theorem okl_rev {a : List MV} (h : okl a.reverse) : okl a := fun v hv => h v (List.mem_reverse.mpr hv)
theorem okl_opt {r : Option MV} {st : List MV} (h : ∀ v, r = some v → okv v) (hs : okl st) : okl (r.toList ++ st) := by
  cases r with
  | none => exact hs
  | some v => exact okl_cons (h v rfl) hs
section CALLS9
variable {X : Cx} {own : String} {cc : ByteArray} {nL fr lo nx : Nat} {G : GS} {pc : Nat} {ls st : List MV} {V : VV}
variable {y : MethodName} {cb : ByteArray} {mL : Nat} {ty : Option FieldType} {fr' lo' idx n : Nat} {as : List MV} {post : Option MV → VV → Prop}
theorem lk_B {X : Cx} {own : String} {cc : ByteArray} {nL fr lo : Nat} (hX : Good X own cc nL fr lo) (h : lk0 own idx y cb mL ty n) (hl : Cond.methodLink own idx y ∈ Gw) (hfr : fr' + 1 ≤ fr) (hlo : 8 + (mL + 11) + lo' ≤ lo) :
    CallB (cR X) (cs X) (ca X) own idx y cb mL ty (.code y cb mL ty :: Gw) ({ frames := fr', cells := 0, slots := 0, locals := lo' } : Room) 0 0 n :=
  callB_of n hX.ts (fun w hw => (List.mem_cons.mp hw).elim (fun e => by rw [e]; exact Gw_good _ h.2.2.1) (Gw_good w)) rfl rfl rfl (hX.ts _ h.2.1) (hX.ts _ hl) h.2.2.2 ⟨by rw [hX.2.2.2.2.2.2.2.1]; exact hfr, by rw [hX.2.2.2.2.2.2.2.2]; exact hlo⟩
theorem lk_N {X : Cx} {own : String} {cc : ByteArray} {nL fr lo : Nat} (hX : Good X own cc nL fr lo) (h : lk0 own idx y cb mL ty n) {host : String} (hl : (own, idx, y, host) ∈ nestM) (hfr : fr' + 1 ≤ fr) (hlo : 8 + (mL + 11) + lo' ≤ lo) :
    va_CN (cR X) (cs X) (ca X) own idx y host cb mL ty (.code y cb mL ty :: Gw) ({ frames := fr', cells := 0, slots := 0, locals := lo' } : Room) 0 0 n :=
  va_cnB n hX.ts (fun w hw => (List.mem_cons.mp hw).elim (fun e => by rw [e]; exact Gw_good _ h.2.2.1) (Gw_good w)) rfl rfl rfl (hX.kk.2.1 _ hl) (hX.ts _ h.2.1) h.2.2.2 ⟨by rw [hX.2.2.2.2.2.2.2.1]; exact hfr, by rw [hX.2.2.2.2.2.2.2.2]; exact hlo⟩
theorem fixX {X : Cx} {own : String} {cc : ByteArray} {nL fr lo : Nat} (hX : Good X own cc nL fr lo) : CallFix (cp X) (cm X) (cc9 X) cc nL (cs X) (ca X) Gw own := ⟨hX.1, hX.2.1, hX.2.2.1, hX.own, hX.ts⟩
theorem roomX {pc : Nat} {lsr : Array Slot} {m : MethodId} {s0 : List Value} {Y : Lay} (h : stk st ≤ 8) : 2 * (F0 m pc lsr s0).monitorRoom + ((st.map (mvv Y)).map fun v => v.category).sum ≤ 8 := lv_room (by rw [stk_cat]; exact h)
/-- A STATIC CALL -/
theorem j_callS (hX : Good X own cc nL fr lo) (hG : gOK nx G) (hc : lkS own idx y cb mL ty n) (hok : Ok nx y cb mL ty fr' lo' as V post) (hn : as.length = n) (hfr : fr' + 1 ≤ fr) (hlo : 8 + (mL + 11) + lo' ≤ lo) (hst : stk st ≤ 8) (hlen : ls.length = nL)
    (hd : decode cc pc = .ok (.invokestatic idx, 3)) (kk : ∀ r V', post r V' → J X G (pc + 3) ls (r.toList ++ st) V') : J X G pc ls (as.reverse ++ st) V := fun h1 h2 h3 H locs lsr hW hS hL => by
  have hoa := okl_rev (okl_app h2).1
  have hos := (okl_app h2).2
  have hM := hok hoa h3 X.2.2.1 (cY X) G hG
  have hp : PreS (cs X) H (mPc (cY X) G as V) (as.map (mvv (cY X))) := ⟨mPc_blind, fun U hU hWU => ⟨rfl, by rw [hU]; exact hW.1, hX.kk.at hS hU hWU⟩⟩
  have hf : G.2.2.1 + 0 ≤ (cR X).cells ∧ G.2.2.2 + 0 ≤ (cR X).slots := hW.2
  have hsz : lsr.size = nL := hL.1.trans hlen
  have hstk : (as.reverse ++ st).map (mvv (cY X)) = (as.map (mvv (cY X))).reverse ++ st.map (mvv (cY X)) := by rw [List.map_append, List.map_reverse]
  rw [hstk]
  have fin : ∀ (r : Option MV) (V' : VV) (H' : Heap) (locs' : List Loc), post r V' → (∀ v, r = some v → okv v) → okV V' → Wd (cY X) G V' H' → va_S (aZ0 (cY X)) (cs X).heap H' locs' → WX X H' locs' G.2.2.1 G.2.2.2 (F0 (cm X) (pc + 3) lsr ((r.map (mvv (cY X))).toList ++ st.map (mvv (cY X)))) := by
    intro r V' H' locs' p1 p2 p3 p4 p5
    have := kk r V' p1 h1 (okl_opt p2 hos) p3 H' locs' lsr ⟨p4, hW.2⟩ p5 hL
    rw [List.map_append] at this
    cases r with
    | none => exact this
    | some v => exact this
  obtain ⟨h0, hstat⟩ := hc
  rcases h0.1 with hl | ⟨host, hl⟩
  · exact j_after (va_runS (fixX hX) hM ⟨lk_B hX h0 hl hfr hlo, hX.ts _ hstat⟩ hp rfl (by rw [List.length_map]; exact hn) hsz rfl (roomX hst) hd hf) hS fin
  · exact j_after (va_runSN (fixX hX) hM ⟨lk_N hX h0 hl hfr hlo, hX.ts _ hstat, trivial⟩ hp rfl (by rw [List.length_map]; exact hn) hsz rfl (roomX hst) hd hf) hS fin
theorem recvA {H : Heap} {k : Int} {ci : Nat} {C : String} {T : u_T} {N : Nat} (hX : Good X own cc nL fr lo) (hG : gOK nx G) (hW : Wd (cY X) G V H) (ho : ob nx k ci) (hcl : vwCl[ci]? = some (C, T, N)) : ∃ cellB : Cell, H[adr (cY X) k]? = some cellB ∧ cellB.vm.isStatics = false ∧ (cs X).vm.findClass C = some cellB.cls := by
  have hat := hW.at hG ho.1 ho.2.1
  rw [cel_ob ho.2.2] at hat
  exact va_recv hX.k (one_P hat) hcl (q0 := 0) rfl
/-- A CALL OF AN OBJECT'S METHOD, whatever it is -/
theorem j_callV0 {b : MV} (hX : Good X own cc nL fr lo) (hG : gOK nx G) (hc : lkV own idx y cb mL ty n) (hok : Ok nx y cb mL ty fr' lo' (b :: as) V post) (hn : as.length = n) (hfr : fr' + 1 ≤ fr) (hlo : 8 + (mL + 11) + lo' ≤ lo) (hst : stk st ≤ 8) (hlen : ls.length = nL)
    (hrecv : ∀ (H : Heap) (locs : List Loc), Wd (cY X) G V H → va_S (aZ0 (cY X)) (cs X).heap H locs → ∃ a : Nat, mvv (cY X) b = .ref a ∧ ∃ cellB : Cell, H[a]? = some cellB ∧ cellB.vm.isStatics = false ∧ (cs X).vm.findClass y.cls = some cellB.cls)
    (hd : decode cc pc = .ok (.invokevirtual idx, 3)) (kk : ∀ r V', post r V' → J X G (pc + 3) ls (r.toList ++ st) V') : J X G pc ls (as.reverse ++ b :: st) V := fun h1 h2 h3 H locs lsr hW hS hL => by
  have hoa := okl_rev (okl_app h2).1
  have hob := okl_hd (okl_app h2).2
  have hos := okl_tl (okl_app h2).2
  have hM := hok (okl_cons hob hoa) h3 X.2.2.1 (cY X) G hG
  obtain ⟨a, ea, hcell⟩ := hrecv H locs hW.1 hS
  have hp : PreV (cs X) H y.cls a (mPc (cY X) G (b :: as) V) (as.map (mvv (cY X))) := ⟨mPc_blind, hcell, fun U hU hWU => ⟨by rw [List.map_cons, ea], by rw [hU]; exact hW.1, hX.kk.at hS hU hWU⟩⟩
  have hf : G.2.2.1 + 0 ≤ (cR X).cells ∧ G.2.2.2 + 0 ≤ (cR X).slots := hW.2
  have hsz : lsr.size = nL := hL.1.trans hlen
  have hstk : (as.reverse ++ b :: st).map (mvv (cY X)) = (as.map (mvv (cY X))).reverse ++ .ref a :: st.map (mvv (cY X)) := by rw [List.map_append, List.map_reverse, List.map_cons, ea]
  rw [hstk]
  have fin : ∀ (r : Option MV) (V' : VV) (H' : Heap) (locs' : List Loc), post r V' → (∀ v, r = some v → okv v) → okV V' → Wd (cY X) G V' H' → va_S (aZ0 (cY X)) (cs X).heap H' locs' → WX X H' locs' G.2.2.1 G.2.2.2 (F0 (cm X) (pc + 3) lsr ((r.map (mvv (cY X))).toList ++ st.map (mvv (cY X)))) := by
    intro r V' H' locs' p1 p2 p3 p4 p5
    have := kk r V' p1 h1 (okl_opt p2 hos) p3 H' locs' lsr ⟨p4, hW.2⟩ p5 hL
    rw [List.map_append] at this
    cases r with
    | none => exact this
    | some v => exact this
  obtain ⟨h0, hins, hsel⟩ := hc
  rcases h0.1 with hl | ⟨host, hl⟩
  · exact j_after (va_runV (C := y.cls) (fixX hX) hM ⟨lk_B hX h0 hl hfr hlo, hX.ts _ hins, hX.ts _ hsel⟩ hp rfl (by rw [List.length_map]; exact hn) hsz rfl (roomX hst) hd hf) hS fin
  · exact j_after (va_runVN (C := y.cls) (fixX hX) hM ⟨lk_N hX h0 hl hfr hlo, hX.ts _ hins, hX.ts _ hsel⟩ hp rfl (by rw [List.length_map]; exact hn) hsz rfl (roomX hst) hd hf) hS fin
theorem j_callV {k : Int} {ci : Nat} {T : u_T} {N : Nat} (hX : Good X own cc nL fr lo) (hG : gOK nx G) (hc : lkV own idx y cb mL ty n) (hok : Ok nx y cb mL ty fr' lo' (vA k :: as) V post) (ho : ob nx k ci) (hcl : vwCl[ci]? = some (y.cls, T, N)) (hn : as.length = n) (hfr : fr' + 1 ≤ fr) (hlo : 8 + (mL + 11) + lo' ≤ lo) (hst : stk st ≤ 8) (hlen : ls.length = nL)
    (hd : decode cc pc = .ok (.invokevirtual idx, 3)) (kk : ∀ r V', post r V' → J X G (pc + 3) ls (r.toList ++ st) V') : J X G pc ls (as.reverse ++ vA k :: st) V :=
  j_callV0 hX hG hc hok hn hfr hlo hst hlen (fun H locs hW _ => ⟨adr (cY X) k, rfl, recvA hX hG hW ho hcl⟩) hd kk
/-- of a String constant -/
theorem j_callVs {k : Int} {q : String × Nat × String × List Int} (hX : Good X own cc nL fr lo) (hG : gOK nx G) (hc : lkV own idx y cb mL ty n) (hok : Ok nx y cb mL ty fr' lo' (vS k :: as) V post) (hq : strs[k.toNat]? = some q) (hy : y.cls = "java/lang/String") (hn : as.length = n) (hfr : fr' + 1 ≤ fr) (hlo : 8 + (mL + 11) + lo' ≤ lo) (hst : stk st ≤ 8) (hlen : ls.length = nL)
    (hd : decode cc pc = .ok (.invokevirtual idx, 3)) (kk : ∀ r V', post r V' → J X G (pc + 3) ls (r.toList ++ st) V') : J X G pc ls (as.reverse ++ vS k :: st) V :=
  j_callV0 hX hG hc hok hn hfr hlo hst hlen (fun H locs _ hS => by
    obtain ⟨cell, g1, g2, g3, -⟩ := (hX.kk.2.2.1 _ _ hq).2.1.kept hS.2.1
    exact ⟨_, rfl, cell, g1, g2, by rw [hy]; exact g3⟩) hd kk
end CALLS9
