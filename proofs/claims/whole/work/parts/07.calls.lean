def entA : List MV → List MV
  | [] => []
  | v :: r => if c1 v then v :: entA r else v :: vU :: entA r
def entL (as : List MV) (n : Nat) : List MV := entA as ++ List.replicate (n - (entA as).length) vU
theorem c2_cat {v : MV} (Y : Lay) (h : c1 v = false) : (mvv Y v).category = 2 := by
  obtain ⟨t, x⟩ := v
  have h' : t = 1 ∨ t = 4 := by
    by_cases h1 : t = 1
    · exact Or.inl h1
    · by_cases h4 : t = 4
      · exact Or.inr h4
      · simp [c1, h1, h4] at h
  rcases h' with rfl | rfl <;> rfl
theorem ent_len (Y : Lay) : ∀ as : List MV, (lg_sl (as.map (mvv Y))).length = (entA as).length
  | [] => rfl
  | v :: r => by
    have ih := ent_len Y r
    unfold lg_sl at ih ⊢
    rw [List.map_cons, List.flatMap_cons, List.length_append, ih]
    by_cases hc : c1 v = true
    · rw [if_neg (by rw [c1_cat Y hc]; decide)]
      simp [entA, hc]; omega
    · have hc' : c1 v = false := by simpa using hc
      rw [if_pos (c2_cat Y hc')]
      simp [entA, hc']; omega
theorem ent_mem (Y : Lay) : ∀ (as : List MV) (i j : Nat) (v : MV), (entA as)[j]? = some v → v.1 ≠ 9 → (i + j, mvv Y v) ∈ lv_args i (as.map (mvv Y))
  | [], _, _, _, h, _ => by simp [entA] at h
  | w :: r, i, j, v, h, h9 => by
    by_cases hc : c1 w = true
    · have he : entA (w :: r) = w :: entA r := by simp [entA, hc]
      rw [he] at h
      show _ ∈ (i, mvv Y w) :: lv_args (if (mvv Y w).category = 2 then i + 2 else i + 1) (r.map (mvv Y))
      rw [if_neg (by rw [c1_cat Y hc]; decide)]
      cases j with
      | zero =>
        rw [List.getElem?_cons_zero] at h
        cases h
        exact List.mem_cons_self
      | succ j =>
        rw [List.getElem?_cons_succ] at h
        have := ent_mem Y r (i + 1) j v h h9
        rw [show i + 1 + j = i + (j + 1) by omega] at this
        exact List.mem_cons_of_mem _ this
    · have hc' : c1 w = false := by simpa using hc
      have he : entA (w :: r) = w :: vU :: entA r := by simp [entA, hc']
      rw [he] at h
      show _ ∈ (i, mvv Y w) :: lv_args (if (mvv Y w).category = 2 then i + 2 else i + 1) (r.map (mvv Y))
      rw [if_pos (c2_cat Y hc')]
      match j, h with
      | 0, h =>
        rw [List.getElem?_cons_zero] at h
        cases h
        exact List.mem_cons_self
      | 1, h =>
        rw [List.getElem?_cons_succ, List.getElem?_cons_zero] at h
        cases h
        exact absurd rfl h9
      | j + 2, h =>
        rw [List.getElem?_cons_succ, List.getElem?_cons_succ] at h
        have := ent_mem Y r (i + 2) j v h h9
        rw [show i + 2 + j = i + (j + 2) by omega] at this
        exact List.mem_cons_of_mem _ this
theorem ent_okl : ∀ as : List MV, okl as → okl (entA as)
  | [], _ => fun v h => by simp [entA] at h
  | w :: r, h => by
    have ih := ent_okl r (okl_tl h)
    by_cases hc : c1 w = true
    · rw [show entA (w :: r) = w :: entA r by simp [entA, hc]]
      exact okl_cons (okl_hd h) ih
    · rw [show entA (w :: r) = w :: vU :: entA r by simp [entA, hc]]
      exact okl_cons (okl_hd h) (okl_cons okU ih)
theorem entL_okl {as : List MV} {n : Nat} (h : okl as) : okl (entL as n) := fun v hv => (List.mem_append.mp hv).elim (ent_okl as h v) (fun q => by rw [List.eq_of_mem_replicate q]; exact okU)
theorem ent_lvh (Y : Lay) {as : List MV} {n : Nat} (hn : (entA as).length ≤ n) : lvh Y ((lg_sl (as.map (mvv Y)) ++ List.replicate (n - (lg_sl (as.map (mvv Y))).length) Slot.unset).toArray) (entL as n) := by
  have h := lv_entry (as.map (mvv Y)) (n := n) (by rw [ent_len]; exact hn)
  refine ⟨?_, h.2.1, fun i v hi h9 => ?_⟩
  · rw [h.1]
    simp [entL]
    omega
  · have h1 : (entA as)[i]? = some v := by
      unfold entL at hi
      by_cases hl : i < (entA as).length
      · rwa [List.getElem?_append_left hl] at hi
      · rw [List.getElem?_append_right (by omega)] at hi
        have := List.eq_of_mem_replicate (List.mem_of_getElem? hi)
        rw [this] at h9
        exact absurd rfl h9
    have h2 := ent_mem Y as 0 i v h1 h9
    rw [Nat.zero_add] at h2
    exact h.2.2 _ h2
/-- how a method may end: the returning instruction, the type, what is on the stack -/
def retOK (cc : ByteArray) (pc : Nat) (ty : Option FieldType) (r : Option MV) : Prop := match r with
  | none => ty = none ∧ decode cc pc = .ok (.return_, 1)
  | some v => (v.1 = 0 ∧ decode cc pc = .ok (.ireturn, 1) ∧ ∃ t, ty = some t ∧ narrow t (.int (Int32.ofInt v.2)) = .int (Int32.ofInt v.2)) ∨ (v.1 = 1 ∧ decode cc pc = .ok (.lreturn, 1) ∧ ty = some .long) ∨
    (v.1 = 4 ∧ decode cc pc = .ok (.dreturn, 1) ∧ ty = some .double) ∨ (v.1 = 2 ∧ decode cc pc = .ok (.areturn, 1) ∧ ∃ C, ty = some (.object C))
def Ret (X : Cx) (cc : ByteArray) (ty : Option FieldType) (G : GS) (RP : Option MV → VV → Prop) : Prop :=
  ∀ (pc : Nat) (r : Option MV) (V : VV) (H : Heap) (locs : List Loc) (lsr : Array Slot), RP r V → (∀ v, r = some v → okv v) → okV V → Wx X G V H → va_S (aZ0 (cY X)) (cs X).heap H locs → retOK cc pc ty r →
    WX X H locs G.2.2.1 G.2.2.2 (F0 (cm X) pc lsr (r.map (mvv (cY X))).toList)
def mPc (Y : Lay) (G : GS) (as : List MV) (V : VV) : Array Value → State → Prop := fun v U => v = (as.map (mvv Y)).toArray ∧ Wd Y G V U.heap ∧ KK Y U
def mQc (Y : Lay) (G : GS) (post : Option MV → VV → Prop) : Array Value → State → Outcome → State → Prop := fun _ st o t =>
  (∃ (r : Option MV) (V' : VV), o = .returned (r.map (mvv Y)) ∧ post r V' ∧ (∀ v, r = some v → okv v) ∧ okV V' ∧ Wd Y G V' t.heap) ∧ va_F (aZ0 Y) st t
/-- A METHOD'S CONTRACT, that makes nothing and throws nothing: from arguments as and numbers V it returns, and 'post' holds -/
def Ok (nx : Nat) (y : MethodName) (cb : ByteArray) (mL : Nat) (ty : Option FieldType) (fr lo : Nat) (as : List MV) (V : VV) (post : Option MV → VV → Prop) : Prop :=
  okl as → okV V → ∀ (l : Launch) (Y : Lay) (G : GS), gOK nx G → Met l y (.code y cb mL ty :: Gw) ({ frames := fr, cells := 0, slots := 0, locals := lo } : Room) (mPc Y G as V) (mQc Y G post) 0 0 (aZ0 Y)
/-- a contract out of the walk of its body; the method's own name says that no entry runs in its bytecode's place -/
theorem Met.ofWF {l : Launch} {y : MethodName} {ws ws' : List Cond} {rm : Room} {Pc : Array Value → State → Prop} {Qc : Array Value → State → Outcome → State → Prop} {mc ms : Nat} {free : Addr → Prop} {cc : ByteArray} {maxL : Nat} {ret : Option FieldType}
    (hy : plainFor y = true) (hw : ws = Cond.code y cc maxL ret :: ws')
    (body : ∀ p e s m args below meth c s₁, BodyLoose p l y (headSpec ws rm) cc maxL ret e s m args below meth c s₁ → c.maxLocals = maxL → Pc args s →
      W p l e (headSpec ws rm).room s m args below meth c s.heap [] 0 0 (MQ below Qc args s mc ms free) (entryFrame m args maxL)) : Met l y ws rm Pc Qc mc ms free := by
  refine MetFree.of_bodySF (code := cc) (maxLocals := maxL) (ret := ret) hy ?_ ?_
  · intro args s m h hn
    obtain ⟨meth, c, h1, h2, h3, h4, h5, h6, -, -⟩ := Cond.code_spec hn (atoms_spec (ws := ws) h _ (by rw [hw]; exact List.mem_cons_self))
    exact ⟨meth, c, h1, h2, h3, h4, h5, h6⟩
  · intro p e s m args below meth c s₁ B hml hP _
    have hh0 : s₁.heap = s.heap := by rw [B.state]; rfl
    obtain ⟨t, a1, o, b1, b2, b3⟩ := body p e s m args below meth c s₁ B hml hP s₁ hh0 (Stand.of_body B)
    exact ⟨t, o, a1, b1, b2, ⟨b3.1, b3.2⟩⟩
theorem Ok.intro {nx : Nat} {y : MethodName} {cb : ByteArray} {mL : Nat} {ty : Option FieldType} {fr lo : Nat} {as : List MV} {V : VV} {post : Option MV → VV → Prop} (hy : plainFor y = true) (hlen : (entA as).length ≤ mL)
    (body : ∀ (X : Cx) (G : GS), Good X y.cls cb mL fr lo → gOK nx G → Ret X cb ty G post → okl as → okV V → J X G 0 (entL as mL) [] V) : Ok nx y cb mL ty fr lo as V post := by
  intro hoa hoV l Y G0 hG
  refine Met.ofWF (cc := cb) (maxL := mL) (ret := ty) hy rfl ?_
  intro p e s m args below meth c s₁ B hml hv
  obtain ⟨rfl, hW, hK⟩ := hv
  have hts := atoms_spec (ws := .code y cb mL ty :: Gw) B.pre
  have hret := B.returns
  have hlocks : meth.locks = false := B.notSynchronized
  have hx := B.exec
  have hbb := B.bytes
  have key := body (Y, p, l, e, ({ frames := fr, cells := 0, slots := 0, locals := lo } : Room), s, m, (as.map (mvv Y)).toArray, below, meth, c, MQ below (mQc Y G0 post) (as.map (mvv Y)).toArray s 0 0 (aZ0 Y)) (G0.1, G0.2.1, 0, 0)
    ⟨hx, hbb, hml, findClass_of_methodNamed B.named, fun w hw => hts w (List.mem_cons_of_mem _ hw), hK, hlocks, rfl, rfl⟩ hG ?_ hoa hoV
  · have h9 := key (entL_okl hoa) (fun _ h => by cases h) hoV s.heap [] _ ⟨hW, Nat.le_refl _, Nat.le_refl _⟩ va_S.rf (ent_lvh Y hlen)
    rw [lg_entry_eq]
    exact h9
  · intro pc r V' H locs lsr hp hok hoV' hW' hS hr
    have hWd : Wd Y G0 V' H := hW'.1
    have hF : ∀ t : State, t.heap = H → va_F (aZ0 Y) s t := fun t ht => hS.F ht
    have hl : ∀ q ∈ locs, aZ0 Y q.base := hS.2.2
    cases r with
    | none => exact W.vret hx hbb (by rw [hret]; exact hr.1) (fun t ht _ => ⟨⟨none, V', rfl, hp, hok, hoV', by rw [ht]; exact hWd⟩, hF t ht⟩) hl hr.2 hlocks
    | some v =>
      obtain ⟨tg, x⟩ := v
      rcases hr with ⟨rfl, hd, t, ht, hn⟩ | ⟨rfl, hd, ht⟩ | ⟨rfl, hd, ht⟩ | ⟨rfl, hd, C, ht⟩
      · exact W.zret hx hbb (by rw [hret]; exact ht) hn (fun t ht _ => ⟨⟨some (0, x), V', rfl, hp, hok, hoV', by rw [ht]; exact hWd⟩, hF t ht⟩) hl hd hlocks
      · exact W.lret hx hbb (by rw [hret]; exact ht) (fun t ht _ => ⟨⟨some (1, x), V', rfl, hp, hok, hoV', by rw [ht]; exact hWd⟩, hF t ht⟩) hl hd hlocks
      · exact W.dret hx hbb (by rw [hret]; exact ht) (fun t ht _ => ⟨⟨some (4, x), V', rfl, hp, hok, hoV', by rw [ht]; exact hWd⟩, hF t ht⟩) hl hd hlocks
      · exact W.aret hx hbb (by rw [hret]; exact ht) (Or.inl ⟨C, rfl⟩) (Or.inr ⟨_, rfl⟩) (fun t ht _ => ⟨⟨some (2, x), V', rfl, hp, hok, hoV', by rw [ht]; exact hWd⟩, hF t ht⟩) hl hd hlocks
theorem Ok.mono {nx : Nat} {y : MethodName} {cb : ByteArray} {mL : Nat} {ty : Option FieldType} {fr lo : Nat} {as : List MV} {V : VV} {post post' : Option MV → VV → Prop} (h : Ok nx y cb mL ty fr lo as V post) (hp : ∀ r V', post r V' → post' r V') : Ok nx y cb mL ty fr lo as V post' := by
  intro hoa hoV l Y G hG
  have h1 := h hoa hoV l Y G hG
  intro p e a1 a2 a3 s m args below a4 a5 a6 a7
  obtain ⟨k, o, b1, b2, b3, ⟨⟨r, V', c1, c2, c3⟩, c4⟩, b5⟩ := h1 p e a1 a2 a3 s m args below a4 a5 a6 a7
  exact ⟨k, o, b1, b2, b3, ⟨⟨r, V', c1, hp _ _ c2, c3⟩, c4⟩, b5⟩
/-- typed ends -/
def pI (P : Int → VV → Prop) : Option MV → VV → Prop := fun r V => ∃ x, r = some (vI x) ∧ P x V
def pL (P : Int → VV → Prop) : Option MV → VV → Prop := fun r V => ∃ x, r = some (vL x) ∧ P x V
def pD (P : Int → VV → Prop) : Option MV → VV → Prop := fun r V => ∃ x, r = some (vD x) ∧ P x V
def pA (P : Int → VV → Prop) : Option MV → VV → Prop := fun r V => ∃ x, r = some (vA x) ∧ P x V
def pV (P : VV → Prop) : Option MV → VV → Prop := fun r V => r = none ∧ P V
theorem nar_int (x : Int32) : narrow .int (.int x) = .int x := rfl
theorem nar_bool {x : Int} (h : x = 0 ∨ x = 1) : narrow .boolean (.int (Int32.ofInt x)) = .int (Int32.ofInt x) := by rcases h with rfl | rfl <;> rfl
section RETS
variable {X : Cx} {own : String} {cc : ByteArray} {nL fr lo : Nat} {G : GS} {pc : Nat} {ls : List MV} {V : VV} {P : Int → VV → Prop}
theorem j_retI {x : Int} (hR : Ret X cc (some .int) G (pI P)) (hd : decode cc pc = .ok (.ireturn, 1)) (hp : P x V) : J X G pc ls [vI x] V := fun h1 h2 h3 H locs lsr hW hS hL =>
  hR pc (some (vI x)) V H locs lsr ⟨x, rfl, hp⟩ (fun v e => by cases e; exact okl_hd h2) h3 hW hS (Or.inl ⟨rfl, hd, _, rfl, nar_int _⟩)
theorem j_retZ {x : Int} (hR : Ret X cc (some .boolean) G (pI P)) (hd : decode cc pc = .ok (.ireturn, 1)) (hx : x = 0 ∨ x = 1) (hp : P x V) : J X G pc ls [vI x] V := fun h1 h2 h3 H locs lsr hW hS hL =>
  hR pc (some (vI x)) V H locs lsr ⟨x, rfl, hp⟩ (fun v e => by cases e; exact okl_hd h2) h3 hW hS (Or.inl ⟨rfl, hd, _, rfl, nar_bool hx⟩)
theorem j_retN {x : Int} {t : FieldType} (hR : Ret X cc (some t) G (pI P)) (hd : decode cc pc = .ok (.ireturn, 1)) (hx : narrow t (.int (Int32.ofInt x)) = .int (Int32.ofInt x)) (hp : P x V) : J X G pc ls [vI x] V := fun h1 h2 h3 H locs lsr hW hS hL =>
  hR pc (some (vI x)) V H locs lsr ⟨x, rfl, hp⟩ (fun v e => by cases e; exact okl_hd h2) h3 hW hS (Or.inl ⟨rfl, hd, _, rfl, hx⟩)
theorem j_retL {x : Int} (hR : Ret X cc (some .long) G (pL P)) (hd : decode cc pc = .ok (.lreturn, 1)) (hp : P x V) : J X G pc ls [vL x] V := fun h1 h2 h3 H locs lsr hW hS hL =>
  hR pc (some (vL x)) V H locs lsr ⟨x, rfl, hp⟩ (fun v e => by cases e; exact okl_hd h2) h3 hW hS (Or.inr (Or.inl ⟨rfl, hd, rfl⟩))
theorem j_retD {x : Int} (hR : Ret X cc (some .double) G (pD P)) (hd : decode cc pc = .ok (.dreturn, 1)) (hp : P x V) : J X G pc ls [vD x] V := fun h1 h2 h3 H locs lsr hW hS hL =>
  hR pc (some (vD x)) V H locs lsr ⟨x, rfl, hp⟩ (fun v e => by cases e; exact okl_hd h2) h3 hW hS (Or.inr (Or.inr (Or.inl ⟨rfl, hd, rfl⟩)))
theorem j_retA {x : Int} {C : String} (hR : Ret X cc (some (.object C)) G (pA P)) (hd : decode cc pc = .ok (.areturn, 1)) (hp : P x V) : J X G pc ls [vA x] V := fun h1 h2 h3 H locs lsr hW hS hL =>
  hR pc (some (vA x)) V H locs lsr ⟨x, rfl, hp⟩ (fun v e => by cases e; exact okl_hd h2) h3 hW hS (Or.inr (Or.inr (Or.inr ⟨rfl, hd, _, rfl⟩)))
theorem j_ret {Pv : VV → Prop} (hR : Ret X cc none G (pV Pv)) (hd : decode cc pc = .ok (.return_, 1)) (hp : Pv V) : J X G pc ls [] V := fun h1 h2 h3 H locs lsr hW hS hL =>
  hR pc none V H locs lsr ⟨rfl, hp⟩ (fun v e => by cases e) h3 hW hS ⟨rfl, hd⟩
end RETS
