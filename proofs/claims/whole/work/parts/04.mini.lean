/-- the String constants that are read: class, place, text, bytes -/
def strs : List (String × Nat × String × List Int) := [("GroupAutomaton$Loader", 103, "klein", [107, 108, 101, 105, 110]), ("GroupAutomaton$Loader", 108, "sym", [115, 121, 109]), ("GroupAutomaton$Loader", 113, "cyclic", [99, 121, 99, 108, 105, 99]), ("GroupAutomaton$Loader", 125, "width", [119, 105, 100, 116, 104]), ("GroupAutomaton$Loader", 131, "word", [119, 111, 114, 100]), ("GroupAutomaton$Loader", 156, "case", [99, 97, 115, 101]), ("GroupAutomaton$Loader", 173, "ring", [114, 105, 110, 103]), ("GroupAutomatonModel", 241, "cyclic", [99, 121, 99, 108, 105, 99]), ("GroupAutomatonModel", 243, "klein", [107, 108, 101, 105, 110]), ("GroupAutomatonModel", 245, "sym", [115, 121, 109]), ("GroupAutomatonModel", 253, "a", [97]), ("GroupAutomatonModel", 255, "b", [98]), ("GroupAutomatonModel", 257, "c", [99]), ("GroupAutomatonModel", 259, "word", [119, 111, 114, 100]), ("GroupAutomatonModel", 272, "case", [99, 97, 115, 101]), ("GroupAutomatonModel", 274, "ring", [114, 105, 110, 103]), ("GroupAutomatonModel", 278, "width", [119, 105, 100, 116, 104])]
/-- the texts of exceptions -/
def msgs : List (String × Nat × String) := [("GroupAutomaton", 120, "the text would be too long"), ("GroupAutomaton", 130, "no such length"), ("GroupAutomaton", 139, "the text has an error"), ("GroupAutomaton", 178, "no such element"), ("GroupAutomaton", 197, "what is out of range"), ("GroupAutomaton", 203, "the set contains something that is no element"), ("GroupAutomaton", 215, "no such state"), ("GroupAutomaton", 256, "there is no diamond"), ("GroupAutomaton", 262, "there is no inverse rule"), ("GroupAutomaton", 273, "no such word"), ("GroupAutomaton", 280, "no such row or state"), ("GroupAutomaton", 282, "part is out of range"), ("GroupAutomaton", 288, "no such row"), ("GroupAutomaton", 295, "no such cell"), ("GroupAutomaton", 314, "there is no such ring"), ("GroupAutomaton", 320, "no ring comes twice soon enough"), ("GroupAutomaton", 328, "no such size"), ("GroupAutomaton", 336, "steps is out of range"), ("GroupAutomaton", 349, "the inverse rule has no state for a word"), ("GroupAutomaton", 351, "no such cell or state"), ("GroupAutomaton", 356, "the ring is full"), ("GroupAutomaton", 364, "no such slot"), ("GroupAutomaton", 370, "the slot is empty"), ("GroupAutomaton", 372, "the ring in the slot has another size"), ("GroupAutomaton", 374, "there is nothing to undo")]
def nestM : List (String × Nat × MethodName × String) := tables_1.filterMap (fun w => match w with
  | .methodLinkNest a i x h => some (a, i, x, h)
  | _ => none)
def Gw : List Cond := lw_tbl.filter goodWord
theorem Gw_good : GoodIn Gw Gw := fun w h => ⟨h, good_of_word (List.mem_filter.mp h).2⟩
theorem inGw {w : Cond} (h : w ∈ lw_tbl) (hg : goodWord w = true) : w ∈ Gw := List.mem_filter.mpr ⟨h, hg⟩
/-- a String constant: where it stands, what it holds -/
def KS (Y : Lay) (i : Nat) (q : String × Nat × String × List Int) (U : State) : Prop :=
  vk_R q.1 q.2.1 q.2.2.1 (yK Y i) U ∧ va_O "java/lang/String" (yK Y i) (aZ0 Y) U U.heap ∧ va_OF "java/lang/String" "coder" "B" (.int 0) (yK Y i) (aZ0 Y) U U.heap ∧
  va_OF "java/lang/String" "value" "[B" (.ref (yV Y i)) (yK Y i) (aZ0 Y) U U.heap ∧ va_T .byte (yV Y i) q.2.2.2.length (fun j => .int (Int32.ofInt (q.2.2.2.getD j 0))) (aZ0 Y) U U.heap
/-- what stands below the world and never changes -/
def KK (Y : Lay) (U : State) : Prop :=
  va_K (yD Y) vwCl [(yI Y, .int), (yL Y, .long), (yZ Y, .boolean)] U ∧
  (∀ q ∈ nestM, va_Nw (.methodLinkNest q.1 q.2.1 q.2.2.1 q.2.2.2) U) ∧
  (∀ (i : Nat) (q : String × Nat × String × List Int), strs[i]? = some q → KS Y i q U) ∧
  (va_Z "java/lang/String" "COMPACT_STRINGS" "Z" (.int 1) (aZ0 Y) U U.heap ∧ va_Zq "jdk/internal/util/Preconditions" "SIOOBE_FORMATTER" "Ljava/util/function/BiFunction;" (aZ0 Y) U U.heap) ∧
  (va_Z "GroupAutomaton$Group" "IMAGES" "[I" (.ref (yim Y)) (aZ0 Y) U U.heap ∧ va_T .int (yim Y) 18 (fun j => .int (Int32.ofInt (imgs.getD j 0))) (aZ0 Y) U U.heap) ∧
  (∀ q ∈ msgs, ∃ a : Nat, vk_R q.1 q.2.1 q.2.2 a U) ∧
  vx_Zq Bundle.tN "UNASSIGNED_STACK" Bundle.steD (aZ0 Y) U U.heap ∧ vx_Zq Bundle.tN "SUPPRESSED_SENTINEL" Bundle.listD (aZ0 Y) U U.heap ∧
  va_X (yb Y) (yLn Y) (yX Y) U U.heap ∧ yb Y < yz Y ∧ yz Y ≤ U.heap.size
theorem KK.go {Y : Lay} {s U : State} (h : KK Y s) (hW : s.WarmedH U.vm) (hz : s.heap.size ≤ U.heap.size) (hq : ∀ q : Nat, q < s.heap.size → ¬ aZ0 Y q → U.heap[q]? = s.heap[q]?) : KK Y U := by
  obtain ⟨h1, h2, h3, ⟨h4, h4'⟩, ⟨h5, h5'⟩, h6, h7, h8, h9, h10, h11⟩ := h
  have al := hW.alike
  refine ⟨va_K.moved al h1, fun q hq' => va_Nw.warmM hW (h2 q hq'), fun i q e => ?_, ⟨va_Z.moved al (h4.kept hq), va_Zq.moved al (h4'.kept hq)⟩, ⟨va_Z.moved al (h5.kept hq), va_T.moved al (h5'.kept hq)⟩, fun q hq' => ?_, vx_Zq.moved al (h7.kept hq), vx_Zq.moved al (h8.kept hq), ?_, h10, by omega⟩
  · obtain ⟨a1, a2, a3, a4, a5⟩ := h3 i q e
    exact ⟨a1.warm hW, va_O.moved al (a2.kept hq), va_OF.moved al (a3.kept hq), va_OF.moved al (a4.kept hq), va_T.moved al (a5.kept hq)⟩
  · obtain ⟨a, ha⟩ := h6 q hq'
    exact ⟨a, ha.warm hW⟩
  · refine va_X.moved al (h9.kept ?_)
    have : ¬ aZ0 Y (yb Y) := by show ¬ yz Y ≤ yb Y; omega
    exact hq _ (by omega) this
/-- the machine's standing things: layout, program, launch, environment, room, start, method, arguments, frames below, method's record, code, goal -/
abbrev Cx : Type := Lay × Program × Launch × Env × Room × State × MethodId × Array Value × List Frame × Method × Code × (State → Prop)
abbrev cY (X : Cx) : Lay := X.1
abbrev cR (X : Cx) : Room := X.2.2.2.2.1
abbrev cs (X : Cx) : State := X.2.2.2.2.2.1
abbrev cm (X : Cx) : MethodId := X.2.2.2.2.2.2.1
abbrev cc9 (X : Cx) : Code := X.2.2.2.2.2.2.2.2.2.2.1
abbrev cme (X : Cx) : Method := X.2.2.2.2.2.2.2.2.2.1
abbrev ca (X : Cx) : Array Value := X.2.2.2.2.2.2.2.1
abbrev cp (X : Cx) : Program := X.2.1
abbrev WX (X : Cx) (H : Heap) (locs : List Loc) (cells slots : Nat) (g : JFrame) : Prop :=
  W X.2.1 X.2.2.1 X.2.2.2.1 X.2.2.2.2.1 X.2.2.2.2.2.1 X.2.2.2.2.2.2.1 X.2.2.2.2.2.2.2.1 X.2.2.2.2.2.2.2.2.1 X.2.2.2.2.2.2.2.2.2.1 X.2.2.2.2.2.2.2.2.2.2.1 H locs cells slots X.2.2.2.2.2.2.2.2.2.2.2 g
/-- the locals, by place; what is vU isn't known -/
def lvh (Y : Lay) (lsr : Array Slot) (ls : List MV) : Prop := lsr.size = ls.length ∧ lv_wf lsr ∧ ∀ (i : Nat) (v : MV), ls[i]? = some v → v.1 ≠ 9 → lsr[i]? = some (.val (mvv Y v))
/-- the world, and that what the method has made so far fits its room -/
def Wx (X : Cx) (G : GS) (V : VV) (H : Heap) : Prop := Wd (cY X) G V H ∧ G.2.2.1 ≤ (cR X).cells ∧ G.2.2.2 ≤ (cR X).slots
/-- THE JUDGEMENT: from place pc, with locals ls, stack st and numbers V, the machine comes to its goal -/
def J (X : Cx) (G : GS) (pc : Nat) (ls st : List MV) (V : VV) : Prop :=
  okl ls → okl st → okV V → ∀ (H : Heap) (locs : List Loc) (lsr : Array Slot), Wx X G V H → va_S (aZ0 (cY X)) (cs X).heap H locs → lvh (cY X) lsr ls →
    WX X H locs G.2.2.1 G.2.2.2 (F0 (cm X) pc lsr (st.map (mvv (cY X))))
/-- a method's frame is good: own class, bytes, locals, frames and locals of room -/
def Good (X : Cx) (own : String) (cc : ByteArray) (nL fr lo : Nat) : Prop :=
  (cp X).tables.exec = Jvm.exec ∧ (cc9 X).code = cc ∧ (cc9 X).maxLocals = nL ∧ (cs X).vm.findClass own = some (cm X).cls ∧ (∀ w ∈ Gw, w.before (ca X) (cs X) = true) ∧ KK (cY X) (cs X) ∧ (cme X).locks = false ∧ (cR X).frames = fr ∧ (cR X).locals = lo
theorem i32v {x : Int} (h : r32 x) : (Int32.ofInt x).toInt = x := Int32.toInt_ofInt_of_le (by have := h.1; omega) (by have := h.2; omega)
theorem i64v {x : Int} (h : r64 x) : (Int64.ofInt x).toInt = x := Int64.toInt_ofInt_of_le (by have := h.1; omega) (by have := h.2; omega)
theorem i32b {y : Int32} {x : Int} (h : y.toInt = x) : y = Int32.ofInt x := by rw [← h, Int32.ofInt_toInt]
theorem i64b {y : Int64} {x : Int} (h : y.toInt = x) : y = Int64.ofInt x := by rw [← h, Int64.ofInt_toInt]
theorem bm32 {x : Int} (h : -2147483648 ≤ x ∧ x ≤ 2147483647) : x.bmod (2 ^ 32) = x := Int.bmod_eq_of_le (by omega) (by omega)
theorem bm64 {x : Int} (h : -9223372036854775808 ≤ x ∧ x ≤ 9223372036854775807) : x.bmod (2 ^ 64) = x := Int.bmod_eq_of_le (by omega) (by omega)
