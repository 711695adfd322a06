/-! the law's entry: what stands below the world there -/
def nrL : List Cond := flatC narrow_1
theorem nr {w : Cond} {args : Array Value} {s : State} (i : Nat) (hi : nrL[i]? = some w) (h : narrow_1.before args s = true) : w.before args s = true := flat_of_before _ h w (List.mem_of_getElem? hi)
theorem inU1 {w : Cond} (i : Nat) (hi : tables_1_1[i]? = some w) : w ∈ lw_tbl := (List.mem_append_right _ (have h := List.mem_of_getElem? hi; List.mem_append_left _ h))
theorem inU2 {w : Cond} (i : Nat) (hi : tables_1_2[i]? = some w) : w ∈ lw_tbl := (List.mem_append_right _ (have h := List.mem_of_getElem? hi; List.mem_append_right _ (List.mem_append_left _ h)))
theorem inU3 {w : Cond} (i : Nat) (hi : tables_1_3[i]? = some w) : w ∈ lw_tbl := (List.mem_append_right _ (have h := List.mem_of_getElem? hi; List.mem_append_right _ (List.mem_append_right _ (List.mem_append_left _ h))))
theorem inU4 {w : Cond} (i : Nat) (hi : tables_1_4[i]? = some w) : w ∈ lw_tbl := (List.mem_append_right _ (have h := List.mem_of_getElem? hi; List.mem_append_right _ (List.mem_append_right _ (List.mem_append_right _ (List.mem_append_left _ h)))))
theorem inU5 {w : Cond} (i : Nat) (hi : tables_1_5[i]? = some w) : w ∈ lw_tbl := (List.mem_append_right _ (have h := List.mem_of_getElem? hi; List.mem_append_right _ (List.mem_append_right _ (List.mem_append_right _ (List.mem_append_right _ (List.mem_append_left _ h))))))
theorem inU6 {w : Cond} (i : Nat) (hi : tables_1_6[i]? = some w) : w ∈ lw_tbl := (List.mem_append_right _ (have h := List.mem_of_getElem? hi; List.mem_append_right _ (List.mem_append_right _ (List.mem_append_right _ (List.mem_append_right _ (List.mem_append_right _ (List.mem_append_left _ h)))))))
theorem inU7 {w : Cond} (i : Nat) (hi : tables_1_7[i]? = some w) : w ∈ lw_tbl := (List.mem_append_right _ (have h := List.mem_of_getElem? hi; List.mem_append_right _ (List.mem_append_right _ (List.mem_append_right _ (List.mem_append_right _ (List.mem_append_right _ (List.mem_append_right _ (List.mem_append_left _ h))))))))
theorem inU8 {w : Cond} (i : Nat) (hi : tables_1_8[i]? = some w) : w ∈ lw_tbl := (List.mem_append_right _ (have h := List.mem_of_getElem? hi; List.mem_append_right _ (List.mem_append_right _ (List.mem_append_right _ (List.mem_append_right _ (List.mem_append_right _ (List.mem_append_right _ (List.mem_append_right _ (List.mem_append_left _ h)))))))))
theorem inU9 {w : Cond} (i : Nat) (hi : tables_1_9[i]? = some w) : w ∈ lw_tbl := (List.mem_append_right _ (have h := List.mem_of_getElem? hi; List.mem_append_right _ (List.mem_append_right _ (List.mem_append_right _ (List.mem_append_right _ (List.mem_append_right _ (List.mem_append_right _ (List.mem_append_right _ (List.mem_append_right _ (h))))))))))
theorem exw {args : Array Value} {s : State} {t : Term} (hex : (Cond.exactly t "java/lang/String").before args s = true) : ∃ a : Nat, t.eval args s none [] s = some (.ref a) := by
  obtain ⟨a, c, cA, kA, q1, -⟩ := Cond.exactly_spec (args := args) (first := s) (o := none) (s := s) (idx := []) (t := t) (cls := "java/lang/String") hex
  exact ⟨a, q1⟩
theorem ks_of {args : Array Value} {s : State} {own tx : String} {k n : Nat} {bs : List Int} {A : Nat → Prop} (hn : bs.length = n) (hn9 : n < 2 ^ 31) (hr : (Cond.stringRef own k tx).before args s = true) (hex : (Cond.exactly (.string own k) "java/lang/String").before args s = true) (hco : (Cond.eq (.field (.string own k) "java/lang/String" "coder" "B") (.int 0)).before args s = true)
    (har : (Cond.arrayOf (.field (.string own k) "java/lang/String" "value" "[B") .byte).before args s = true) (hle : (Cond.eq (.length (.field (.string own k) "java/lang/String" "value" "[B")) (.int (Int32.ofNat n))).before args s = true)
    (hel : ∀ j : Nat, j < n → (Cond.eq (.elem (.field (.string own k) "java/lang/String" "value" "[B") (.int (Int32.ofNat j))) (.int (Int32.ofInt (bs.getD j 0)))).before args s = true) (hA : ∀ a : Nat, a < s.heap.size → ¬ A a) :
    ∃ q : Nat × Nat, vk_R own k tx q.1 s ∧ va_O "java/lang/String" q.1 A s s.heap ∧ va_OF "java/lang/String" "coder" "B" (.int 0) q.1 A s s.heap ∧ va_OF "java/lang/String" "value" "[B" (.ref q.2) q.1 A s s.heap ∧ va_T .byte q.2 bs.length (fun j => .int (Int32.ofInt (bs.getD j 0))) A s s.heap := by
  obtain ⟨a, q1⟩ := exw hex
  obtain ⟨t, ht, hT⟩ := va_Tof (f := fun j => .int (Int32.ofInt (bs.getD j 0))) (A := A) hn9 har (va_eqt hle) (fun j hj => va_eqt (hel j hj)) hA
  refine ⟨(a, t), vk_R.of hr q1, va_Oof hex q1 hA, vk_OFof q1 (va_eqt hco) hA, vk_OFof q1 ht hA, ?_⟩
  rw [hn]
  exact hT
theorem ks_0 {b : Addr} {s : State} {A : Nat → Prop} (hts : ∀ w ∈ lw_tbl, w.before #[Value.ref b] s = true) (h : narrow_1.before #[Value.ref b] s = true) (hA : ∀ a : Nat, a < s.heap.size → ¬ A a) : ∃ q : Nat × Nat, vk_R "GroupAutomaton$Loader" 103 "klein" q.1 s ∧ va_O "java/lang/String" q.1 A s s.heap ∧ va_OF "java/lang/String" "coder" "B" (.int 0) q.1 A s s.heap ∧ va_OF "java/lang/String" "value" "[B" (.ref q.2) q.1 A s s.heap ∧ va_T .byte q.2 [107, 108, 101, 105, 110].length (fun j => .int (Int32.ofInt (([107, 108, 101, 105, 110] : List Int).getD j 0))) A s s.heap :=
  ks_of (own := "GroupAutomaton$Loader") (k := 103) (tx := "klein") (bs := [107, 108, 101, 105, 110]) (n := 5) rfl (by decide) (hts _ (inU4 173 (by decide +kernel))) (nr 142 (by decide +kernel) h) (nr 143 (by decide +kernel) h) (nr 144 (by decide +kernel) h) (nr 145 (by decide +kernel) h)
    (fun j hj => match j, hj with
    | 0, _ => (nr 146 (by decide +kernel) h)
    | 1, _ => (nr 147 (by decide +kernel) h)
    | 2, _ => (nr 148 (by decide +kernel) h)
    | 3, _ => (nr 149 (by decide +kernel) h)
    | 4, _ => (nr 150 (by decide +kernel) h)
    | j + 5, hj => absurd hj (by omega)) hA
theorem ks_1 {b : Addr} {s : State} {A : Nat → Prop} (hts : ∀ w ∈ lw_tbl, w.before #[Value.ref b] s = true) (h : narrow_1.before #[Value.ref b] s = true) (hA : ∀ a : Nat, a < s.heap.size → ¬ A a) : ∃ q : Nat × Nat, vk_R "GroupAutomaton$Loader" 108 "sym" q.1 s ∧ va_O "java/lang/String" q.1 A s s.heap ∧ va_OF "java/lang/String" "coder" "B" (.int 0) q.1 A s s.heap ∧ va_OF "java/lang/String" "value" "[B" (.ref q.2) q.1 A s s.heap ∧ va_T .byte q.2 [115, 121, 109].length (fun j => .int (Int32.ofInt (([115, 121, 109] : List Int).getD j 0))) A s s.heap :=
  ks_of (own := "GroupAutomaton$Loader") (k := 108) (tx := "sym") (bs := [115, 121, 109]) (n := 3) rfl (by decide) (hts _ (inU4 230 (by decide +kernel))) (nr 151 (by decide +kernel) h) (nr 152 (by decide +kernel) h) (nr 153 (by decide +kernel) h) (nr 154 (by decide +kernel) h)
    (fun j hj => match j, hj with
    | 0, _ => (nr 155 (by decide +kernel) h)
    | 1, _ => (nr 156 (by decide +kernel) h)
    | 2, _ => (nr 157 (by decide +kernel) h)
    | j + 3, hj => absurd hj (by omega)) hA
theorem ks_2 {b : Addr} {s : State} {A : Nat → Prop} (hts : ∀ w ∈ lw_tbl, w.before #[Value.ref b] s = true) (h : narrow_1.before #[Value.ref b] s = true) (hA : ∀ a : Nat, a < s.heap.size → ¬ A a) : ∃ q : Nat × Nat, vk_R "GroupAutomaton$Loader" 113 "cyclic" q.1 s ∧ va_O "java/lang/String" q.1 A s s.heap ∧ va_OF "java/lang/String" "coder" "B" (.int 0) q.1 A s s.heap ∧ va_OF "java/lang/String" "value" "[B" (.ref q.2) q.1 A s s.heap ∧ va_T .byte q.2 [99, 121, 99, 108, 105, 99].length (fun j => .int (Int32.ofInt (([99, 121, 99, 108, 105, 99] : List Int).getD j 0))) A s s.heap :=
  ks_of (own := "GroupAutomaton$Loader") (k := 113) (tx := "cyclic") (bs := [99, 121, 99, 108, 105, 99]) (n := 6) rfl (by decide) (hts _ (inU5 3 (by decide +kernel))) (nr 158 (by decide +kernel) h) (nr 159 (by decide +kernel) h) (nr 160 (by decide +kernel) h) (nr 161 (by decide +kernel) h)
    (fun j hj => match j, hj with
    | 0, _ => (nr 162 (by decide +kernel) h)
    | 1, _ => (nr 163 (by decide +kernel) h)
    | 2, _ => (nr 164 (by decide +kernel) h)
    | 3, _ => (nr 165 (by decide +kernel) h)
    | 4, _ => (nr 166 (by decide +kernel) h)
    | 5, _ => (nr 167 (by decide +kernel) h)
    | j + 6, hj => absurd hj (by omega)) hA
theorem ks_3 {b : Addr} {s : State} {A : Nat → Prop} (hts : ∀ w ∈ lw_tbl, w.before #[Value.ref b] s = true) (h : narrow_1.before #[Value.ref b] s = true) (hA : ∀ a : Nat, a < s.heap.size → ¬ A a) : ∃ q : Nat × Nat, vk_R "GroupAutomaton$Loader" 125 "width" q.1 s ∧ va_O "java/lang/String" q.1 A s s.heap ∧ va_OF "java/lang/String" "coder" "B" (.int 0) q.1 A s s.heap ∧ va_OF "java/lang/String" "value" "[B" (.ref q.2) q.1 A s s.heap ∧ va_T .byte q.2 [119, 105, 100, 116, 104].length (fun j => .int (Int32.ofInt (([119, 105, 100, 116, 104] : List Int).getD j 0))) A s s.heap :=
  ks_of (own := "GroupAutomaton$Loader") (k := 125) (tx := "width") (bs := [119, 105, 100, 116, 104]) (n := 5) rfl (by decide) (hts _ (inU5 30 (by decide +kernel))) (nr 168 (by decide +kernel) h) (nr 169 (by decide +kernel) h) (nr 170 (by decide +kernel) h) (nr 171 (by decide +kernel) h)
    (fun j hj => match j, hj with
    | 0, _ => (nr 172 (by decide +kernel) h)
    | 1, _ => (nr 173 (by decide +kernel) h)
    | 2, _ => (nr 174 (by decide +kernel) h)
    | 3, _ => (nr 175 (by decide +kernel) h)
    | 4, _ => (nr 176 (by decide +kernel) h)
    | j + 5, hj => absurd hj (by omega)) hA
theorem ks_4 {b : Addr} {s : State} {A : Nat → Prop} (hts : ∀ w ∈ lw_tbl, w.before #[Value.ref b] s = true) (h : narrow_1.before #[Value.ref b] s = true) (hA : ∀ a : Nat, a < s.heap.size → ¬ A a) : ∃ q : Nat × Nat, vk_R "GroupAutomaton$Loader" 131 "word" q.1 s ∧ va_O "java/lang/String" q.1 A s s.heap ∧ va_OF "java/lang/String" "coder" "B" (.int 0) q.1 A s s.heap ∧ va_OF "java/lang/String" "value" "[B" (.ref q.2) q.1 A s s.heap ∧ va_T .byte q.2 [119, 111, 114, 100].length (fun j => .int (Int32.ofInt (([119, 111, 114, 100] : List Int).getD j 0))) A s s.heap :=
  ks_of (own := "GroupAutomaton$Loader") (k := 131) (tx := "word") (bs := [119, 111, 114, 100]) (n := 4) rfl (by decide) (hts _ (inU5 36 (by decide +kernel))) (nr 177 (by decide +kernel) h) (nr 178 (by decide +kernel) h) (nr 179 (by decide +kernel) h) (nr 180 (by decide +kernel) h)
    (fun j hj => match j, hj with
    | 0, _ => (nr 181 (by decide +kernel) h)
    | 1, _ => (nr 182 (by decide +kernel) h)
    | 2, _ => (nr 183 (by decide +kernel) h)
    | 3, _ => (nr 184 (by decide +kernel) h)
    | j + 4, hj => absurd hj (by omega)) hA
theorem ks_5 {b : Addr} {s : State} {A : Nat → Prop} (hts : ∀ w ∈ lw_tbl, w.before #[Value.ref b] s = true) (h : narrow_1.before #[Value.ref b] s = true) (hA : ∀ a : Nat, a < s.heap.size → ¬ A a) : ∃ q : Nat × Nat, vk_R "GroupAutomaton$Loader" 156 "case" q.1 s ∧ va_O "java/lang/String" q.1 A s s.heap ∧ va_OF "java/lang/String" "coder" "B" (.int 0) q.1 A s s.heap ∧ va_OF "java/lang/String" "value" "[B" (.ref q.2) q.1 A s s.heap ∧ va_T .byte q.2 [99, 97, 115, 101].length (fun j => .int (Int32.ofInt (([99, 97, 115, 101] : List Int).getD j 0))) A s s.heap :=
  ks_of (own := "GroupAutomaton$Loader") (k := 156) (tx := "case") (bs := [99, 97, 115, 101]) (n := 4) rfl (by decide) (hts _ (inU5 62 (by decide +kernel))) (nr 185 (by decide +kernel) h) (nr 186 (by decide +kernel) h) (nr 187 (by decide +kernel) h) (nr 188 (by decide +kernel) h)
    (fun j hj => match j, hj with
    | 0, _ => (nr 189 (by decide +kernel) h)
    | 1, _ => (nr 190 (by decide +kernel) h)
    | 2, _ => (nr 191 (by decide +kernel) h)
    | 3, _ => (nr 192 (by decide +kernel) h)
    | j + 4, hj => absurd hj (by omega)) hA
theorem ks_6 {b : Addr} {s : State} {A : Nat → Prop} (hts : ∀ w ∈ lw_tbl, w.before #[Value.ref b] s = true) (h : narrow_1.before #[Value.ref b] s = true) (hA : ∀ a : Nat, a < s.heap.size → ¬ A a) : ∃ q : Nat × Nat, vk_R "GroupAutomaton$Loader" 173 "ring" q.1 s ∧ va_O "java/lang/String" q.1 A s s.heap ∧ va_OF "java/lang/String" "coder" "B" (.int 0) q.1 A s s.heap ∧ va_OF "java/lang/String" "value" "[B" (.ref q.2) q.1 A s s.heap ∧ va_T .byte q.2 [114, 105, 110, 103].length (fun j => .int (Int32.ofInt (([114, 105, 110, 103] : List Int).getD j 0))) A s s.heap :=
  ks_of (own := "GroupAutomaton$Loader") (k := 173) (tx := "ring") (bs := [114, 105, 110, 103]) (n := 4) rfl (by decide) (hts _ (inU5 74 (by decide +kernel))) (nr 193 (by decide +kernel) h) (nr 194 (by decide +kernel) h) (nr 195 (by decide +kernel) h) (nr 196 (by decide +kernel) h)
    (fun j hj => match j, hj with
    | 0, _ => (nr 197 (by decide +kernel) h)
    | 1, _ => (nr 198 (by decide +kernel) h)
    | 2, _ => (nr 199 (by decide +kernel) h)
    | 3, _ => (nr 200 (by decide +kernel) h)
    | j + 4, hj => absurd hj (by omega)) hA
theorem ks_7 {b : Addr} {s : State} {A : Nat → Prop} (hts : ∀ w ∈ lw_tbl, w.before #[Value.ref b] s = true) (h : narrow_1.before #[Value.ref b] s = true) (hA : ∀ a : Nat, a < s.heap.size → ¬ A a) : ∃ q : Nat × Nat, vk_R "GroupAutomatonModel" 241 "cyclic" q.1 s ∧ va_O "java/lang/String" q.1 A s s.heap ∧ va_OF "java/lang/String" "coder" "B" (.int 0) q.1 A s s.heap ∧ va_OF "java/lang/String" "value" "[B" (.ref q.2) q.1 A s s.heap ∧ va_T .byte q.2 [99, 121, 99, 108, 105, 99].length (fun j => .int (Int32.ofInt (([99, 121, 99, 108, 105, 99] : List Int).getD j 0))) A s s.heap :=
  ks_of (own := "GroupAutomatonModel") (k := 241) (tx := "cyclic") (bs := [99, 121, 99, 108, 105, 99]) (n := 6) rfl (by decide) (hts _ (inU7 235 (by decide +kernel))) (nr 777 (by decide +kernel) h) (nr 778 (by decide +kernel) h) (nr 779 (by decide +kernel) h) (nr 780 (by decide +kernel) h)
    (fun j hj => match j, hj with
    | 0, _ => (nr 781 (by decide +kernel) h)
    | 1, _ => (nr 782 (by decide +kernel) h)
    | 2, _ => (nr 783 (by decide +kernel) h)
    | 3, _ => (nr 784 (by decide +kernel) h)
    | 4, _ => (nr 785 (by decide +kernel) h)
    | 5, _ => (nr 786 (by decide +kernel) h)
    | j + 6, hj => absurd hj (by omega)) hA
theorem ks_8 {b : Addr} {s : State} {A : Nat → Prop} (hts : ∀ w ∈ lw_tbl, w.before #[Value.ref b] s = true) (h : narrow_1.before #[Value.ref b] s = true) (hA : ∀ a : Nat, a < s.heap.size → ¬ A a) : ∃ q : Nat × Nat, vk_R "GroupAutomatonModel" 243 "klein" q.1 s ∧ va_O "java/lang/String" q.1 A s s.heap ∧ va_OF "java/lang/String" "coder" "B" (.int 0) q.1 A s s.heap ∧ va_OF "java/lang/String" "value" "[B" (.ref q.2) q.1 A s s.heap ∧ va_T .byte q.2 [107, 108, 101, 105, 110].length (fun j => .int (Int32.ofInt (([107, 108, 101, 105, 110] : List Int).getD j 0))) A s s.heap :=
  ks_of (own := "GroupAutomatonModel") (k := 243) (tx := "klein") (bs := [107, 108, 101, 105, 110]) (n := 5) rfl (by decide) (hts _ (inU8 6 (by decide +kernel))) (nr 788 (by decide +kernel) h) (nr 789 (by decide +kernel) h) (nr 790 (by decide +kernel) h) (nr 791 (by decide +kernel) h)
    (fun j hj => match j, hj with
    | 0, _ => (nr 792 (by decide +kernel) h)
    | 1, _ => (nr 793 (by decide +kernel) h)
    | 2, _ => (nr 794 (by decide +kernel) h)
    | 3, _ => (nr 795 (by decide +kernel) h)
    | 4, _ => (nr 796 (by decide +kernel) h)
    | j + 5, hj => absurd hj (by omega)) hA
theorem ks_9 {b : Addr} {s : State} {A : Nat → Prop} (hts : ∀ w ∈ lw_tbl, w.before #[Value.ref b] s = true) (h : narrow_1.before #[Value.ref b] s = true) (hA : ∀ a : Nat, a < s.heap.size → ¬ A a) : ∃ q : Nat × Nat, vk_R "GroupAutomatonModel" 245 "sym" q.1 s ∧ va_O "java/lang/String" q.1 A s s.heap ∧ va_OF "java/lang/String" "coder" "B" (.int 0) q.1 A s s.heap ∧ va_OF "java/lang/String" "value" "[B" (.ref q.2) q.1 A s s.heap ∧ va_T .byte q.2 [115, 121, 109].length (fun j => .int (Int32.ofInt (([115, 121, 109] : List Int).getD j 0))) A s s.heap :=
  ks_of (own := "GroupAutomatonModel") (k := 245) (tx := "sym") (bs := [115, 121, 109]) (n := 3) rfl (by decide) (hts _ (inU8 7 (by decide +kernel))) (nr 798 (by decide +kernel) h) (nr 799 (by decide +kernel) h) (nr 800 (by decide +kernel) h) (nr 801 (by decide +kernel) h)
    (fun j hj => match j, hj with
    | 0, _ => (nr 802 (by decide +kernel) h)
    | 1, _ => (nr 803 (by decide +kernel) h)
    | 2, _ => (nr 804 (by decide +kernel) h)
    | j + 3, hj => absurd hj (by omega)) hA
theorem ks_10 {b : Addr} {s : State} {A : Nat → Prop} (hts : ∀ w ∈ lw_tbl, w.before #[Value.ref b] s = true) (h : narrow_1.before #[Value.ref b] s = true) (hA : ∀ a : Nat, a < s.heap.size → ¬ A a) : ∃ q : Nat × Nat, vk_R "GroupAutomatonModel" 253 "a" q.1 s ∧ va_O "java/lang/String" q.1 A s s.heap ∧ va_OF "java/lang/String" "coder" "B" (.int 0) q.1 A s s.heap ∧ va_OF "java/lang/String" "value" "[B" (.ref q.2) q.1 A s s.heap ∧ va_T .byte q.2 [97].length (fun j => .int (Int32.ofInt (([97] : List Int).getD j 0))) A s s.heap :=
  ks_of (own := "GroupAutomatonModel") (k := 253) (tx := "a") (bs := [97]) (n := 1) rfl (by decide) (hts _ (inU8 50 (by decide +kernel))) (nr 825 (by decide +kernel) h) (nr 826 (by decide +kernel) h) (nr 827 (by decide +kernel) h) (nr 828 (by decide +kernel) h)
    (fun j hj => match j, hj with
    | 0, _ => (nr 829 (by decide +kernel) h)
    | j + 1, hj => absurd hj (by omega)) hA
theorem ks_11 {b : Addr} {s : State} {A : Nat → Prop} (hts : ∀ w ∈ lw_tbl, w.before #[Value.ref b] s = true) (h : narrow_1.before #[Value.ref b] s = true) (hA : ∀ a : Nat, a < s.heap.size → ¬ A a) : ∃ q : Nat × Nat, vk_R "GroupAutomatonModel" 255 "b" q.1 s ∧ va_O "java/lang/String" q.1 A s s.heap ∧ va_OF "java/lang/String" "coder" "B" (.int 0) q.1 A s s.heap ∧ va_OF "java/lang/String" "value" "[B" (.ref q.2) q.1 A s s.heap ∧ va_T .byte q.2 [98].length (fun j => .int (Int32.ofInt (([98] : List Int).getD j 0))) A s s.heap :=
  ks_of (own := "GroupAutomatonModel") (k := 255) (tx := "b") (bs := [98]) (n := 1) rfl (by decide) (hts _ (inU8 51 (by decide +kernel))) (nr 830 (by decide +kernel) h) (nr 831 (by decide +kernel) h) (nr 832 (by decide +kernel) h) (nr 833 (by decide +kernel) h)
    (fun j hj => match j, hj with
    | 0, _ => (nr 834 (by decide +kernel) h)
    | j + 1, hj => absurd hj (by omega)) hA
theorem ks_12 {b : Addr} {s : State} {A : Nat → Prop} (hts : ∀ w ∈ lw_tbl, w.before #[Value.ref b] s = true) (h : narrow_1.before #[Value.ref b] s = true) (hA : ∀ a : Nat, a < s.heap.size → ¬ A a) : ∃ q : Nat × Nat, vk_R "GroupAutomatonModel" 257 "c" q.1 s ∧ va_O "java/lang/String" q.1 A s s.heap ∧ va_OF "java/lang/String" "coder" "B" (.int 0) q.1 A s s.heap ∧ va_OF "java/lang/String" "value" "[B" (.ref q.2) q.1 A s s.heap ∧ va_T .byte q.2 [99].length (fun j => .int (Int32.ofInt (([99] : List Int).getD j 0))) A s s.heap :=
  ks_of (own := "GroupAutomatonModel") (k := 257) (tx := "c") (bs := [99]) (n := 1) rfl (by decide) (hts _ (inU8 52 (by decide +kernel))) (nr 835 (by decide +kernel) h) (nr 836 (by decide +kernel) h) (nr 837 (by decide +kernel) h) (nr 838 (by decide +kernel) h)
    (fun j hj => match j, hj with
    | 0, _ => (nr 839 (by decide +kernel) h)
    | j + 1, hj => absurd hj (by omega)) hA
theorem ks_13 {b : Addr} {s : State} {A : Nat → Prop} (hts : ∀ w ∈ lw_tbl, w.before #[Value.ref b] s = true) (h : narrow_1.before #[Value.ref b] s = true) (hA : ∀ a : Nat, a < s.heap.size → ¬ A a) : ∃ q : Nat × Nat, vk_R "GroupAutomatonModel" 259 "word" q.1 s ∧ va_O "java/lang/String" q.1 A s s.heap ∧ va_OF "java/lang/String" "coder" "B" (.int 0) q.1 A s s.heap ∧ va_OF "java/lang/String" "value" "[B" (.ref q.2) q.1 A s s.heap ∧ va_T .byte q.2 [119, 111, 114, 100].length (fun j => .int (Int32.ofInt (([119, 111, 114, 100] : List Int).getD j 0))) A s s.heap :=
  ks_of (own := "GroupAutomatonModel") (k := 259) (tx := "word") (bs := [119, 111, 114, 100]) (n := 4) rfl (by decide) (hts _ (inU8 45 (by decide +kernel))) (nr 816 (by decide +kernel) h) (nr 817 (by decide +kernel) h) (nr 818 (by decide +kernel) h) (nr 819 (by decide +kernel) h)
    (fun j hj => match j, hj with
    | 0, _ => (nr 820 (by decide +kernel) h)
    | 1, _ => (nr 821 (by decide +kernel) h)
    | 2, _ => (nr 822 (by decide +kernel) h)
    | 3, _ => (nr 823 (by decide +kernel) h)
    | j + 4, hj => absurd hj (by omega)) hA
theorem ks_14 {b : Addr} {s : State} {A : Nat → Prop} (hts : ∀ w ∈ lw_tbl, w.before #[Value.ref b] s = true) (h : narrow_1.before #[Value.ref b] s = true) (hA : ∀ a : Nat, a < s.heap.size → ¬ A a) : ∃ q : Nat × Nat, vk_R "GroupAutomatonModel" 272 "case" q.1 s ∧ va_O "java/lang/String" q.1 A s s.heap ∧ va_OF "java/lang/String" "coder" "B" (.int 0) q.1 A s s.heap ∧ va_OF "java/lang/String" "value" "[B" (.ref q.2) q.1 A s s.heap ∧ va_T .byte q.2 [99, 97, 115, 101].length (fun j => .int (Int32.ofInt (([99, 97, 115, 101] : List Int).getD j 0))) A s s.heap :=
  ks_of (own := "GroupAutomatonModel") (k := 272) (tx := "case") (bs := [99, 97, 115, 101]) (n := 4) rfl (by decide) (hts _ (inU8 61 (by decide +kernel))) (nr 840 (by decide +kernel) h) (nr 841 (by decide +kernel) h) (nr 842 (by decide +kernel) h) (nr 843 (by decide +kernel) h)
    (fun j hj => match j, hj with
    | 0, _ => (nr 844 (by decide +kernel) h)
    | 1, _ => (nr 845 (by decide +kernel) h)
    | 2, _ => (nr 846 (by decide +kernel) h)
    | 3, _ => (nr 847 (by decide +kernel) h)
    | j + 4, hj => absurd hj (by omega)) hA
theorem ks_15 {b : Addr} {s : State} {A : Nat → Prop} (hts : ∀ w ∈ lw_tbl, w.before #[Value.ref b] s = true) (h : narrow_1.before #[Value.ref b] s = true) (hA : ∀ a : Nat, a < s.heap.size → ¬ A a) : ∃ q : Nat × Nat, vk_R "GroupAutomatonModel" 274 "ring" q.1 s ∧ va_O "java/lang/String" q.1 A s s.heap ∧ va_OF "java/lang/String" "coder" "B" (.int 0) q.1 A s s.heap ∧ va_OF "java/lang/String" "value" "[B" (.ref q.2) q.1 A s s.heap ∧ va_T .byte q.2 [114, 105, 110, 103].length (fun j => .int (Int32.ofInt (([114, 105, 110, 103] : List Int).getD j 0))) A s s.heap :=
  ks_of (own := "GroupAutomatonModel") (k := 274) (tx := "ring") (bs := [114, 105, 110, 103]) (n := 4) rfl (by decide) (hts _ (inU8 66 (by decide +kernel))) (nr 849 (by decide +kernel) h) (nr 850 (by decide +kernel) h) (nr 851 (by decide +kernel) h) (nr 852 (by decide +kernel) h)
    (fun j hj => match j, hj with
    | 0, _ => (nr 853 (by decide +kernel) h)
    | 1, _ => (nr 854 (by decide +kernel) h)
    | 2, _ => (nr 855 (by decide +kernel) h)
    | 3, _ => (nr 856 (by decide +kernel) h)
    | j + 4, hj => absurd hj (by omega)) hA
theorem ks_16 {b : Addr} {s : State} {A : Nat → Prop} (hts : ∀ w ∈ lw_tbl, w.before #[Value.ref b] s = true) (h : narrow_1.before #[Value.ref b] s = true) (hA : ∀ a : Nat, a < s.heap.size → ¬ A a) : ∃ q : Nat × Nat, vk_R "GroupAutomatonModel" 278 "width" q.1 s ∧ va_O "java/lang/String" q.1 A s s.heap ∧ va_OF "java/lang/String" "coder" "B" (.int 0) q.1 A s s.heap ∧ va_OF "java/lang/String" "value" "[B" (.ref q.2) q.1 A s s.heap ∧ va_T .byte q.2 [119, 105, 100, 116, 104].length (fun j => .int (Int32.ofInt (([119, 105, 100, 116, 104] : List Int).getD j 0))) A s s.heap :=
  ks_of (own := "GroupAutomatonModel") (k := 278) (tx := "width") (bs := [119, 105, 100, 116, 104]) (n := 5) rfl (by decide) (hts _ (inU8 32 (by decide +kernel))) (nr 806 (by decide +kernel) h) (nr 807 (by decide +kernel) h) (nr 808 (by decide +kernel) h) (nr 809 (by decide +kernel) h)
    (fun j hj => match j, hj with
    | 0, _ => (nr 810 (by decide +kernel) h)
    | 1, _ => (nr 811 (by decide +kernel) h)
    | 2, _ => (nr 812 (by decide +kernel) h)
    | 3, _ => (nr 813 (by decide +kernel) h)
    | 4, _ => (nr 814 (by decide +kernel) h)
    | j + 5, hj => absurd hj (by omega)) hA
theorem ks_all {b : Addr} {s : State} {A : Nat → Prop} (hts : ∀ w ∈ lw_tbl, w.before #[Value.ref b] s = true) (h : narrow_1.before #[Value.ref b] s = true) (hA : ∀ a : Nat, a < s.heap.size → ¬ A a) : ∀ i : Nat, ∃ q9 : Nat × Nat, ∀ q, strs[i]? = some q → vk_R q.1 q.2.1 q.2.2.1 q9.1 s ∧ va_O "java/lang/String" q9.1 A s s.heap ∧ va_OF "java/lang/String" "coder" "B" (.int 0) q9.1 A s s.heap ∧ va_OF "java/lang/String" "value" "[B" (.ref q9.2) q9.1 A s s.heap ∧ va_T .byte q9.2 q.2.2.2.length (fun j => .int (Int32.ofInt (q.2.2.2.getD j 0))) A s s.heap
  | 0 => (ks_0 hts h hA).imp fun q9 g q e => by cases e; exact g
  | 1 => (ks_1 hts h hA).imp fun q9 g q e => by cases e; exact g
  | 2 => (ks_2 hts h hA).imp fun q9 g q e => by cases e; exact g
  | 3 => (ks_3 hts h hA).imp fun q9 g q e => by cases e; exact g
  | 4 => (ks_4 hts h hA).imp fun q9 g q e => by cases e; exact g
  | 5 => (ks_5 hts h hA).imp fun q9 g q e => by cases e; exact g
  | 6 => (ks_6 hts h hA).imp fun q9 g q e => by cases e; exact g
  | 7 => (ks_7 hts h hA).imp fun q9 g q e => by cases e; exact g
  | 8 => (ks_8 hts h hA).imp fun q9 g q e => by cases e; exact g
  | 9 => (ks_9 hts h hA).imp fun q9 g q e => by cases e; exact g
  | 10 => (ks_10 hts h hA).imp fun q9 g q e => by cases e; exact g
  | 11 => (ks_11 hts h hA).imp fun q9 g q e => by cases e; exact g
  | 12 => (ks_12 hts h hA).imp fun q9 g q e => by cases e; exact g
  | 13 => (ks_13 hts h hA).imp fun q9 g q e => by cases e; exact g
  | 14 => (ks_14 hts h hA).imp fun q9 g q e => by cases e; exact g
  | 15 => (ks_15 hts h hA).imp fun q9 g q e => by cases e; exact g
  | 16 => (ks_16 hts h hA).imp fun q9 g q e => by cases e; exact g
  | i + 17 => ⟨(0, 0), fun q e => by cases e⟩
theorem mg_0 {b : Addr} {s : State} {A : Nat → Prop} (hts : ∀ w ∈ lw_tbl, w.before #[Value.ref b] s = true) (h : narrow_1.before #[Value.ref b] s = true) (hA : ∀ a : Nat, a < s.heap.size → ¬ A a) : ∃ a : Nat, vk_R "GroupAutomaton" 120 "the text would be too long" a s := (exw (nr 94 (by decide +kernel) h)).imp fun a q => vk_R.of (hts _ (inU4 82 (by decide +kernel))) q
theorem mg_1 {b : Addr} {s : State} {A : Nat → Prop} (hts : ∀ w ∈ lw_tbl, w.before #[Value.ref b] s = true) (h : narrow_1.before #[Value.ref b] s = true) (hA : ∀ a : Nat, a < s.heap.size → ¬ A a) : ∃ a : Nat, vk_R "GroupAutomaton" 130 "no such length" a s := (exw (nr 124 (by decide +kernel) h)).imp fun a q => vk_R.of (hts _ (inU4 131 (by decide +kernel))) q
theorem mg_2 {b : Addr} {s : State} {A : Nat → Prop} (hts : ∀ w ∈ lw_tbl, w.before #[Value.ref b] s = true) (h : narrow_1.before #[Value.ref b] s = true) (hA : ∀ a : Nat, a < s.heap.size → ¬ A a) : ∃ a : Nat, vk_R "GroupAutomaton" 139 "the text has an error" a s := (exw (nr 201 (by decide +kernel) h)).imp fun a q => vk_R.of (hts _ (inU5 89 (by decide +kernel))) q
theorem mg_3 {b : Addr} {s : State} {A : Nat → Prop} (hts : ∀ w ∈ lw_tbl, w.before #[Value.ref b] s = true) (h : narrow_1.before #[Value.ref b] s = true) (hA : ∀ a : Nat, a < s.heap.size → ¬ A a) : ∃ a : Nat, vk_R "GroupAutomaton" 178 "no such element" a s := (exw (nr 226 (by decide +kernel) h)).imp fun a q => vk_R.of (hts _ (inU5 116 (by decide +kernel))) q
theorem mg_4 {b : Addr} {s : State} {A : Nat → Prop} (hts : ∀ w ∈ lw_tbl, w.before #[Value.ref b] s = true) (h : narrow_1.before #[Value.ref b] s = true) (hA : ∀ a : Nat, a < s.heap.size → ¬ A a) : ∃ a : Nat, vk_R "GroupAutomaton" 197 "what is out of range" a s := (exw (nr 245 (by decide +kernel) h)).imp fun a q => vk_R.of (hts _ (inU5 139 (by decide +kernel))) q
theorem mg_5 {b : Addr} {s : State} {A : Nat → Prop} (hts : ∀ w ∈ lw_tbl, w.before #[Value.ref b] s = true) (h : narrow_1.before #[Value.ref b] s = true) (hA : ∀ a : Nat, a < s.heap.size → ¬ A a) : ∃ a : Nat, vk_R "GroupAutomaton" 203 "the set contains something that is no element" a s := (exw (nr 269 (by decide +kernel) h)).imp fun a q => vk_R.of (hts _ (inU5 148 (by decide +kernel))) q
theorem mg_6 {b : Addr} {s : State} {A : Nat → Prop} (hts : ∀ w ∈ lw_tbl, w.before #[Value.ref b] s = true) (h : narrow_1.before #[Value.ref b] s = true) (hA : ∀ a : Nat, a < s.heap.size → ¬ A a) : ∃ a : Nat, vk_R "GroupAutomaton" 215 "no such state" a s := (exw (nr 318 (by decide +kernel) h)).imp fun a q => vk_R.of (hts _ (inU5 164 (by decide +kernel))) q
theorem mg_7 {b : Addr} {s : State} {A : Nat → Prop} (hts : ∀ w ∈ lw_tbl, w.before #[Value.ref b] s = true) (h : narrow_1.before #[Value.ref b] s = true) (hA : ∀ a : Nat, a < s.heap.size → ¬ A a) : ∃ a : Nat, vk_R "GroupAutomaton" 256 "there is no diamond" a s := (exw (nr 335 (by decide +kernel) h)).imp fun a q => vk_R.of (hts _ (inU5 205 (by decide +kernel))) q
theorem mg_8 {b : Addr} {s : State} {A : Nat → Prop} (hts : ∀ w ∈ lw_tbl, w.before #[Value.ref b] s = true) (h : narrow_1.before #[Value.ref b] s = true) (hA : ∀ a : Nat, a < s.heap.size → ¬ A a) : ∃ a : Nat, vk_R "GroupAutomaton" 262 "there is no inverse rule" a s := (exw (nr 358 (by decide +kernel) h)).imp fun a q => vk_R.of (hts _ (inU6 10 (by decide +kernel))) q
theorem mg_9 {b : Addr} {s : State} {A : Nat → Prop} (hts : ∀ w ∈ lw_tbl, w.before #[Value.ref b] s = true) (h : narrow_1.before #[Value.ref b] s = true) (hA : ∀ a : Nat, a < s.heap.size → ¬ A a) : ∃ a : Nat, vk_R "GroupAutomaton" 273 "no such word" a s := (exw (nr 386 (by decide +kernel) h)).imp fun a q => vk_R.of (hts _ (inU6 26 (by decide +kernel))) q
theorem mg_10 {b : Addr} {s : State} {A : Nat → Prop} (hts : ∀ w ∈ lw_tbl, w.before #[Value.ref b] s = true) (h : narrow_1.before #[Value.ref b] s = true) (hA : ∀ a : Nat, a < s.heap.size → ¬ A a) : ∃ a : Nat, vk_R "GroupAutomaton" 280 "no such row or state" a s := (exw (nr 402 (by decide +kernel) h)).imp fun a q => vk_R.of (hts _ (inU6 38 (by decide +kernel))) q
theorem mg_11 {b : Addr} {s : State} {A : Nat → Prop} (hts : ∀ w ∈ lw_tbl, w.before #[Value.ref b] s = true) (h : narrow_1.before #[Value.ref b] s = true) (hA : ∀ a : Nat, a < s.heap.size → ¬ A a) : ∃ a : Nat, vk_R "GroupAutomaton" 282 "part is out of range" a s := (exw (nr 426 (by decide +kernel) h)).imp fun a q => vk_R.of (hts _ (inU6 39 (by decide +kernel))) q
theorem mg_12 {b : Addr} {s : State} {A : Nat → Prop} (hts : ∀ w ∈ lw_tbl, w.before #[Value.ref b] s = true) (h : narrow_1.before #[Value.ref b] s = true) (hA : ∀ a : Nat, a < s.heap.size → ¬ A a) : ∃ a : Nat, vk_R "GroupAutomaton" 288 "no such row" a s := (exw (nr 450 (by decide +kernel) h)).imp fun a q => vk_R.of (hts _ (inU6 51 (by decide +kernel))) q
theorem mg_13 {b : Addr} {s : State} {A : Nat → Prop} (hts : ∀ w ∈ lw_tbl, w.before #[Value.ref b] s = true) (h : narrow_1.before #[Value.ref b] s = true) (hA : ∀ a : Nat, a < s.heap.size → ¬ A a) : ∃ a : Nat, vk_R "GroupAutomaton" 295 "no such cell" a s := (exw (nr 465 (by decide +kernel) h)).imp fun a q => vk_R.of (hts _ (inU6 69 (by decide +kernel))) q
theorem mg_14 {b : Addr} {s : State} {A : Nat → Prop} (hts : ∀ w ∈ lw_tbl, w.before #[Value.ref b] s = true) (h : narrow_1.before #[Value.ref b] s = true) (hA : ∀ a : Nat, a < s.heap.size → ¬ A a) : ∃ a : Nat, vk_R "GroupAutomaton" 314 "there is no such ring" a s := (exw (nr 481 (by decide +kernel) h)).imp fun a q => vk_R.of (hts _ (inU6 94 (by decide +kernel))) q
theorem mg_15 {b : Addr} {s : State} {A : Nat → Prop} (hts : ∀ w ∈ lw_tbl, w.before #[Value.ref b] s = true) (h : narrow_1.before #[Value.ref b] s = true) (hA : ∀ a : Nat, a < s.heap.size → ¬ A a) : ∃ a : Nat, vk_R "GroupAutomaton" 320 "no ring comes twice soon enough" a s := (exw (nr 506 (by decide +kernel) h)).imp fun a q => vk_R.of (hts _ (inU6 129 (by decide +kernel))) q
theorem mg_16 {b : Addr} {s : State} {A : Nat → Prop} (hts : ∀ w ∈ lw_tbl, w.before #[Value.ref b] s = true) (h : narrow_1.before #[Value.ref b] s = true) (hA : ∀ a : Nat, a < s.heap.size → ¬ A a) : ∃ a : Nat, vk_R "GroupAutomaton" 328 "no such size" a s := (exw (nr 541 (by decide +kernel) h)).imp fun a q => vk_R.of (hts _ (inU6 137 (by decide +kernel))) q
theorem mg_17 {b : Addr} {s : State} {A : Nat → Prop} (hts : ∀ w ∈ lw_tbl, w.before #[Value.ref b] s = true) (h : narrow_1.before #[Value.ref b] s = true) (hA : ∀ a : Nat, a < s.heap.size → ¬ A a) : ∃ a : Nat, vk_R "GroupAutomaton" 336 "steps is out of range" a s := (exw (nr 557 (by decide +kernel) h)).imp fun a q => vk_R.of (hts _ (inU6 161 (by decide +kernel))) q
theorem mg_18 {b : Addr} {s : State} {A : Nat → Prop} (hts : ∀ w ∈ lw_tbl, w.before #[Value.ref b] s = true) (h : narrow_1.before #[Value.ref b] s = true) (hA : ∀ a : Nat, a < s.heap.size → ¬ A a) : ∃ a : Nat, vk_R "GroupAutomaton" 349 "the inverse rule has no state for a word" a s := (exw (nr 582 (by decide +kernel) h)).imp fun a q => vk_R.of (hts _ (inU6 189 (by decide +kernel))) q
theorem mg_19 {b : Addr} {s : State} {A : Nat → Prop} (hts : ∀ w ∈ lw_tbl, w.before #[Value.ref b] s = true) (h : narrow_1.before #[Value.ref b] s = true) (hA : ∀ a : Nat, a < s.heap.size → ¬ A a) : ∃ a : Nat, vk_R "GroupAutomaton" 351 "no such cell or state" a s := (exw (nr 626 (by decide +kernel) h)).imp fun a q => vk_R.of (hts _ (inU6 197 (by decide +kernel))) q
theorem mg_20 {b : Addr} {s : State} {A : Nat → Prop} (hts : ∀ w ∈ lw_tbl, w.before #[Value.ref b] s = true) (h : narrow_1.before #[Value.ref b] s = true) (hA : ∀ a : Nat, a < s.heap.size → ¬ A a) : ∃ a : Nat, vk_R "GroupAutomaton" 356 "the ring is full" a s := (exw (nr 651 (by decide +kernel) h)).imp fun a q => vk_R.of (hts _ (inU6 205 (by decide +kernel))) q
theorem mg_21 {b : Addr} {s : State} {A : Nat → Prop} (hts : ∀ w ∈ lw_tbl, w.before #[Value.ref b] s = true) (h : narrow_1.before #[Value.ref b] s = true) (hA : ∀ a : Nat, a < s.heap.size → ¬ A a) : ∃ a : Nat, vk_R "GroupAutomaton" 364 "no such slot" a s := (exw (nr 671 (by decide +kernel) h)).imp fun a q => vk_R.of (hts _ (inU6 213 (by decide +kernel))) q
theorem mg_22 {b : Addr} {s : State} {A : Nat → Prop} (hts : ∀ w ∈ lw_tbl, w.before #[Value.ref b] s = true) (h : narrow_1.before #[Value.ref b] s = true) (hA : ∀ a : Nat, a < s.heap.size → ¬ A a) : ∃ a : Nat, vk_R "GroupAutomaton" 370 "the slot is empty" a s := (exw (nr 687 (by decide +kernel) h)).imp fun a q => vk_R.of (hts _ (inU6 225 (by decide +kernel))) q
theorem mg_23 {b : Addr} {s : State} {A : Nat → Prop} (hts : ∀ w ∈ lw_tbl, w.before #[Value.ref b] s = true) (h : narrow_1.before #[Value.ref b] s = true) (hA : ∀ a : Nat, a < s.heap.size → ¬ A a) : ∃ a : Nat, vk_R "GroupAutomaton" 372 "the ring in the slot has another size" a s := (exw (nr 708 (by decide +kernel) h)).imp fun a q => vk_R.of (hts _ (inU6 226 (by decide +kernel))) q
theorem mg_24 {b : Addr} {s : State} {A : Nat → Prop} (hts : ∀ w ∈ lw_tbl, w.before #[Value.ref b] s = true) (h : narrow_1.before #[Value.ref b] s = true) (hA : ∀ a : Nat, a < s.heap.size → ¬ A a) : ∃ a : Nat, vk_R "GroupAutomaton" 374 "there is nothing to undo" a s := (exw (nr 749 (by decide +kernel) h)).imp fun a q => vk_R.of (hts _ (inU6 234 (by decide +kernel))) q
theorem mg_all {b : Addr} {s : State} {A : Nat → Prop} (hts : ∀ w ∈ lw_tbl, w.before #[Value.ref b] s = true) (h : narrow_1.before #[Value.ref b] s = true) (hA : ∀ a : Nat, a < s.heap.size → ¬ A a) : ∀ q ∈ msgs, ∃ a : Nat, vk_R q.1 q.2.1 q.2.2 a s := by
  intro q hq
  simp only [msgs, List.mem_cons, List.not_mem_nil, or_false] at hq
  rcases hq with rfl | rfl | rfl | rfl | rfl | rfl | rfl | rfl | rfl | rfl | rfl | rfl | rfl | rfl | rfl | rfl | rfl | rfl | rfl | rfl | rfl | rfl | rfl | rfl | rfl
  · exact mg_0 hts h hA
  · exact mg_1 hts h hA
  · exact mg_2 hts h hA
  · exact mg_3 hts h hA
  · exact mg_4 hts h hA
  · exact mg_5 hts h hA
  · exact mg_6 hts h hA
  · exact mg_7 hts h hA
  · exact mg_8 hts h hA
  · exact mg_9 hts h hA
  · exact mg_10 hts h hA
  · exact mg_11 hts h hA
  · exact mg_12 hts h hA
  · exact mg_13 hts h hA
  · exact mg_14 hts h hA
  · exact mg_15 hts h hA
  · exact mg_16 hts h hA
  · exact mg_17 hts h hA
  · exact mg_18 hts h hA
  · exact mg_19 hts h hA
  · exact mg_20 hts h hA
  · exact mg_21 hts h hA
  · exact mg_22 hts h hA
  · exact mg_23 hts h hA
  · exact mg_24 hts h hA
theorem im_ok {b : Addr} {s : State} {A : Nat → Prop} (hts : ∀ w ∈ lw_tbl, w.before #[Value.ref b] s = true) (h : narrow_1.before #[Value.ref b] s = true) (hA : ∀ a : Nat, a < s.heap.size → ¬ A a) : ∃ t : Nat, va_Z "GroupAutomaton$Group" "IMAGES" "[I" (.ref t) A s s.heap ∧ va_T .int t 18 (fun j => .int (Int32.ofInt (imgs.getD j 0))) A s s.heap := by
  obtain ⟨t, ht, hT⟩ := va_Tof (tm := (Jvm.Term.static "GroupAutomaton$Group" "IMAGES" "[I")) (ty := .int) (N := 18) (f := fun j => .int (Int32.ofInt (imgs.getD j 0))) (A := A) (by decide) (nr 10 (by decide +kernel) h) (va_eqt (nr 11 (by decide +kernel) h))
    (fun j hj => match j, hj with
      | 0, _ => va_eqt (nr 12 (by decide +kernel) h)
      | 1, _ => va_eqt (nr 13 (by decide +kernel) h)
      | 2, _ => va_eqt (nr 14 (by decide +kernel) h)
      | 3, _ => va_eqt (nr 15 (by decide +kernel) h)
      | 4, _ => va_eqt (nr 16 (by decide +kernel) h)
      | 5, _ => va_eqt (nr 17 (by decide +kernel) h)
      | 6, _ => va_eqt (nr 18 (by decide +kernel) h)
      | 7, _ => va_eqt (nr 19 (by decide +kernel) h)
      | 8, _ => va_eqt (nr 20 (by decide +kernel) h)
      | 9, _ => va_eqt (nr 21 (by decide +kernel) h)
      | 10, _ => va_eqt (nr 22 (by decide +kernel) h)
      | 11, _ => va_eqt (nr 23 (by decide +kernel) h)
      | 12, _ => va_eqt (nr 24 (by decide +kernel) h)
      | 13, _ => va_eqt (nr 25 (by decide +kernel) h)
      | 14, _ => va_eqt (nr 26 (by decide +kernel) h)
      | 15, _ => va_eqt (nr 27 (by decide +kernel) h)
      | 16, _ => va_eqt (nr 28 (by decide +kernel) h)
      | 17, _ => va_eqt (nr 29 (by decide +kernel) h)
      | j + 18, hj => absurd hj (by omega)) hA
  exact ⟨t, va_Zref (hts _ (inU4 239 (by decide +kernel))) (hts _ (inU1 4 (by decide +kernel))) ht hA, hT⟩
theorem ar_ok {args : Array Value} {s : State} {ty : FieldType} (hp : ∀ C, ty ≠ .object C) (h : (Cond.arrayClass ty).before args s = true) : ∃ cA : ClassId, ArrOfT s cA ty ∧ s.vm.findClass ("[" ++ ty.toString) = some cA := by
  obtain ⟨cA, kA, comp, h1, h2, h3⟩ := Cond.arrayClass_spec h
  exact ⟨cA, fun n z => ⟨fun k h => (by cases h), kA, h2, comp, h3⟩, h1⟩
theorem kn_all {b : Addr} {s : State} (hts : ∀ w ∈ lw_tbl, w.before #[Value.ref b] s = true) : ∀ c : Nat, ∃ p : ClassId × (Nat → Nat), ∀ q, vwCl[c]? = some q → u_Kn s q.1 q.2.1 q.2.2 p.1 p.2
  | 0 => by
    obtain ⟨cC, iS, g⟩ := u_known (C := RX0) (T := TX0) (N := 6) (n := 6) hts mx0 (hts _ (List.mem_filter.mp in_X0).1)
    exact ⟨(cC, iS), fun q e => by cases e; exact g⟩
  | 1 => by
    obtain ⟨cC, iS, g⟩ := u_known (C := RX1) (T := TX1) (N := 7) (n := 7) hts mx1 (hts _ (List.mem_filter.mp in_X1).1)
    exact ⟨(cC, iS), fun q e => by cases e; exact g⟩
  | 2 => by
    obtain ⟨cC, iS, g⟩ := u_known (C := RX2) (T := TX2) (N := 2) (n := 2) hts mx2 (hts _ (List.mem_filter.mp in_X2).1)
    exact ⟨(cC, iS), fun q e => by cases e; exact g⟩
  | 3 => by
    obtain ⟨cC, iS, g⟩ := u_known (C := RX3) (T := TX3) (N := 7) (n := 7) hts mx3 (hts _ (List.mem_filter.mp in_X3).1)
    exact ⟨(cC, iS), fun q e => by cases e; exact g⟩
  | 4 => by
    obtain ⟨cC, iS, g⟩ := u_known (C := RX4) (T := TX4) (N := 7) (n := 7) hts mx4 (hts _ (List.mem_filter.mp in_X4).1)
    exact ⟨(cC, iS), fun q e => by cases e; exact g⟩
  | 5 => by
    obtain ⟨cC, iS, g⟩ := u_known (C := RX5) (T := TX5) (N := 3) (n := 3) hts mx5 (hts _ (List.mem_filter.mp in_X5).1)
    exact ⟨(cC, iS), fun q e => by cases e; exact g⟩
  | 6 => by
    obtain ⟨cC, iS, g⟩ := u_known (C := RX6) (T := TX6) (N := 6) (n := 6) hts mx6 (hts _ (List.mem_filter.mp in_X6).1)
    exact ⟨(cC, iS), fun q e => by cases e; exact g⟩
  | 7 => by
    obtain ⟨cC, iS, g⟩ := u_known (C := RX7) (T := TX7) (N := 2) (n := 2) hts mx7 (hts _ (List.mem_filter.mp in_X7).1)
    exact ⟨(cC, iS), fun q e => by cases e; exact g⟩
  | 8 => by
    obtain ⟨cC, iS, g⟩ := u_known (C := RX8) (T := TX8) (N := 8) (n := 8) hts mx8 (hts _ (List.mem_filter.mp in_X8).1)
    exact ⟨(cC, iS), fun q e => by cases e; exact g⟩
  | 9 => by
    obtain ⟨cC, iS, g⟩ := u_known (C := RX9) (T := TX9) (N := 6) (n := 6) hts mx9 (hts _ (List.mem_filter.mp in_X9).1)
    exact ⟨(cC, iS), fun q e => by cases e; exact g⟩
  | 10 => by
    obtain ⟨cC, iS, g⟩ := u_known (C := RX10) (T := TX10) (N := 3) (n := 3) hts mx10 (hts _ (List.mem_filter.mp in_X10).1)
    exact ⟨(cC, iS), fun q e => by cases e; exact g⟩
  | 11 => by
    obtain ⟨cC, iS, g⟩ := u_known (C := RX11) (T := TX11) (N := 15) (n := 15) hts mx11 (hts _ (List.mem_filter.mp in_X11).1)
    exact ⟨(cC, iS), fun q e => by cases e; exact g⟩
  | 12 => by
    obtain ⟨cC, iS, g⟩ := u_known (C := RX12) (T := TX12) (N := 55) (n := 55) hts mx12 (hts _ (List.mem_filter.mp in_X12).1)
    exact ⟨(cC, iS), fun q e => by cases e; exact g⟩
  | i + 13 => ⟨(0, fun _ => 0), fun q e => by cases e⟩
theorem XL0 : Cond.declares (Bundle.initS "java/lang/RuntimeException") ∈ lw_tbl := (inU4 44 (by decide +kernel))
theorem XL1 : Cond.declares (Bundle.initS "java/lang/Exception") ∈ lw_tbl := (inU4 46 (by decide +kernel))
theorem XL2 : Cond.declares (Bundle.initS Bundle.tN) ∈ lw_tbl := (inU4 48 (by decide +kernel))
theorem XL3 : Cond.castable exS exS ∈ lw_tbl := (inU4 42 (by decide +kernel))
theorem XL4 : Cond.castable exB exB ∈ lw_tbl := (inU4 124 (by decide +kernel))
theorem XL5 : Cond.castable exA exA ∈ lw_tbl := (inU5 82 (by decide +kernel))
theorem XL6 : Cond.castable exN exN ∈ lw_tbl := (inU5 198 (by decide +kernel))
theorem xw_ok {b : Addr} {s : State} {A : Nat → Prop} (hts : ∀ w ∈ lw_tbl, w.before #[Value.ref b] s = true) (h : narrow_1.before #[Value.ref b] s = true) (hA : ∀ a : Nat, a < s.heap.size → ¬ A a) : XW s := by
  refine ⟨fun w hw a => ?_, fun q hq => ?_⟩
  · simp only [XLw, List.mem_cons, List.not_mem_nil, or_false] at hw
    rcases hw with rfl | rfl | rfl | rfl | rfl | rfl | rfl
    · exact va_tabs rfl rfl (hts _ XL0)
    · exact va_tabs rfl rfl (hts _ XL1)
    · exact va_tabs rfl rfl (hts _ XL2)
    · exact va_tabs rfl rfl (hts _ XL3)
    · exact va_tabs rfl rfl (hts _ XL4)
    · exact va_tabs rfl rfl (hts _ XL5)
    · exact va_tabs rfl rfl (hts _ XL6)
  · simp only [XNp, List.mem_cons, List.not_mem_nil, or_false] at hq
    rcases hq with rfl | rfl | rfl | rfl | rfl | rfl | rfl | rfl | rfl | rfl | rfl | rfl
    · exact va_Nc.of (nr 59 (by decide +kernel) h)
    · exact va_Nc.of (nr 75 (by decide +kernel) h)
    · exact va_Nc.of (nr 91 (by decide +kernel) h)
    · exact va_Nc.of (nr 43 (by decide +kernel) h)
    · exact va_Nc.of (nr 76 (by decide +kernel) h)
    · exact va_Nc.of (nr 92 (by decide +kernel) h)
    · exact va_Nc.of (nr 44 (by decide +kernel) h)
    · exact va_Nc.of (nr 60 (by decide +kernel) h)
    · exact va_Nc.of (nr 93 (by decide +kernel) h)
    · exact va_Nc.of (nr 45 (by decide +kernel) h)
    · exact va_Nc.of (nr 61 (by decide +kernel) h)
    · exact va_Nc.of (nr 77 (by decide +kernel) h)
theorem kk_start {s : State} {b L : Nat} {xs : Nat → Int32} (hts : ∀ w ∈ lw_tbl, w.before #[Value.ref b] s = true) (hX : va_X b L xs s s.heap) (hbl : b < s.heap.size) (hg : (Jvm.Cond.and given_1 narrow_1).before #[Value.ref b] s = true) : ∃ Y : Lay, yz Y = s.heap.size ∧ yb Y = b ∧ yLn Y = L ∧ yX Y = xs ∧ KK Y s ∧ XW s := by
  rw [Cond.before_and, Bool.and_eq_true] at hg
  have h := hg.2
  have hA : ∀ a : Nat, a < s.heap.size → ¬ (fun q => s.heap.size ≤ q) a := fun a ha => Nat.not_le.mpr ha
  obtain ⟨kn, hkn⟩ := Classical.axiomOfChoice (kn_all hts)
  obtain ⟨ks, hks⟩ := Classical.axiomOfChoice (ks_all hts h hA)
  obtain ⟨im, him⟩ := im_ok hts h hA
  obtain ⟨cI, aI, fI⟩ := ar_ok (ty := .int) (fun _ e => by cases e) (hts _ (List.mem_filter.mp ac_int).1)
  obtain ⟨cL, aL, fL⟩ := ar_ok (ty := .long) (fun _ e => by cases e) (hts _ (List.mem_filter.mp ac_long).1)
  obtain ⟨cZ, aZ, fZ⟩ := ar_ok (ty := .boolean) (fun _ e => by cases e) (hts _ (List.mem_filter.mp ac_boolean).1)
  refine ⟨(fun c => (kn c).1, fun c => (kn c).2, (cI, cL, cZ), s.heap.size, im, fun i => (ks i).1, fun i => (ks i).2, b, L, xs), rfl, rfl, rfl, rfl, ⟨⟨fun c q e => hkn c q e, fun k q e => ?_⟩, fun q hq => ?_, fun i q e => hks i q e, ⟨va_Zof (hts _ (inU4 187 (by decide +kernel))) (hts _ (inU1 20 (by decide +kernel))) (va_eqt (nr 4 (by decide +kernel) h)) hA, va_Zqof (hts _ (inU4 203 (by decide +kernel))) (hts _ (inU1 22 (by decide +kernel))) (nr 5 (by decide +kernel) h) hA⟩, him, mg_all hts h hA, vx_Zqof (hts _ (inU4 67 (by decide +kernel))) (hts _ (inU1 15 (by decide +kernel))) (nr 2 (by decide +kernel) h) hA, vx_Zqof (hts _ (inU4 69 (by decide +kernel))) (hts _ (inU1 15 (by decide +kernel))) (nr 3 (by decide +kernel) h) hA, hX, hbl, Nat.le_refl _⟩, xw_ok hts h hA⟩
  · match k, e with
    | 0, e => cases e; exact ⟨aI, fI⟩
    | 1, e => cases e; exact ⟨aL, fL⟩
    | 2, e => cases e; exact ⟨aZ, fZ⟩
    | k + 3, e => cases e
  · obtain ⟨w, hw, e⟩ := List.mem_filterMap.mp hq
    have hb := hts w (List.mem_append_right _ hw)
    cases w <;> simp only [reduceCtorEq, Option.some.injEq] at e
    subst e
    exact va_Nw.of rfl hb
