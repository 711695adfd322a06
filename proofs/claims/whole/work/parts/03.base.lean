/-! THE SMALL MACHINE: whole numbers over the law's own cells, which stand at z0, z0 + 1 .. in the order in which they are made. -/
abbrev MV : Type := Nat × Int
abbrev VV : Type := Int → Int → Int
/-- an int, a long, a cell of the world, a String constant, a double by its code, a String's bytes, the static row, the script, any reference, nothing known -/
abbrev vI (x : Int) : MV := (0, x)
abbrev vL (x : Int) : MV := (1, x)
abbrev vA (k : Int) : MV := (2, k)
abbrev vS (k : Int) : MV := (3, k)
abbrev vD (k : Int) : MV := (4, k)
abbrev vB (k : Int) : MV := (5, k)
abbrev vM : MV := (6, 0)
abbrev vP : MV := (7, 0)
abbrev vN (k : Int) : MV := (8, k)
abbrev vU : MV := (9, 0)
abbrev r32 (x : Int) : Prop := -2147483648 ≤ x ∧ x ≤ 2147483647
abbrev r64 (x : Int) : Prop := -9223372036854775808 ≤ x ∧ x ≤ 9223372036854775807
def okv (v : MV) : Prop := (v.1 = 0 → r32 v.2) ∧ (v.1 = 1 → r64 v.2)
def okl (l : List MV) : Prop := ∀ v ∈ l, okv v
/-- kind (0 object, 1 int[], 2 long[], 3 boolean[]) and class or length of each cell -/
def kdL : List (Nat × Nat) := [(0, 11), (0, 4), (0, 9), (1, 500), (0, 2), (1, 36), (0, 8), (1, 216), (2, 216), (2, 216), (0, 7), (1, 16), (1, 216), (0, 2), (1, 36), (0, 8), (1, 216), (2, 216), (2, 216), (0, 8), (1, 216), (2, 216), (2, 216), (0, 7), (1, 16), (0, 7), (1, 16), (0, 7), (1, 16), (0, 7), (1, 16), (0, 7), (1, 16), (0, 0), (1, 160), (1, 10), (1, 10), (1, 10), (0, 6), (2, 36), (2, 36), (2, 36), (0, 3), (1, 7776), (0, 1), (2, 36), (2, 6), (2, 36), (2, 36), (0, 10), (2, 36), (2, 36), (2, 17), (0, 5), (2, 1001), (0, 12), (1, 36), (1, 6), (1, 216), (1, 16), (1, 36), (1, 216), (1, 16), (1, 8), (3, 216), (1, 32), (1, 2), (1, 2340), (1, 500), (1, 1296), (1, 1296), (3, 1296), (3, 1296), (1, 50000), (1, 7776), (2, 6), (2, 36), (2, 72), (3, 6), (2, 36), (2, 36), (1, 16), (3, 36), (3, 36), (1, 16), (2, 1001), (1, 16), (2, 1)]
def kd (k : Int) : Nat × Nat := kdL.getD k.toNat (9, 0)
/-- the cell that a field of references holds -/
def rfL : List (List Nat) := [[1, 13, 15, 19, 23, 25, 27, 29, 31, 33, 38, 42, 44, 49, 53], [2, 4, 6, 10, 12, 0, 0], [3, 0, 0, 0, 0, 0], [], [5, 0], [], [7, 8, 9, 0, 0, 0, 0, 0], [], [], [], [11, 0], [], [], [14, 0], [], [16, 17, 18, 0, 0, 0, 0, 0], [], [], [], [20, 21, 22, 0, 0, 0, 0, 0], [], [], [], [24, 0], [], [26, 0], [], [28, 0], [], [30, 0], [], [32, 0], [], [34, 35, 36, 37, 0, 0], [], [], [], [], [39, 40, 41, 0, 0, 0], [], [], [], [43, 0, 0, 0, 0, 0, 0], [], [45, 46, 47, 48, 0, 0, 0], [], [], [], [], [50, 51, 52], [], [], [], [54, 0, 0], [], [0, 0, 0, 0, 0, 0, 56, 57, 58, 59, 0, 0, 0, 60, 61, 62, 63, 64, 65, 66, 67, 0, 68, 0, 0, 0, 0, 0, 0, 0, 0, 0, 69, 70, 71, 72, 73, 74, 0, 0, 0, 75, 76, 77, 78, 0, 0, 79, 80, 81, 82, 83, 84, 85, 86], [], [], [], [], [], [], [], [], [], [], [], [], [], [], [], [], [], [], [], [], [], [], [], [], [], [], [], [], [], [], [], []]
def rf (k : Int) (j : Nat) : Int := ((rfL.getD k.toNat []).getD j 0 : Nat)
/-- a field's type by class and place: 0 int, 2 reference, 3 boolean -/
def ftL : List (List Nat) := [[2, 2, 2, 2, 0, 0], [2, 2, 2, 2, 0, 0, 0], [2, 0], [2, 0, 0, 0, 0, 0, 0], [2, 2, 2, 2, 2, 0, 0], [2, 0, 0], [2, 2, 2, 0, 0, 3], [2, 0], [2, 2, 2, 0, 0, 0, 0, 0], [2, 0, 0, 0, 0, 0], [2, 2, 2], [2, 2, 2, 2, 2, 2, 2, 2, 2, 2, 2, 2, 2, 2, 2], [0, 0, 0, 0, 0, 0, 2, 2, 2, 2, 0, 0, 0, 2, 2, 2, 2, 2, 2, 2, 2, 0, 2, 0, 0, 0, 0, 0, 0, 0, 0, 0, 2, 2, 2, 2, 2, 2, 3, 0, 0, 2, 2, 2, 2, 3, 0, 2, 2, 2, 2, 2, 2, 2, 2]]
def ft (ci j : Nat) : Nat := (ftL.getD ci []).getD j 0
def nfL : List Nat := [6, 7, 2, 7, 7, 3, 6, 2, 8, 6, 3, 15, 55]
def imgs : List Int := [0, 1, 2, 0, 2, 1, 1, 0, 2, 1, 2, 0, 2, 0, 1, 2, 1, 0]
/-- the type of a place of a cell: 0 int, 1 long, 2 reference, 3 boolean -/
def cty (k j : Int) : Nat := match (kd k).1 with
  | 0 => ft (kd k).2 j.toNat
  | 1 => 0
  | 2 => 1
  | _ => 3
def okc (t : Nat) (x : Int) : Prop := (t = 0 → r32 x) ∧ (t = 1 → r64 x) ∧ (t = 3 → x = 0 ∨ x = 1)
def okV (V : VV) : Prop := ∀ k j, okc (cty k j) (V k j)
/-- classes by place and their places for fields; the classes of the three kinds of rows; where the world begins; the static row; Strings and their bytes; the script -/
abbrev Lay : Type := (Nat → ClassId) × (Nat → Nat → Nat) × (ClassId × ClassId × ClassId) × Nat × Nat × (Nat → Nat) × (Nat → Nat) × Nat × Nat × (Nat → Int32)
abbrev yD (Y : Lay) : va_G := (Y.1, Y.2.1)
abbrev yI (Y : Lay) : ClassId := Y.2.2.1.1
abbrev yL (Y : Lay) : ClassId := Y.2.2.1.2.1
abbrev yZ (Y : Lay) : ClassId := Y.2.2.1.2.2
abbrev yz (Y : Lay) : Nat := Y.2.2.2.1
abbrev yim (Y : Lay) : Nat := Y.2.2.2.2.1
abbrev yK (Y : Lay) : Nat → Nat := Y.2.2.2.2.2.1
abbrev yV (Y : Lay) : Nat → Nat := Y.2.2.2.2.2.2.1
abbrev yb (Y : Lay) : Nat := Y.2.2.2.2.2.2.2.1
abbrev yLn (Y : Lay) : Nat := Y.2.2.2.2.2.2.2.2.1
abbrev yX (Y : Lay) : Nat → Int32 := Y.2.2.2.2.2.2.2.2.2
def aZ0 (Y : Lay) : Nat → Prop := fun q => yz Y ≤ q
def adr (Y : Lay) (k : Int) : Nat := yz Y + k.toNat
/-- a double by the code 32 a + b : a / b -/
def dcode (k : Int) : UInt64 := FP.ddiv (FP.i2d (Int32.ofInt (k / 32))) (FP.i2d (Int32.ofInt (k % 32)))
def mvv (Y : Lay) (v : MV) : Value := match v.1 with
  | 0 => .int (Int32.ofInt v.2)
  | 1 => .long (Int64.ofInt v.2)
  | 2 => .ref (adr Y v.2)
  | 3 => .ref (yK Y v.2.toNat)
  | 4 => .double (dcode v.2)
  | 5 => .ref (yV Y v.2.toNat)
  | 6 => .ref (yim Y)
  | 7 => .ref (yb Y)
  | 8 => if v.2 = 0 then .null else .ref (v.2 - 1).toNat
  | _ => .null
/-- how many cells are made, which fields of references are set, how many cells and slots the method has made -/
abbrev GS : Type := Nat × (Int → Nat → Bool) × Nat × Nat
def fv (Y : Lay) (G : GS) (V : VV) (k : Int) (ci j : Nat) : Value := if ft ci j = 2 then (if G.2.1 k j then .ref (adr Y (rf k j)) else .null) else .int (Int32.ofInt (V k j))
def cel (Y : Lay) (G : GS) (V : VV) (k : Int) : va_E := match (kd k).1 with
  | 0 => .inr ((kd k).2, (List.range (nfL.getD (kd k).2 0)).map (fv Y G V k (kd k).2))
  | 1 => .inl (yI Y, ((kd k).2, .inl (fun j => Int32.ofInt (V k j))))
  | 2 => .inl (yL Y, ((kd k).2, .inr (.inl (fun j => Int64.ofInt (V k j)))))
  | _ => .inl (yZ Y, ((kd k).2, .inl (fun j => Int32.ofInt (V k j))))
abbrev NC : Nat := 55
abbrev NA : Nat := 88
def Wd (Y : Lay) (G : GS) (V : VV) (H : Heap) : Prop := yz Y + G.1 ≤ H.size ∧ (G.1 < NA → H.size = yz Y + G.1) ∧ ∀ k : Nat, k < G.1 → va_at (yD Y) vwCl (yz Y + k, cel Y G V k) H
def gOK (nx : Nat) (G : GS) : Prop := nx ≤ G.1 ∧ ∀ (k : Int) (j : Nat), 0 ≤ k → k < nx → G.2.1 k j = true
