/-! A MACHINE OF OUR OWN over a flat memory: a cell is a number, its slots are numbers. exec runs a method's code; what it answers, the class file's machine answers (the parts behind). -/
/-- cells, slots made; of a cell its kind and how many slots; the references; the longs -/
abbrev Gm : Type := (Nat × Nat) × (Nat → Nat × Nat) × (Nat → Nat → Option Nat) × (Nat → Nat → Int64)
/-- the ints (bytes, booleans) -/
abbrev Im : Type := Nat → Nat → Int32
def gN (G : Gm) : Nat := G.1.1
def gS (G : Gm) : Nat := G.1.2
def gT (G : Gm) : Nat → Nat × Nat := G.2.1
def gR (G : Gm) : Nat → Nat → Option Nat := G.2.2.1
def gJ (G : Gm) : Nat → Nat → Int64 := G.2.2.2
def s2 {α : Type} (f : Nat → Nat → α) (a k : Nat) (x : α) : Nat → Nat → α := fun b => if b = a then (fun j => if j = k then x else f a j) else f b
def s1 {α : Type} (f : Nat → α) (a : Nat) (x : α) : Nat → α := fun b => if b = a then x else f b
def gSetR (G : Gm) (a k : Nat) (r : Option Nat) : Gm := (G.1, gT G, s2 (gR G) a k r, gJ G)
def gSetJ (G : Gm) (a k : Nat) (x : Int64) : Gm := (G.1, gT G, gR G, s2 (gJ G) a k x)
/-- one cell more -/
def gNew (G : Gm) (t : Nat × Nat) : Gm := ((gN G + 1, gS G + t.2), s1 (gT G) (gN G) t, s1 (gR G) (gN G) (fun _ => none), s1 (gJ G) (gN G) (fun _ => 0))
def iNew (I : Im) (n : Nat) : Im := s1 I n (fun _ => 0)
/-- n rows of k ints behind an outer row -/
def gMul (G : Gm) (n k : Nat) : Gm :=
  ((gN G + 1 + n, gS G + n + n * k), (fun b => if b = gN G then (5, n) else if gN G < b ∧ b < gN G + 1 + n then (0, k) else gT G b),
   (fun b => if b = gN G then (fun j => if j < n then some (gN G + 1 + j) else none) else if gN G < b ∧ b < gN G + 1 + n then (fun _ => none) else gR G b),
   (fun b => if gN G ≤ b ∧ b < gN G + 1 + n then (fun _ => 0) else gJ G b))
def iMul (G : Gm) (I : Im) (n : Nat) : Im := fun b => if gN G ≤ b ∧ b < gN G + 1 + n then (fun _ => 0) else I b
def ofR (r : Option Nat) : Value := match r with
  | none => .null
  | some v => .ref v
/-- a slot's value: kind 0 int, 1 long, else a reference -/
def cval (kd : Nat) (G : Gm) (I : Im) (a k : Nat) : Value := if kd = 0 then .int (I a k) else if kd = 1 then .long (gJ G a k) else ofR (gR G a k)
/-- an index that is in -/
def inb (i : Int32) (n : Nat) : Bool := !(decide (i < 0)) && decide (i.toNatClampNeg < n)
/-- the kind of a field's slot by its type -/
def tyKd (t : FieldType) : Nat := match t with
  | .boolean => 0
  | .byte => 0
  | .int => 0
  | .long => 1
  | .object _ => 2
  | .array _ => 2
  | _ => 9
abbrev Nx : Type := Nat × List Slot × List Value × Gm × Im
abbrev Out : Type := Nx ⊕ Option Value ⊕ (MD × List Value × List Value × Nat)
def nx (pc : Nat) (ls : List Slot) (st : List Value) (G : Gm) (I : Im) : Option Out := some (.inl (pc, ls, st, G, I))
/-- the place of a jump -/
def jmp (pc : Nat) (off : Int) (ls : List Slot) (st : List Value) (G : Gm) (I : Im) : Option Out := if 0 ≤ (pc : Int) + off then nx ((pc : Int) + off).toNat ls st G I else none
def isLong (x : Option Slot) : Bool := match x with
  | some (.val v) => v.category == 2
  | _ => false
/-- a local of one slot gets a value -/
def stL (ls : List Slot) (i : Nat) (v : Value) : Option (List Slot) := if i < ls.length ∧ (i = 0 ∨ isLong ls[i - 1]? = false) then some (ls.set i (.val v)) else none
def stL2 (ls : List Slot) (i : Nat) (v : Value) : Option (List Slot) := if i + 1 < ls.length ∧ (i = 0 ∨ isLong ls[i - 1]? = false) then some ((ls.set i (.val v)).set (i + 1) .second) else none
def cmpI (c : ClassFile.Cond) (x y : Int32) : Prop := match c with
  | .eq => x = y
  | .ne => ¬ x = y
  | .lt => x < y
  | .ge => y ≤ x
  | .gt => y < x
  | .le => x ≤ y
