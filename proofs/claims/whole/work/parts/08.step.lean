/-! one step of our machine -/
def br {α : Type} (c : ClassFile.Cond) (x y : Int32) (a b : α) : α := match c with
  | .eq => if x = y then a else b
  | .ne => if ¬ x = y then a else b
  | .lt => if x < y then a else b
  | .ge => if y ≤ x then a else b
  | .gt => if y < x then a else b
  | .le => if x ≤ y then a else b
def o2 (f : Int32 → Int32 → Int32) (pc : Nat) (ls : List Slot) (st : List Value) (G : Gm) (I : Im) : Option Out := match st with
  | .int y :: .int x :: r => nx pc ls (.int (f x y) :: r) G I
  | _ => none
def o2z (f : Int32 → Int32 → Int32) (pc : Nat) (ls : List Slot) (st : List Value) (G : Gm) (I : Im) : Option Out := match st with
  | .int y :: .int x :: r => if y = 0 then none else nx pc ls (.int (f x y) :: r) G I
  | _ => none
def o2l (f : Int64 → Int64 → Int64) (pc : Nat) (ls : List Slot) (st : List Value) (G : Gm) (I : Im) : Option Out := match st with
  | .long y :: .long x :: r => nx pc ls (.long (f x y) :: r) G I
  | _ => none
def oLd (kd : Nat) (i : Nat) (pc : Nat) (ls : List Slot) (st : List Value) (G : Gm) (I : Im) : Option Out := match kd, ls[i]? with
  | 0, some (.val (.int x)) => nx pc ls (.int x :: st) G I
  | 1, some (.val (.long x)) => nx pc ls (.long x :: st) G I
  | 2, some (.val (.ref x)) => nx pc ls (.ref x :: st) G I
  | _, _ => none
def oSt (kd : Nat) (i : Nat) (pc : Nat) (ls : List Slot) (st : List Value) (G : Gm) (I : Im) : Option Out := match kd, st with
  | 0, .int x :: r => match stL ls i (.int x) with
    | some ls' => nx pc ls' r G I
    | none => none
  | 1, .long x :: r => match stL2 ls i (.long x) with
    | some ls' => nx pc ls' r G I
    | none => none
  | 2, .ref x :: r => match stL ls i (.ref x) with
    | some ls' => nx pc ls' r G I
    | none => none
  | _, _ => none
def oGet (q : Option (Nat × Nat × Bool × Nat)) (nf : Nat → Nat) (ty : Nat → Nat → FieldType) (pc : Nat) (ls : List Slot) (st : List Value) (G : Gm) (I : Im) : Option Out := match q, st with
  | some (ci, k, _), .ref a :: r => if gT G a = (10 + ci, nf ci) ∧ k < nf ci ∧ tyKd (ty ci k) ≤ 2 then nx pc ls (cval (tyKd (ty ci k)) G I a k :: r) G I else none
  | _, _ => none
def oPut (q : Option (Nat × Nat × Bool × Nat)) (nf : Nat → Nat) (ty : Nat → Nat → FieldType) (fin : Nat → Nat → Bool) (m : MD) (pc : Nat) (ls : List Slot) (st : List Value) (G : Gm) (I : Im) : Option Out := match q, st with
  | some (ci, k, _), v :: .ref a :: r => if gT G a = (10 + ci, nf ci) ∧ k < nf ci ∧ (fin ci k = false ∨ ((mNm m).name = "<init>" ∧ mOwn m = ci)) then
      match v with
      | .int x => if tyKd (ty ci k) = 0 ∧ narrow (ty ci k) (.int x) = .int x ∧ fits (ty ci k) (.int x) = true then nx pc ls r G (s2 I a k x) else none
      | .long x => if ty ci k = .long then nx pc ls r (gSetJ G a k x) I else none
      | .ref x => if tyKd (ty ci k) = 2 then nx pc ls r (gSetR G a k (some x)) I else none
      | _ => none
    else none
  | _, _ => none
/-- of an array of kind t: 0 int, 1 byte, 2 boolean, 3 long, 4 Scene, 5 int rows -/
def oAld (ok : Nat → Bool) (pc : Nat) (ls : List Slot) (st : List Value) (G : Gm) (I : Im) : Option Out := match st with
  | .int i :: .ref a :: r => if ok (gT G a).1 = true ∧ inb i (gT G a).2 = true then nx pc ls (cval (if (gT G a).1 ≤ 2 then 0 else if (gT G a).1 = 3 then 1 else 2) G I a i.toNatClampNeg :: r) G I else none
  | _ => none
def oAst (ok : Nat → Bool) (nf : Nat → Nat) (pc : Nat) (ls : List Slot) (st : List Value) (G : Gm) (I : Im) : Option Out := match st with
  | v :: .int i :: .ref a :: r => if ok (gT G a).1 = true ∧ inb i (gT G a).2 = true then
      match v with
      | .int x => if (gT G a).1 = 0 then nx pc ls r G (s2 I a i.toNatClampNeg x) else if (gT G a).1 = 1 then nx pc ls r G (s2 I a i.toNatClampNeg (vp_nar .byte x)) else if (gT G a).1 = 2 then nx pc ls r G (s2 I a i.toNatClampNeg (vp_nar .boolean x)) else none
      | .long x => if (gT G a).1 = 3 then nx pc ls r (gSetJ G a i.toNatClampNeg x) I else none
      | .ref x => if (gT G a).1 = 4 ∧ gT G x = (16, nf 6) then nx pc ls r (gSetR G a i.toNatClampNeg (some x)) I else none
      | _ => none
    else none
  | _ => none
def kArr (t : ArrayType) : Nat := match t with
  | .int => 0
  | .byte => 1
  | .boolean => 2
  | .long => 3
  | _ => 99
def oNewA (kd : Nat) (pc : Nat) (ls : List Slot) (st : List Value) (G : Gm) (I : Im) : Option Out := match st with
  | .int n :: r => if kd ≤ 4 ∧ ¬ n < 0 ∧ n.toNatClampNeg ≤ 100000 then nx pc ls (.ref (gN G) :: r) (gNew G (kd, n.toNatClampNeg)) (iNew I (gN G)) else none
  | _ => none
def oMul (ok : Bool) (pc : Nat) (ls : List Slot) (st : List Value) (G : Gm) (I : Im) : Option Out := match st with
  | .int k :: .int n :: r => if ok = true ∧ ¬ n < 0 ∧ ¬ k < 0 ∧ n.toNatClampNeg ≤ 100000 ∧ k.toNatClampNeg ≤ 100000 then nx pc ls (.ref (gN G) :: r) (gMul G n.toNatClampNeg k.toNatClampNeg) (iMul G I n.toNatClampNeg) else none
  | _ => none
/-- the first is an object, of which p holds -/
def rcv (as : List Value) (p : Nat → Bool) : Bool := match as with
  | .ref b :: _ => p b
  | _ => false
/-- a call: sort 0 of an object, 1 of a constructor, 2 static -/
def oCall (sort : Nat) (q : Option (Bool × MD × Nat)) (nf : Nat → Nat) (pc : Nat) (st : List Value) (G : Gm) : Option Out := match q with
  | some (_, m, _) => if mSo m = sort ∧ mArg m ≤ st.length ∧ (((st.drop (mArg m)).map fun v => v.category).sum ≤ 8) ∧ (sort = 2 ∨ rcv (st.take (mArg m)).reverse (fun b => sort == 1 || gT G b == (10 + mOwn m, nf (mOwn m))) = true) then
      some (.inr (.inr (m, (st.take (mArg m)).reverse, st.drop (mArg m), pc)))
    else none
  | none => none
/-- the JDK's: 0 Object.<init>, 1 max, 2 min, 3 arraycopy, 4 String.length, 5 String.charAt -/
def oJdk (sort : Nat) (q : Option Nat) (str : Nat → Option (List Int32)) (pc : Nat) (ls : List Slot) (st : List Value) (G : Gm) (I : Im) : Option Out := match sort, q, st with
  | 1, some 0, .ref _ :: r => if (r.map fun v => v.category).sum ≤ 8 then nx pc ls r G I else none
  | 2, some 1, .int y :: .int x :: r => if (r.map fun v => v.category).sum ≤ 8 then nx pc ls (.int (if x < y then y else x) :: r) G I else none
  | 2, some 2, .int y :: .int x :: r => if (r.map fun v => v.category).sum ≤ 8 then nx pc ls (.int (if y < x then y else x) :: r) G I else none
  | 2, some 3, .int n :: .int dp :: .ref b :: .int sp :: .ref a :: r =>
    if (r.map fun v => v.category).sum ≤ 8 ∧ (gT G a).1 = 0 ∧ (gT G b).1 = 0 ∧ ¬ a = b ∧ ¬ sp < 0 ∧ ¬ dp < 0 ∧ ¬ n < 0 ∧ sp.toNatClampNeg + n.toNatClampNeg ≤ (gT G a).2 ∧ dp.toNatClampNeg + n.toNatClampNeg ≤ (gT G b).2 then
      nx pc ls r G (s1 I b (va_cpy (I a) (I b) sp.toNatClampNeg dp.toNatClampNeg n.toNatClampNeg)) else none
  | 0, some 4, .ref a :: r => match str a with
    | some l => if (r.map fun v => v.category).sum ≤ 8 then nx pc ls (.int (nI l.length) :: r) G I else none
    | none => none
  | 0, some 5, .int i :: .ref a :: r => match str a with
    | some l => if (r.map fun v => v.category).sum ≤ 8 ∧ inb i l.length = true then nx pc ls (.int (l.getD i.toNatClampNeg 0) :: r) G I else none
    | none => none
  | _, _, _ => none
