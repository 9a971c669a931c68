/-! methods as we hold them -/
/-- a method: its class, name, bytes, locals, answer, arguments on the stack, sort (0 of an object, 1 a constructor, 2 static), code -/
abbrev MD : Type := Nat × MethodName × ByteArray × Nat × Option FieldType × Nat × Nat × List (Nat × Instr × Nat)
def mOwn (m : MD) : Nat := m.1
def mNm (m : MD) : MethodName := m.2.1
def mBy (m : MD) : ByteArray := m.2.2.1
def mMax (m : MD) : Nat := m.2.2.2.1
def mRet (m : MD) : Option FieldType := m.2.2.2.2.1
/-- how many arguments stand on the stack -/
def mArg (m : MD) : Nat := m.2.2.2.2.2.1
def mSo (m : MD) : Nat := m.2.2.2.2.2.2.1
def mCd (m : MD) : List (Nat × Instr × Nat) := m.2.2.2.2.2.2.2
/-- the code at a place -/
def lk {α : Type} (l : List (Nat × α)) (pc : Nat) : Option α := match l with
  | [] => none
  | q :: t => if q.1 = pc then some q.2 else lk t pc
theorem lk_mem {α : Type} {l : List (Nat × α)} {i : Nat} {v : α} (h : lk l i = some v) : (i, v) ∈ l := by
  induction l with
  | nil => simp [lk] at h
  | cons q t ih =>
    rw [lk] at h
    by_cases e : q.1 = i
    · rw [if_pos e] at h
      cases h
      subst e
      exact List.mem_cons_self
    · rw [if_neg e] at h
      exact List.mem_cons_of_mem _ (ih h)
def lnI (i : Instr) : Nat := match i with
  | .bipush _ => 2
  | .sipush _ => 3
  | .ldc _ => 2
  | .ldc_w _ => 3
  | .ldc2_w _ => 3
  | .iload _ => 2
  | .lload _ => 2
  | .aload _ => 2
  | .istore _ => 2
  | .lstore _ => 2
  | .astore _ => 2
  | .iinc _ _ => 3
  | .ifCond _ _ => 3
  | .if_icmp _ _ => 3
  | .ifnull _ => 3
  | .ifnonnull _ => 3
  | .goto _ => 3
  | .tableswitch _ _ _ _ => 0
  | .getfield _ => 3
  | .putfield _ => 3
  | .new _ => 3
  | .newarray _ => 2
  | .anewarray _ => 3
  | .multianewarray _ _ => 4
  | .invokevirtual _ => 3
  | .invokespecial _ => 3
  | .invokestatic _ => 3
  | _ => 1
