/-! words for the plain side -/
theorem ofR_some (a : Nat) : ofR (some a) = .ref a := rfl
theorem ofR_none : ofR none = .null := rfl
theorem cs_0 : (([] : List Value).map fun v => v.category).sum ≤ 8 := by decide
theorem cs_i {a : Int32} : ([Value.int a].map fun v => v.category).sum ≤ 8 := by show 1 + 0 ≤ 8; omega
theorem cs_r {a : Nat} : ([Value.ref a].map fun v => v.category).sum ≤ 8 := by show 1 + 0 ≤ 8; omega
theorem cs_l {a : Int64} : ([Value.long a].map fun v => v.category).sum ≤ 8 := by show 2 + 0 ≤ 8; omega
theorem cs_ii {a b : Int32} : ([Value.int a, Value.int b].map fun v => v.category).sum ≤ 8 := by show 1 + (1 + 0) ≤ 8; omega
theorem cs_ir {a : Int32} {b : Nat} : ([Value.int a, Value.ref b].map fun v => v.category).sum ≤ 8 := by show 1 + (1 + 0) ≤ 8; omega
theorem cs_ri {a : Int32} {b : Nat} : ([Value.ref b, Value.int a].map fun v => v.category).sum ≤ 8 := by show 1 + (1 + 0) ≤ 8; omega
theorem cs_rr {a b : Nat} : ([Value.ref b, Value.ref a].map fun v => v.category).sum ≤ 8 := by show 1 + (1 + 0) ≤ 8; omega
theorem cs_iir {a b : Int32} {c : Nat} : ([Value.int a, Value.int b, Value.ref c].map fun v => v.category).sum ≤ 8 := by show 1 + (1 + (1 + 0)) ≤ 8; omega
theorem cs_irr {a : Int32} {b c : Nat} : ([Value.int a, Value.ref b, Value.ref c].map fun v => v.category).sum ≤ 8 := by show 1 + (1 + (1 + 0)) ≤ 8; omega
theorem cs_3 {a b c : Value} (ha : a.category = 1) (hb : b.category = 1) (hc : c.category = 1) : ([a, b, c].map fun v => v.category).sum ≤ 8 := by simp [ha, hb, hc]
theorem cs_4 {a b c e : Value} (ha : a.category = 1) (hb : b.category = 1) (hc : c.category = 1) (he : e.category = 1) : ([a, b, c, e].map fun v => v.category).sum ≤ 8 := by simp [ha, hb, hc, he]
theorem cs_5 {a b c e f : Value} (ha : a.category = 1) (hb : b.category = 1) (hc : c.category = 1) (he : e.category = 1) (hf : f.category = 1) : ([a, b, c, e, f].map fun v => v.category).sum ≤ 8 := by simp [ha, hb, hc, he, hf]
theorem cat_i {a : Int32} : (Value.int a).category = 1 := rfl
theorem cat_r {a : Nat} : (Value.ref a).category = 1 := rfl
theorem inb_n {k n : Nat} (h : k < n) (hn : n < 2 ^ 31) : inb (nI k) n = true := inb_iff.mpr (nI_in h hn)
theorem s2_s {α : Type} {f : Nat → Nat → α} {a k : Nat} {x : α} : s2 f a k x a k = x := by rw [s2_eq, if_pos rfl]
theorem s2_o {α : Type} {f : Nat → Nat → α} {a k j : Nat} {x : α} (h : j ≠ k) : s2 f a k x a j = f a j := by rw [s2_eq, if_neg h]
theorem s1_s {α : Type} {f : Nat → α} {a : Nat} {x : α} : s1 f a x a = x := by unfold s1; rw [if_pos rfl]
theorem s1_o {α : Type} {f : Nat → α} {a b : Nat} {x : α} (h : b ≠ a) : s1 f a x b = f b := by unfold s1; rw [if_neg h]
/-- a chain of equal things -/
theorem chain {α : Type} (F : Nat → α) (N : Nat) (h : ∀ k, k < N → F k = F (k + 1)) : F 0 = F N := by
  induction N with
  | zero => rfl
  | succ n ih => exact (ih (fun k hk => h k (Nat.lt_succ_of_lt hk))).trans (h n (Nat.lt_succ_self n))
theorem chain2 {α : Type} (F : Nat → α) (M N : Nat) (hMN : M ≤ N) (h : ∀ k, M ≤ k → k < N → F k = F (k + 1)) : F M = F N := by
  obtain ⟨j, rfl⟩ := Nat.le.dest hMN
  induction j with
  | zero => rfl
  | succ n ih => exact (ih (by omega) (fun k h1 h2 => h k h1 (by omega))).trans (h (M + n) (by omega) (by omega))
/-- a scene at a -/
def Sc (G : Gm) (a : Nat) : Prop := gT G a = (16, 6) ∧ gR G a 0 = some (a + 1) ∧ gR G a 1 = some (a + 2) ∧ gR G a 2 = some (a + 3) ∧ gT G (a + 1) = (0, 6) ∧ gT G (a + 2) = (0, 6) ∧ gT G (a + 3) = (0, 6)
/-- towels at a -/
def To (G : Gm) (a : Nat) : Prop := gT G a = (19, 9) ∧ gR G a 3 = some (a + 1) ∧ gR G a 4 = some (a + 2) ∧ gR G a 5 = some (a + 3) ∧ gR G a 6 = some (a + 4) ∧ gR G a 7 = some (a + 5) ∧ gR G a 8 = some (a + 6) ∧
  gT G (a + 1) = (0, 3) ∧ gT G (a + 2) = (0, 3) ∧ gT G (a + 3) = (0, 3) ∧ gT G (a + 4) = (0, 6) ∧ gT G (a + 5) = (0, 6) ∧ gT G (a + 6) = (0, 6)
/-- bathers at a -/
def Ba (G : Gm) (a : Nat) : Prop := gT G a = (10, 7) ∧ gR G a 1 = some (a + 1) ∧ gR G a 2 = some (a + 2) ∧ gR G a 3 = some (a + 3) ∧ gR G a 4 = some (a + 4) ∧ gR G a 5 = some (a + 5) ∧ gR G a 6 = some (a + 6) ∧
  gT G (a + 1) = (0, 6) ∧ gT G (a + 2) = (0, 6) ∧ gT G (a + 3) = (0, 6) ∧ gT G (a + 4) = (0, 6) ∧ gT G (a + 5) = (0, 6) ∧ gT G (a + 6) = (0, 6)
/-- a shore at s: its towels at s + 1, bathers at s + 8, plan at s + 15, the rows of what wind leaves at s + 73 .. s + 81 -/
def Sh (G : Gm) (s : Nat) : Prop := gT G s = (17, 11) ∧ gR G s 6 = some (s + 1) ∧ gR G s 7 = some (s + 8) ∧ gR G s 8 = some (s + 15) ∧ gR G s 9 = some (s + 73) ∧ gR G s 10 = some (s + 81) ∧ To G (s + 1) ∧ Ba G (s + 8) ∧
  gT G (s + 73) = (5, 7) ∧ (∀ k, k < 7 → gR G (s + 73) k = some (s + 74 + k) ∧ gT G (s + 74 + k) = (0, 100)) ∧ gT G (s + 81) = (0, 100)
/-- a loop's numbers -/
def fo {α : Type} (a0 : α) (f : α → Nat → α) : Nat → α
  | 0 => a0
  | k + 1 => f (fo a0 f k) k
theorem fo_0 {α : Type} (a0 : α) (f : α → Nat → α) : fo a0 f 0 = a0 := rfl
theorem fo_s {α : Type} (a0 : α) (f : α → Nat → α) (k : Nat) : fo a0 f (k + 1) = f (fo a0 f k) k := rfl
theorem nI_nn {n : Nat} : ¬ nI n < nI n := Int32.lt_irrefl _
theorem k31 {k n : Nat} (h : k < n) (hn : n < 2 ^ 31) : k < 2 ^ 31 := by omega
