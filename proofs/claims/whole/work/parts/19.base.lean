/-! words for the plain side -/
theorem ofR_some (a : Nat) : ofR (some a) = .ref a := rfl
theorem ofR_none : ofR none = .null := rfl
theorem isL_i {y : Int32} : isLong (some (.val (.int y))) = false := by unfold isLong; rfl
theorem isL_r {y : Nat} : isLong (some (.val (.ref y))) = false := by unfold isLong; rfl
theorem isL_u : isLong (some .unset) = false := by unfold isLong; rfl
theorem isL_2 : isLong (some .second) = false := by unfold isLong; rfl
theorem cs_0 : (([] : List Value).map fun v => v.category).sum ≤ 8 := by decide
theorem cs_i {a : Int32} : ([Value.int a].map fun v => v.category).sum ≤ 8 := by show 1 + 0 ≤ 8; omega
theorem cs_r {a : Nat} : ([Value.ref a].map fun v => v.category).sum ≤ 8 := by show 1 + 0 ≤ 8; omega
theorem cs_l {a : Int64} : ([Value.long a].map fun v => v.category).sum ≤ 8 := by show 2 + 0 ≤ 8; omega
theorem cs_ii {a b : Int32} : ([Value.int a, Value.int b].map fun v => v.category).sum ≤ 8 := by show 1 + (1 + 0) ≤ 8; omega
theorem cs_ir {a : Int32} {b : Nat} : ([Value.int a, Value.ref b].map fun v => v.category).sum ≤ 8 := by show 1 + (1 + 0) ≤ 8; omega
theorem cs_ri {a : Int32} {b : Nat} : ([Value.ref b, Value.int a].map fun v => v.category).sum ≤ 8 := by show 1 + (1 + 0) ≤ 8; omega
theorem cs_rr {a b : Nat} : ([Value.ref b, Value.ref a].map fun v => v.category).sum ≤ 8 := by show 1 + (1 + 0) ≤ 8; omega
theorem cs_iir {a b : Int32} {c : Nat} : ([Value.int a, Value.int b, Value.ref c].map fun v => v.category).sum ≤ 8 := by show 1 + (1 + (1 + 0)) ≤ 8; omega
theorem cs_irr {a : Int32} {b c : Nat} : ([Value.int a, Value.ref b, Value.ref c].map fun v => v.category).sum ≤ 8 := by show 1 + (1 + (1 + 0)) ≤ 8; omega
theorem cs_iii {a : Int32} {b : Int32} {c : Int32} : ([Value.int a, Value.int b, Value.int c].map fun v => v.category).sum ≤ 8 := by show 1 + (1 + (1 + (0))) ≤ 8; omega
theorem cs_iri {a : Int32} {b : Nat} {c : Int32} : ([Value.int a, Value.ref b, Value.int c].map fun v => v.category).sum ≤ 8 := by show 1 + (1 + (1 + (0))) ≤ 8; omega
theorem cs_rii {a : Nat} {b : Int32} {c : Int32} : ([Value.ref a, Value.int b, Value.int c].map fun v => v.category).sum ≤ 8 := by show 1 + (1 + (1 + (0))) ≤ 8; omega
theorem cs_rir {a : Nat} {b : Int32} {c : Nat} : ([Value.ref a, Value.int b, Value.ref c].map fun v => v.category).sum ≤ 8 := by show 1 + (1 + (1 + (0))) ≤ 8; omega
theorem cs_rri {a : Nat} {b : Nat} {c : Int32} : ([Value.ref a, Value.ref b, Value.int c].map fun v => v.category).sum ≤ 8 := by show 1 + (1 + (1 + (0))) ≤ 8; omega
theorem cs_rrr {a : Nat} {b : Nat} {c : Nat} : ([Value.ref a, Value.ref b, Value.ref c].map fun v => v.category).sum ≤ 8 := by show 1 + (1 + (1 + (0))) ≤ 8; omega
theorem cs_iiii {a : Int32} {b : Int32} {c : Int32} {d : Int32} : ([Value.int a, Value.int b, Value.int c, Value.int d].map fun v => v.category).sum ≤ 8 := by show 1 + (1 + (1 + (1 + (0)))) ≤ 8; omega
theorem cs_iiir {a : Int32} {b : Int32} {c : Int32} {d : Nat} : ([Value.int a, Value.int b, Value.int c, Value.ref d].map fun v => v.category).sum ≤ 8 := by show 1 + (1 + (1 + (1 + (0)))) ≤ 8; omega
theorem cs_iiri {a : Int32} {b : Int32} {c : Nat} {d : Int32} : ([Value.int a, Value.int b, Value.ref c, Value.int d].map fun v => v.category).sum ≤ 8 := by show 1 + (1 + (1 + (1 + (0)))) ≤ 8; omega
theorem cs_iirr {a : Int32} {b : Int32} {c : Nat} {d : Nat} : ([Value.int a, Value.int b, Value.ref c, Value.ref d].map fun v => v.category).sum ≤ 8 := by show 1 + (1 + (1 + (1 + (0)))) ≤ 8; omega
theorem cs_irii {a : Int32} {b : Nat} {c : Int32} {d : Int32} : ([Value.int a, Value.ref b, Value.int c, Value.int d].map fun v => v.category).sum ≤ 8 := by show 1 + (1 + (1 + (1 + (0)))) ≤ 8; omega
theorem cs_irir {a : Int32} {b : Nat} {c : Int32} {d : Nat} : ([Value.int a, Value.ref b, Value.int c, Value.ref d].map fun v => v.category).sum ≤ 8 := by show 1 + (1 + (1 + (1 + (0)))) ≤ 8; omega
theorem cs_irri {a : Int32} {b : Nat} {c : Nat} {d : Int32} : ([Value.int a, Value.ref b, Value.ref c, Value.int d].map fun v => v.category).sum ≤ 8 := by show 1 + (1 + (1 + (1 + (0)))) ≤ 8; omega
theorem cs_irrr {a : Int32} {b : Nat} {c : Nat} {d : Nat} : ([Value.int a, Value.ref b, Value.ref c, Value.ref d].map fun v => v.category).sum ≤ 8 := by show 1 + (1 + (1 + (1 + (0)))) ≤ 8; omega
theorem cs_riii {a : Nat} {b : Int32} {c : Int32} {d : Int32} : ([Value.ref a, Value.int b, Value.int c, Value.int d].map fun v => v.category).sum ≤ 8 := by show 1 + (1 + (1 + (1 + (0)))) ≤ 8; omega
theorem cs_riir {a : Nat} {b : Int32} {c : Int32} {d : Nat} : ([Value.ref a, Value.int b, Value.int c, Value.ref d].map fun v => v.category).sum ≤ 8 := by show 1 + (1 + (1 + (1 + (0)))) ≤ 8; omega
theorem cs_riri {a : Nat} {b : Int32} {c : Nat} {d : Int32} : ([Value.ref a, Value.int b, Value.ref c, Value.int d].map fun v => v.category).sum ≤ 8 := by show 1 + (1 + (1 + (1 + (0)))) ≤ 8; omega
theorem cs_rirr {a : Nat} {b : Int32} {c : Nat} {d : Nat} : ([Value.ref a, Value.int b, Value.ref c, Value.ref d].map fun v => v.category).sum ≤ 8 := by show 1 + (1 + (1 + (1 + (0)))) ≤ 8; omega
theorem cs_rrii {a : Nat} {b : Nat} {c : Int32} {d : Int32} : ([Value.ref a, Value.ref b, Value.int c, Value.int d].map fun v => v.category).sum ≤ 8 := by show 1 + (1 + (1 + (1 + (0)))) ≤ 8; omega
theorem cs_rrir {a : Nat} {b : Nat} {c : Int32} {d : Nat} : ([Value.ref a, Value.ref b, Value.int c, Value.ref d].map fun v => v.category).sum ≤ 8 := by show 1 + (1 + (1 + (1 + (0)))) ≤ 8; omega
theorem cs_rrri {a : Nat} {b : Nat} {c : Nat} {d : Int32} : ([Value.ref a, Value.ref b, Value.ref c, Value.int d].map fun v => v.category).sum ≤ 8 := by show 1 + (1 + (1 + (1 + (0)))) ≤ 8; omega
theorem cs_rrrr {a : Nat} {b : Nat} {c : Nat} {d : Nat} : ([Value.ref a, Value.ref b, Value.ref c, Value.ref d].map fun v => v.category).sum ≤ 8 := by show 1 + (1 + (1 + (1 + (0)))) ≤ 8; omega
theorem cs_3 {a b c : Value} (ha : a.category = 1) (hb : b.category = 1) (hc : c.category = 1) : ([a, b, c].map fun v => v.category).sum ≤ 8 := by simp [ha, hb, hc]
theorem cs_4 {a b c e : Value} (ha : a.category = 1) (hb : b.category = 1) (hc : c.category = 1) (he : e.category = 1) : ([a, b, c, e].map fun v => v.category).sum ≤ 8 := by simp [ha, hb, hc, he]
theorem cs_5 {a b c e f : Value} (ha : a.category = 1) (hb : b.category = 1) (hc : c.category = 1) (he : e.category = 1) (hf : f.category = 1) : ([a, b, c, e, f].map fun v => v.category).sum ≤ 8 := by simp [ha, hb, hc, he, hf]
theorem cat_i {a : Int32} : (Value.int a).category = 1 := rfl
theorem cat_r {a : Nat} : (Value.ref a).category = 1 := rfl
theorem inb_n {k n : Nat} (h : k < n) (hn : n < 2 ^ 31) : inb (nI k) n = true := inb_iff.mpr (nI_in h hn)
theorem s2_s {α : Type} {f : Nat → Nat → α} {a k : Nat} {x : α} : s2 f a k x a k = x := by rw [s2_eq, if_pos rfl]
theorem s2_o {α : Type} {f : Nat → Nat → α} {a k j : Nat} {x : α} (h : j ≠ k) : s2 f a k x a j = f a j := by rw [s2_eq, if_neg h]
theorem s1_s {α : Type} {f : Nat → α} {a : Nat} {x : α} : s1 f a x a = x := by unfold s1; rw [if_pos rfl]
theorem s1_o {α : Type} {f : Nat → α} {a b : Nat} {x : α} (h : b ≠ a) : s1 f a x b = f b := by unfold s1; rw [if_neg h]
/-- a chain of equal things -/
theorem chain {α : Type} (F : Nat → α) (N : Nat) (h : ∀ k, k < N → F k = F (k + 1)) : F 0 = F N := by
  induction N with
  | zero => rfl
  | succ n ih => exact (ih (fun k hk => h k (Nat.lt_succ_of_lt hk))).trans (h n (Nat.lt_succ_self n))
theorem chain2 {α : Type} (F : Nat → α) (M N : Nat) (hMN : M ≤ N) (h : ∀ k, M ≤ k → k < N → F k = F (k + 1)) : F M = F N := by
  obtain ⟨j, rfl⟩ := Nat.le.dest hMN
  induction j with
  | zero => rfl
  | succ n ih => exact (ih (by omega) (fun k h1 h2 => h k h1 (by omega))).trans (h (M + n) (by omega) (by omega))
/-- a scene at a -/
def Sc (G : Gm) (a : Nat) : Prop := gT G a = (16, 6) ∧ gR G a 0 = some (a + 1) ∧ gR G a 1 = some (a + 2) ∧ gR G a 2 = some (a + 3) ∧ gT G (a + 1) = (0, 6) ∧ gT G (a + 2) = (0, 6) ∧ gT G (a + 3) = (0, 6)
/-- towels at a -/
def To (G : Gm) (a : Nat) : Prop := gT G a = (19, 9) ∧ gR G a 3 = some (a + 1) ∧ gR G a 4 = some (a + 2) ∧ gR G a 5 = some (a + 3) ∧ gR G a 6 = some (a + 4) ∧ gR G a 7 = some (a + 5) ∧ gR G a 8 = some (a + 6) ∧
  gT G (a + 1) = (0, 3) ∧ gT G (a + 2) = (0, 3) ∧ gT G (a + 3) = (0, 3) ∧ gT G (a + 4) = (0, 6) ∧ gT G (a + 5) = (0, 6) ∧ gT G (a + 6) = (0, 6)
/-- bathers at a -/
def Ba (G : Gm) (a : Nat) : Prop := gT G a = (10, 7) ∧ gR G a 1 = some (a + 1) ∧ gR G a 2 = some (a + 2) ∧ gR G a 3 = some (a + 3) ∧ gR G a 4 = some (a + 4) ∧ gR G a 5 = some (a + 5) ∧ gR G a 6 = some (a + 6) ∧
  gT G (a + 1) = (0, 6) ∧ gT G (a + 2) = (0, 6) ∧ gT G (a + 3) = (0, 6) ∧ gT G (a + 4) = (0, 6) ∧ gT G (a + 5) = (0, 6) ∧ gT G (a + 6) = (0, 6)
/-- a shore at s: its towels at s + 1, bathers at s + 8, plan at s + 15, the rows of what wind leaves at s + 73 .. s + 81 -/
def Sh (G : Gm) (s : Nat) : Prop := gT G s = (17, 11) ∧ gR G s 6 = some (s + 1) ∧ gR G s 7 = some (s + 8) ∧ gR G s 8 = some (s + 15) ∧ gR G s 9 = some (s + 73) ∧ gR G s 10 = some (s + 81) ∧ To G (s + 1) ∧ Ba G (s + 8) ∧
  gT G (s + 73) = (5, 7) ∧ (∀ k, k < 7 → gR G (s + 73) k = some (s + 74 + k) ∧ gT G (s + 74 + k) = (0, 100)) ∧ gT G (s + 81) = (0, 100)
/-- a loop's numbers -/
def fo {α : Type} (a0 : α) (f : α → Nat → α) : Nat → α
  | 0 => a0
  | k + 1 => f (fo a0 f k) k
theorem fo_0 {α : Type} (a0 : α) (f : α → Nat → α) : fo a0 f 0 = a0 := rfl
theorem fo_s {α : Type} (a0 : α) (f : α → Nat → α) (k : Nat) : fo a0 f (k + 1) = f (fo a0 f k) k := rfl
theorem nI_nn {n : Nat} : ¬ nI n < nI n := fun h => Int32.lt_irrefl h
theorem k31 {k n : Nat} (h : k < n) (hn : n < 2 ^ 31) : k < 2 ^ 31 := by omega
/-- a loop that writes -/
theorem chainE {σ β : Type} (F : Nat → σ → β) (P : Nat → σ → Prop) (N : Nat) (h : ∀ k, k < N → ∀ I, P k I → ∃ I', F k I = F (k + 1) I' ∧ P (k + 1) I') {I : σ} (h0 : P 0 I) : ∃ I', F 0 I = F N I' ∧ P N I' := by
  have key : ∀ n, n ≤ N → ∃ I', F 0 I = F n I' ∧ P n I' := by
    intro n
    induction n with
    | zero => intro _; exact ⟨I, rfl, h0⟩
    | succ n ih =>
      intro hn
      obtain ⟨I1, e1, p1⟩ := ih (by omega)
      obtain ⟨I2, e2, p2⟩ := h n (by omega) I1 p1
      exact ⟨I2, e1.trans e2, p2⟩
  exact key N (Nat.le_refl N)
/-- what isn't in S stays -/
def Fr (S : Nat → Prop) (I I' : Im) : Prop := ∀ c, ¬ S c → I' c = I c
theorem Fr.rf {S : Nat → Prop} {I : Im} : Fr S I I := fun _ _ => rfl
theorem Fr.tr {S : Nat → Prop} {I I1 I2 : Im} (h1 : Fr S I I1) (h2 : Fr S I1 I2) : Fr S I I2 := fun c hc => (h2 c hc).trans (h1 c hc)
theorem Fr.mono {S S' : Nat → Prop} {I I1 : Im} (h : Fr S I I1) (hS : ∀ c, S c → S' c) : Fr S' I I1 := fun c hc => h c (fun q => hc (hS c q))
theorem Fr.s2 {S : Nat → Prop} {I I1 : Im} (h : Fr S I I1) {a k : Nat} {x : Int32} (ha : S a) : Fr S I (s2 I1 a k x) := fun c hc => by
  rw [s2_ne (fun e => hc (by rw [e]; exact ha))]
  exact h c hc
theorem Fr.s1 {S : Nat → Prop} {I I1 : Im} (h : Fr S I I1) {a : Nat} {x : Nat → Int32} (ha : S a) : Fr S I (s1 I1 a x) := fun c hc => by
  rw [s1_o (fun e => hc (by rw [e]; exact ha))]
  exact h c hc
/-- a scene's cells -/
def inSc (a c : Nat) : Prop := a ≤ c ∧ c ≤ a + 3
/-- apart from a shore -/
def offS (a s : Nat) : Prop := (a + 3 < s ∨ s + 14 < a) ∧ (a + 3 < s + 73 ∨ s + 81 < a)
