/-! the text: bytes, tokens -/
/-- a byte as the machine has it -/
def yB (b : Nat) : Int32 := (nI b).toInt8.toInt32
def isL (b : Nat) : Bool := decide (97 ≤ b ∧ b ≤ 122)
def isD (b : Nat) : Bool := decide (48 ≤ b ∧ b ≤ 57)
theorem yB_tab : ∀ b : Fin 256, (yB b < nI 97 ↔ ¬ (97 ≤ (b : Nat) ∧ (b : Nat) < 128)) ∧ (yB b ≤ nI 122 ↔ ¬ (123 ≤ (b : Nat) ∧ (b : Nat) < 128)) ∧ (yB b < nI 48 ↔ ¬ (48 ≤ (b : Nat) ∧ (b : Nat) < 128)) ∧ (yB b ≤ nI 57 ↔ ¬ (58 ≤ (b : Nat) ∧ (b : Nat) < 128)) ∧ (yB b = nI 32 ↔ (b : Nat) = 32) ∧ (yB b = nI 59 ↔ (b : Nat) = 59) ∧ (yB b = nI 44 ↔ (b : Nat) = 44) ∧ (yB b &&& nI 255 = nI b) := by decide +kernel
theorem yB_lo : ∀ b : Fin 128, yB b = nI b := by decide +kernel
theorem yB_eq : ∀ b c : Fin 256, yB b = yB c ↔ b = c := by
  intro b c
  constructor
  · intro h
    have h1 := (yB_tab b).2.2.2.2.2.2.2
    have h2 := (yB_tab c).2.2.2.2.2.2.2
    rw [h, h2] at h1
    have := (nI_eq (a := (c : Nat)) (b := (b : Nat)) (by omega) (by omega)).mp h1
    omega
  · intro h; rw [h]
/-- where the run of spaces, letters, digits from a on ends; f: no more than f -/
def runB (p : Nat → Bool) (B : Nat → Nat) (e : Nat) : Nat → Nat → Nat
  | 0, a => a
  | f + 1, a => if a < e ∧ p (B a) = true then runB p B e f (a + 1) else a
def isSp (b : Nat) : Bool := b == 32
theorem runB_le {p : Nat → Bool} {B : Nat → Nat} {e : Nat} : ∀ f a, a ≤ runB p B e f a
  | 0, a => Nat.le_refl _
  | f + 1, a => by
    show a ≤ if a < e ∧ p (B a) = true then runB p B e f (a + 1) else a
    split
    · exact Nat.le_trans (Nat.le_succ a) (runB_le f (a + 1))
    · exact Nat.le_refl _
theorem runB_e {p : Nat → Bool} {B : Nat → Nat} {e : Nat} : ∀ f a, a ≤ e → runB p B e f a ≤ e
  | 0, a, h => h
  | f + 1, a, h => by
    show (if a < e ∧ p (B a) = true then runB p B e f (a + 1) else a) ≤ e
    split
    · rename_i c; exact runB_e f (a + 1) (by omega)
    · exact h
theorem runB_p {p : Nat → Bool} {B : Nat → Nat} {e : Nat} : ∀ f a k, a ≤ k → k < runB p B e f a → p (B k) = true ∧ k < e
  | 0, a, k, h1, h2 => by
    have h3 : k < a := h2
    omega
  | f + 1, a, k, h1, h2 => by
    have e1 : runB p B e (f + 1) a = if a < e ∧ p (B a) = true then runB p B e f (a + 1) else a := rfl
    rw [e1] at h2
    by_cases c : a < e ∧ p (B a) = true
    · rw [if_pos c] at h2
      by_cases c2 : k = a
      · rw [c2]; exact ⟨c.2, c.1⟩
      · exact runB_p f (a + 1) k (by omega) h2
    · rw [if_neg c] at h2; omega
theorem runB_n {p : Nat → Bool} {B : Nat → Nat} {e : Nat} : ∀ f a, e < a + f + 1 → ¬ (runB p B e f a < e ∧ p (B (runB p B e f a)) = true)
  | 0, a, h => fun c => by
    have h2 : a < e := c.1
    omega
  | f + 1, a, h => by
    have e1 : runB p B e (f + 1) a = if a < e ∧ p (B a) = true then runB p B e f (a + 1) else a := rfl
    rw [e1]
    by_cases c : a < e ∧ p (B a) = true
    · rw [if_pos c]; exact runB_n f (a + 1) (by omega)
    · rw [if_neg c]; exact c
/-- the value of the first three digits from s on, up to t -/
def valB (B : Nat → Nat) (s : Nat) : Nat → Nat
  | 0 => 0
  | k + 1 => if k < 3 then 10 * valB B s k + (B (s + k) - 48) else valB B s k
/-- a token: where it starts, its kind, where it ends, its value -/
abbrev Tk : Type := Nat × Nat × Nat × Nat
def tk (B : Nat → Nat) (e a : Nat) : Tk :=
  let s := runB isSp B e 900 a
  if e ≤ s then (s, 0, s, 0) else if isL (B s) then (s, (if runB isL B e 900 s - s ≤ 8 then 1 else 4), runB isL B e 900 s, 0) else
  if isD (B s) then (s, (if runB isD B e 900 s - s ≤ 3 then 2 else 4), runB isD B e 900 s, valB B s (runB isD B e 900 s - s)) else
  if B s = 59 ∨ B s = 44 then (s, 3, s + 1, 0) else (s, 4, s + 1, 0)
def kS (t : Tk) : Nat := t.1
def kK (t : Tk) : Nat := t.2.1
def kE (t : Tk) : Nat := t.2.2.1
def kV (t : Tk) : Nat := t.2.2.2
theorem tk_s {B : Nat → Nat} {e a : Nat} : kS (tk B e a) = runB isSp B e 900 a := by
  unfold tk kS
  dsimp only
  split
  · rfl
  · split
    · rfl
    · split
      · rfl
      · split <;> rfl
theorem valB_lt {B : Nat → Nat} {s : Nat} (h : ∀ k, k < 3 → B (s + k) ≤ 57) : ∀ k, valB B s k < 10 ^ min k 3
  | 0 => by show 0 < 1; omega
  | 1 => by
    show (if 0 < 3 then 10 * valB B s 0 + (B (s + 0) - 48) else valB B s 0) < 10
    have h0 : valB B s 0 = 0 := rfl
    have := h 0 (by omega)
    rw [if_pos (by omega), h0]
    omega
  | 2 => by
    have h1 := valB_lt h 1
    have h1' : valB B s 1 < 10 := h1
    show (if 1 < 3 then 10 * valB B s 1 + (B (s + 1) - 48) else valB B s 1) < 100
    have := h 1 (by omega)
    rw [if_pos (by omega)]
    omega
  | 3 => by
    have h2 : valB B s 2 < 100 := valB_lt h 2
    show (if 2 < 3 then 10 * valB B s 2 + (B (s + 2) - 48) else valB B s 2) < 1000
    have := h 2 (by omega)
    rw [if_pos (by omega)]
    omega
  | k + 4 => by
    have ih : valB B s (k + 3) < 10 ^ min (k + 3) 3 := valB_lt h (k + 3)
    rw [show min (k + 3) 3 = 3 by omega] at ih
    show (if k + 3 < 3 then 10 * valB B s (k + 3) + (B (s + (k + 3)) - 48) else valB B s (k + 3)) < 10 ^ min (k + 4) 3
    rw [if_neg (by omega), show min (k + 4) 3 = 3 by omega]
    exact ih
theorem isD_iff {b : Nat} : isD b = true ↔ 48 ≤ b ∧ b ≤ 57 := decide_eq_true_iff
theorem isL_iff {b : Nat} : isL b = true ↔ 97 ≤ b ∧ b ≤ 122 := decide_eq_true_iff
theorem isSp_iff {b : Nat} : isSp b = true ↔ b = 32 := beq_iff_eq
theorem tk_ord {B : Nat → Nat} {e a : Nat} (ha : a ≤ e) : a ≤ kS (tk B e a) ∧ kS (tk B e a) ≤ kE (tk B e a) ∧ kE (tk B e a) ≤ e ∧ kK (tk B e a) ≤ 4 ∧ (kK (tk B e a) ≠ 0 → a < kE (tk B e a)) := by
  have h1 := runB_le (p := isSp) (B := B) (e := e) 900 a
  have h2 := runB_e (p := isSp) (B := B) (e := e) 900 a ha
  unfold tk
  dsimp only
  generalize runB isSp B e 900 a = s at *
  by_cases c0 : e ≤ s
  · rw [if_pos c0]
    exact ⟨h1, Nat.le_refl _, h2, by show 0 ≤ 4; omega, fun z => absurd rfl z⟩
  · rw [if_neg c0]
    by_cases c1 : isL (B s) = true
    · rw [if_pos c1]
      have h3 := runB_le (p := isL) (B := B) (e := e) 900 s
      have h4 := runB_e (p := isL) (B := B) (e := e) 900 s h2
      have h5 : s + 1 ≤ runB isL B e 900 s := by
        have e1 : runB isL B e 900 s = if s < e ∧ isL (B s) = true then runB isL B e 899 (s + 1) else s := rfl
        rw [e1, if_pos ⟨by omega, c1⟩]
        exact runB_le 899 (s + 1)
      refine ⟨h1, h3, h4, ?_, fun _ => ?_⟩
      · show (if runB isL B e 900 s - s ≤ 8 then 1 else 4) ≤ 4
        split <;> omega
      · show a < runB isL B e 900 s
        omega
    · rw [if_neg c1]
      by_cases c2 : isD (B s) = true
      · rw [if_pos c2]
        have h3 := runB_le (p := isD) (B := B) (e := e) 900 s
        have h4 := runB_e (p := isD) (B := B) (e := e) 900 s h2
        have h5 : s + 1 ≤ runB isD B e 900 s := by
          have e1 : runB isD B e 900 s = if s < e ∧ isD (B s) = true then runB isD B e 899 (s + 1) else s := rfl
          rw [e1, if_pos ⟨by omega, c2⟩]
          exact runB_le 899 (s + 1)
        refine ⟨h1, h3, h4, ?_, fun _ => ?_⟩
        · show (if runB isD B e 900 s - s ≤ 3 then 2 else 4) ≤ 4
          split <;> omega
        · show a < runB isD B e 900 s
          omega
      · rw [if_neg c2]
        by_cases c3 : B s = 59 ∨ B s = 44
        · rw [if_pos c3]
          exact ⟨h1, by show s ≤ s + 1; omega, by show s + 1 ≤ e; omega, by show 3 ≤ 4; omega, fun _ => by show a < s + 1; omega⟩
        · rw [if_neg c3]
          exact ⟨h1, by show s ≤ s + 1; omega, by show s + 1 ≤ e; omega, by show 4 ≤ 4; omega, fun _ => by show a < s + 1; omega⟩
theorem tk_v {B : Nat → Nat} {e a : Nat} : kV (tk B e a) < 1000 := by
  unfold tk
  dsimp only
  generalize runB isSp B e 900 a = s
  split
  · show 0 < 1000; omega
  · split
    · show 0 < 1000; omega
    · split
      · show valB B s (runB isD B e 900 s - s) < 1000
        have hp := runB_p (p := isD) (B := B) (e := e) 900 s
        -- only the digits of the run count
        have key : ∀ k, s + k ≤ runB isD B e 900 s → valB B s k < 10 ^ min k 3 := by
          intro k
          induction k with
          | zero => intro _; show 0 < 1; omega
          | succ k ih =>
            intro hk
            have ih' := ih (by omega)
            have hd := isD_iff.mp (hp (s + k) (by omega) (by omega)).1
            have es : valB B s (k + 1) = if k < 3 then 10 * valB B s k + (B (s + k) - 48) else valB B s k := rfl
            rw [es]
            by_cases c : k < 3
            · rw [if_pos c]
              rw [show min k 3 = k by omega] at ih'
              rw [show min (k + 1) 3 = k + 1 by omega, Nat.pow_succ]
              omega
            · rw [if_neg c]
              rw [show min k 3 = 3 by omega] at ih'
              rw [show min (k + 1) 3 = 3 by omega]
              exact ih'
        have hle := runB_le (p := isD) (B := B) (e := e) 900 s
        have h := key (runB isD B e 900 s - s) (by omega)
        have h2 : 10 ^ min (runB isD B e 900 s - s) 3 ≤ 10 ^ 3 := Nat.pow_le_pow_right (by omega) (Nat.min_le_right _ _)
        omega
      · split
        · show 0 < 1000; omega
        · show 0 < 1000; omega
