/-! the shore and its scenes as plain numbers -/
/-- bathers, patches, towels; share, minutes of a wipe, what a wring leaves, its minutes, sun, wind; kind, want, chill; a towel's size, first patch, what each holds; a patch's towel -/
abbrev Sp : Type := (Nat × Nat × Nat) × (Nat × Nat × Nat × Nat × Nat × Nat) × ((Nat → Nat) × (Nat → Nat) × (Nat → Nat)) × ((Nat → Nat) × (Nat → Nat) × (Nat → Nat)) × (Nat → Nat)
def hN (h : Sp) : Nat := h.1.1
def hP (h : Sp) : Nat := h.1.2.1
def hT (h : Sp) : Nat := h.1.2.2
def hShare (h : Sp) : Nat := h.2.1.1
def hWipe (h : Sp) : Nat := h.2.1.2.1
def hLeft (h : Sp) : Nat := h.2.1.2.2.1
def hWring (h : Sp) : Nat := h.2.1.2.2.2.1
def hSun (h : Sp) : Nat := h.2.1.2.2.2.2.1
def hWind (h : Sp) : Nat := h.2.1.2.2.2.2.2
def hKind (h : Sp) : Nat → Nat := h.2.2.1.1
def hWant (h : Sp) : Nat → Nat := h.2.2.1.2.1
def hChill (h : Sp) : Nat → Nat := h.2.2.1.2.2
def hSize (h : Sp) : Nat → Nat := h.2.2.2.1.1
def hFirst (h : Sp) : Nat → Nat := h.2.2.2.1.2.1
def hHold (h : Sp) : Nat → Nat := h.2.2.2.1.2.2
def hOwn (h : Sp) : Nat → Nat := h.2.2.2.2
def SpOk (h : Sp) : Prop := hN h ≤ 6 ∧ hP h ≤ 6 ∧ hT h ≤ 3 ∧ hShare h ≤ 50 ∧ hWipe h ≤ 9 ∧ hLeft h ≤ 99 ∧ hWring h ≤ 9 ∧ hSun h ≤ 50 ∧ hWind h ≤ 50 ∧ (∀ b, b < hN h → hKind h b ≤ 3 ∧ hWant h b ≤ 99 ∧ hChill h b ≤ 18) ∧ (∀ t, t < hT h → hFirst h t + hSize h t ≤ hP h ∧ hHold h t ≤ 99) ∧ (∀ p, p < hP h → hOwn h p < hT h)
/-- drops, cold, patches; who has shaken, the minute, what is lost -/
abbrev Qp : Type := (Nat → Nat) × (Nat → Nat) × (Nat → Nat) × Nat × Nat × Int32
def qD (q : Qp) : Nat → Nat := q.1
def qC (q : Qp) : Nat → Nat := q.2.1
def qP (q : Qp) : Nat → Nat := q.2.2.1
def qS (q : Qp) : Nat := q.2.2.2.1
def qM (q : Qp) : Nat := q.2.2.2.2.1
def qL (q : Qp) : Int32 := q.2.2.2.2.2
def QpOk (h : Sp) (q : Qp) : Prop := (∀ b, b < hN h → qD q b ≤ 99) ∧ (∀ p, p < hP h → qP q p ≤ hHold h (hOwn h p)) ∧ qS q < 64
/-- the class' shore at s holds h -/
def ShV (I : Im) (s : Nat) (h : Sp) : Prop :=
  (I (s + 8) 0 = nI (hN h) ∧ I (s + 1) 1 = nI (hP h) ∧ I (s + 1) 0 = nI (hT h)) ∧ (I s 0 = nI (hShare h) ∧ I s 1 = nI (hWipe h) ∧ I s 2 = nI (hLeft h) ∧ I s 3 = nI (hWring h) ∧ I s 4 = nI (hSun h) ∧ I s 5 = nI (hWind h)) ∧
  (∀ b, b < hN h → I (s + 8 + 1) b = nI (hKind h b) ∧ I (s + 8 + 3) b = nI (hWant h b) ∧ I (s + 8 + 6) b = nI (hChill h b)) ∧
  (∀ t, t < hT h → I (s + 1 + 1) t = nI (hSize h t) ∧ I (s + 1 + 2) t = nI (hFirst h t) ∧ I (s + 1 + 3) t = nI (hHold h t)) ∧ (∀ p, p < hP h → I (s + 1 + 4) p = nI (hOwn h p))
/-- the class' scene at a holds q -/
def ScV (I : Im) (a : Nat) (h : Sp) (q : Qp) : Prop :=
  (∀ b, b < hN h → I (a + 1) b = nI (qD q b) ∧ I (a + 2) b = nI (qC q b)) ∧ (∀ p, p < hP h → I (a + 3) p = nI (qP q p)) ∧ I a 3 = nI (qS q) ∧ I a 4 = nI (qM q) ∧ I a 5 = qL q
/-- what passes -/
def passP (h : Sp) (b d p w : Nat) : Nat := if d ≤ w then 0 else if hKind h b = 1 then min (min ((d - w) * hShare h / 100) (hHold h (hOwn h p) - w)) (d - 3) else min ((d - w) * hShare h / 100) (hHold h (hOwn h p) - w)
def up (f : Nat → Nat) (k x : Nat) : Nat → Nat := fun j => if j = k then x else f j
/-- a bather in a minute -/
def minB (h : Sp) (q : Qp) (b : Nat) : Qp :=
  (up (qD q) b (qD q b - qD q b * hWind h / 100), (if qD q b - qD q b * hWind h / 100 ≤ hWant h b then qC q else up (qC q) b (qC q b + hChill h b)), qP q, qS q, qM q, qL q + nI (qD q b * hWind h / 100))
/-- all in a minute -/
def minA (h : Sp) (q : Qp) : Qp := fo q (fun q b => minB h q b) (hN h)
def tick (q : Qp) (n : Nat) : Qp := (qD q, qC q, qP q, qS q, qM q + n, qL q)
def mins (h : Sp) (q : Qp) (n : Nat) : Qp := tick (fo q (fun q _ => minA h q) n) n
def wipeP (h : Sp) (q : Qp) (b p : Nat) : Qp :=
  let n := passP h b (qD q b) p (qP q p)
  mins h (up (qD q) b (qD q b - n), qC q, up (qP q) p (qP q p + n), qS q, qM q, qL q) (hWipe h)
