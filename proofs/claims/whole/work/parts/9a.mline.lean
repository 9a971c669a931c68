/-! the model: the shore line -/
theorem w26 : wN 26 = wN 9 ∧ wN 27 = wN 10 ∧ wN 28 = wN 11 ∧ wN 29 = wN 12 ∧ wN 30 = wN 13 ∧ wN 39 = wN 14 ∧ wN 40 = wN 15 ∧ wN 41 = wN 16 ∧ wN 42 = wN 17 ∧ wN 43 = wN 18 ∧ wN 44 = wN 19 ∧ wN 45 = wN 20 ∧ wN 46 = wN 21 ∧ wN 47 = wN 22 ∧ wN 48 = wN 23 := by decide +kernel
theorem st26 : StV (1000000 + 26) (wN 9) := by
  rw [← w26.1]
  exact stV 26 (by decide)
theorem st27 : StV (1000000 + 27) (wN 10) := by
  rw [← w26.2.1]
  exact stV 27 (by decide)
theorem st28 : StV (1000000 + 28) (wN 11) := by
  rw [← w26.2.2.1]
  exact stV 28 (by decide)
theorem st29 : StV (1000000 + 29) (wN 12) := by
  rw [← w26.2.2.2.1]
  exact stV 29 (by decide)
theorem st30 : StV (1000000 + 30) (wN 13) := by
  rw [← w26.2.2.2.2.1]
  exact stV 30 (by decide)
theorem st39 : StV (1000000 + 39) (wN 14) := by
  rw [← w26.2.2.2.2.2.1]
  exact stV 39 (by decide)
theorem st40 : StV (1000000 + 40) (wN 15) := by
  rw [← w26.2.2.2.2.2.2.1]
  exact stV 40 (by decide)
theorem st41 : StV (1000000 + 41) (wN 16) := by
  rw [← w26.2.2.2.2.2.2.2.1]
  exact stV 41 (by decide)
theorem st42 : StV (1000000 + 42) (wN 17) := by
  rw [← w26.2.2.2.2.2.2.2.2.1]
  exact stV 42 (by decide)
theorem st43 : StV (1000000 + 43) (wN 18) := by
  rw [← w26.2.2.2.2.2.2.2.2.2.1]
  exact stV 43 (by decide)
theorem st44 : StV (1000000 + 44) (wN 19) := by
  rw [← w26.2.2.2.2.2.2.2.2.2.2.1]
  exact stV 44 (by decide)
theorem st45 : StV (1000000 + 45) (wN 20) := by
  rw [← w26.2.2.2.2.2.2.2.2.2.2.2.1]
  exact stV 45 (by decide)
theorem st46 : StV (1000000 + 46) (wN 21) := by
  rw [← w26.2.2.2.2.2.2.2.2.2.2.2.2.1]
  exact stV 46 (by decide)
theorem st47 : StV (1000000 + 47) (wN 22) := by
  rw [← w26.2.2.2.2.2.2.2.2.2.2.2.2.2.1]
  exact stV 47 (by decide)
theorem st48 : StV (1000000 + 48) (wN 23) := by
  rw [← w26.2.2.2.2.2.2.2.2.2.2.2.2.2.2]
  exact stV 48 (by decide)
theorem MdS.live {G : Gm} {I : Im} {m e a : Nat} {B : Nat → Nat} (H : MdS G I m B e (.inr a)) : (I m 9 = nI 5) = False := by
  obtain ⟨⟨t1, t2, t3, t4, t5, t6⟩, ha, h13⟩ := H
  have h5 := mk_5 (tk_k4 (B := B) (e := e) (p := a))
  rw [t3]
  exact eq_false (fun z => by have := (nI_eq (a := mk (kK (tk B e a))) (b := 5) (by omega) (by omega)).mp z; omega)
theorem MdS.deadT {G : Gm} {I : Im} {m e : Nat} {r : Er} {B : Nat → Nat} (H : MdS G I m B e (.inl r)) : (I m 9 = nI 5) = True := eq_true H.1
/-- a word, a whole -/
def ptP (B : Nat → Nat) (e i lo hi : Nat) (y : Er ⊕ Nat) : Er ⊕ (Nat × Nat) := bnd (bnd y (fun a => pW B e a (wN i))) (fun a => pN B e a lo hi)
def wlP (B : Nat → Nat) (e lo hi : Nat) (y : Er ⊕ Nat) : Er ⊕ (Nat × Nat) := bnd y (fun a => pN B e a lo hi)
theorem wl_le {B : Nat → Nat} {e lo hi c : Nat} {y : Er ⊕ Nat} (h1 : lo ≤ c) (h2 : hi ≤ c) : vlN lo (wlP B e lo hi y) ≤ c := by
  unfold wlP
  cases y with
  | inl r => exact h1
  | inr a =>
    rw [bnd_r]
    unfold pN
    split
    · split
      · rename_i q; exact Nat.le_trans q.2 h2
      · exact h1
    · exact h1
theorem pt_le {B : Nat → Nat} {e i lo hi c : Nat} {y : Er ⊕ Nat} (h1 : lo ≤ c) (h2 : hi ≤ c) : vlN lo (ptP B e i lo hi y) ≤ c := wl_le (y := bnd y (fun a => pW B e a (wN i))) h1 h2
