/-! the class: a line, what follows it, the whole text -/
theorem ln_le {B : Nat → Nat} {e a : Nat} {r : RS} {b : Bool} {t u : Nat} {I0 I : Im} {v : Nat × RS} (h : AnL e I0 I t u b (.inr v)) : v.1 ≤ e := h.2.2.1
theorem tk_lt {B : Nat → Nat} {e a : Nat} (ha : a ≤ e) (h : kK (tk B e a) ≠ 0) : a < kE (tk B e a) := (tk_ord ha).2.2.2.2 h
theorem wd_1 {B : Nat → Nat} {k : Tk} {w : List Nat} (h : wd B k w = true) : kK k = 1 := (of_decide_eq_true h).1
theorem lsP_1 {B : Nat → Nat} {k : Tk} {i : Nat} (h : lsP B k = some i) : kK k = 1 := by
  unfold lsP at h
  repeat' split at h
  all_goals first | (exact wd_1 (by assumption)) | (cases h)
theorem bnd_le {α β : Type} {x : Er ⊕ α} {f : α → Er ⊕ β} {v : β} (h : bnd x f = .inr v) : ∃ w, x = .inr w ∧ f w = .inr v := by
  cases x with
  | inl r => cases h
  | inr w => exact ⟨w, rfl, h⟩
/-- tokens only go on -/
theorem pW_m {B : Nat → Nat} {e a a' : Nat} {w : List Nat} (h : pW B e a w = .inr a') (ha : a ≤ e) : a ≤ a' ∧ a' ≤ e := by
  have h2 := pW_e h ha
  unfold pW at h
  split at h
  · cases h; exact ⟨Nat.le_trans (tk_ord ha).1 (tk_ord ha).2.1, h2⟩
  · cases h
theorem pC_m {B : Nat → Nat} {e a a' c : Nat} (h : pC B e a c = .inr a') (ha : a ≤ e) : a ≤ a' ∧ a' ≤ e := by
  have h2 := pC_e h ha
  unfold pC at h
  split at h
  · cases h; exact ⟨Nat.le_trans (tk_ord ha).1 (tk_ord ha).2.1, h2⟩
  · cases h
theorem pN_m {B : Nat → Nat} {e a lo hi : Nat} {v : Nat × Nat} (h : pN B e a lo hi = .inr v) (ha : a ≤ e) : a ≤ v.2 ∧ v.2 ≤ e := by
  have h2 := (pN_e h ha).1
  unfold pN at h
  split at h
  · split at h
    · cases h; exact ⟨Nat.le_trans (tk_ord ha).1 (tk_ord ha).2.1, h2⟩
    · cases h
  · cases h
theorem pF_m {B : Nat → Nat} {e a n a' : Nat} {N : Nat → Nme} (h : pF B e a n N = .inr a') (ha : a ≤ e) : a ≤ a' ∧ a' ≤ e := by
  have h2 := pF_e h ha
  rw [h2.2]
  exact ⟨Nat.le_trans (tk_ord ha).1 (tk_ord ha).2.1, (tk_ord ha).2.2.1⟩
theorem pM_m {B : Nat → Nat} {e a n : Nat} {N : Nat → Nme} {o : Bool} {v : Nat × Nat} (h : pM B e a n N o = .inr v) (ha : a ≤ e) : a ≤ v.2 ∧ v.2 ≤ e := by
  have h2 := (pM_e h ha).1
  unfold pM at h
  split at h
  · cases hf : fnP B n N (tk B e a) with
    | none => rw [hf] at h; cases h
    | some i =>
      rw [hf] at h
      dsimp only at h
      split at h
      · cases h; exact ⟨Nat.le_trans (tk_ord ha).1 (tk_ord ha).2.1, h2⟩
      · cases h
  · cases h
theorem pK_m {B : Nat → Nat} {e a : Nat} {v : Nat × Nat} (h : pK B e a = .inr v) (ha : a ≤ e) : a ≤ v.2 ∧ v.2 ≤ e := by
  have h2 := (pK_e h ha).1
  unfold pK at h
  cases hk : kdP B (tk B e a) with
  | none => rw [hk] at h; cases h
  | some k => rw [hk] at h; cases h; exact ⟨Nat.le_trans (tk_ord ha).1 (tk_ord ha).2.1, h2⟩
theorem lnShore_m {B : Nat → Nat} {e a : Nat} {r : RS} {v : Nat × RS} (h : lnShore B e a r = .inr v) (ha : a ≤ e) : a ≤ v.1 := by
  unfold lnShore at h
  obtain ⟨w1, e1, h⟩ := bnd_le h
  have m1 := pW_m e1 ha
  obtain ⟨w2, e2, h⟩ := bnd_le h
  have m2 := pN_m e2 m1.2
  obtain ⟨w3, e3, h⟩ := bnd_le h
  have m3 := pW_m e3 m2.2
  obtain ⟨w4, e4, h⟩ := bnd_le h
  have m4 := pN_m e4 m3.2
  obtain ⟨w5, e5, h⟩ := bnd_le h
  have m5 := pW_m e5 m4.2
  obtain ⟨w6, e6, h⟩ := bnd_le h
  have m6 := pN_m e6 m5.2
  obtain ⟨w7, e7, h⟩ := bnd_le h
  have m7 := pC_m e7 m6.2
  obtain ⟨w8, e8, h⟩ := bnd_le h
  have m8 := pN_m e8 m7.2
  obtain ⟨w9, e9, h⟩ := bnd_le h
  have m9 := pW_m e9 m8.2
  obtain ⟨w10, e10, h⟩ := bnd_le h
  have m10 := pN_m e10 m9.2
  obtain ⟨w11, e11, h⟩ := bnd_le h
  have m11 := pW_m e11 m10.2
  obtain ⟨w12, e12, h⟩ := bnd_le h
  have m12 := pN_m e12 m11.2
  cases h
  show a ≤ _
  dsimp only
  omega
theorem lnBather_m {B : Nat → Nat} {e a : Nat} {r : RS} {v : Nat × RS} (h : lnBather B e a r = .inr v) (ha : a ≤ e) : a ≤ v.1 := by
  unfold lnBather at h
  obtain ⟨w1, e1, h⟩ := bnd_le h
  have m1 := pF_m e1 ha
  obtain ⟨w2, e2, h⟩ := bnd_le h
  have m2 := pK_m e2 m1.2
  obtain ⟨w3, e3, h⟩ := bnd_le h
  have m3 := pW_m e3 m2.2
  obtain ⟨w4, e4, h⟩ := bnd_le h
  have m4 := pN_m e4 m3.2
  obtain ⟨w5, e5, h⟩ := bnd_le h
  have m5 := pW_m e5 m4.2
  obtain ⟨w6, e6, h⟩ := bnd_le h
  have m6 := pN_m e6 m5.2
  obtain ⟨w7, e7, h⟩ := bnd_le h
  have m7 := pW_m e7 m6.2
  obtain ⟨w8, e8, h⟩ := bnd_le h
  have m8 := pN_m e8 m7.2
  obtain ⟨w9, e9, h⟩ := bnd_le h
  have m9 := pW_m e9 m8.2
  obtain ⟨w10, e10, h⟩ := bnd_le h
  have m10 := pN_m e10 m9.2
  cases h
  show a ≤ _
  dsimp only
  omega
theorem lnWipes_m {B : Nat → Nat} {e a : Nat} {r : RS} {v : Nat × RS} (h : lnWipes B e a r = .inr v) (ha : a ≤ e) : a ≤ v.1 := by
  unfold lnWipes at h
  obtain ⟨w1, e1, h⟩ := bnd_le h
  have m1 := pM_m e1 ha
  obtain ⟨w2, e2, h⟩ := bnd_le h
  have m2 := pM_m e2 m1.2
  obtain ⟨w3, e3, h⟩ := bnd_le h
  have m3 := pN_m e3 m2.2
  cases h
  show a ≤ _
  dsimp only
  omega
theorem lnWrings_m {B : Nat → Nat} {e a : Nat} {r : RS} {v : Nat × RS} (h : lnWrings B e a r = .inr v) (ha : a ≤ e) : a ≤ v.1 := by
  unfold lnWrings at h
  obtain ⟨w1, e1, h⟩ := bnd_le h
  have m1 := pM_m e1 ha
  cases h
  show a ≤ _
  dsimp only
  omega
theorem lnHangs_m {B : Nat → Nat} {e a : Nat} {r : RS} {v : Nat × RS} (h : lnHangs B e a r = .inr v) (ha : a ≤ e) : a ≤ v.1 := by
  unfold lnHangs at h
  obtain ⟨w1, e1, h⟩ := bnd_le h
  have m1 := pM_m e1 ha
  obtain ⟨w2, e2, h⟩ := bnd_le h
  have m2 := pN_m e2 m1.2
  cases h
  show a ≤ _
  dsimp only
  omega
theorem lnShakes_m {B : Nat → Nat} {e a : Nat} {r : RS} {v : Nat × RS} (h : lnShakes B e a r = .inr v) (ha : a ≤ e) : a ≤ v.1 := by
  unfold lnShakes at h
  obtain ⟨w1, e1, h⟩ := bnd_le h
  have m1 := pM_m e1 ha
  cases h
  show a ≤ _
  dsimp only
  omega
theorem lnTowel_m {B : Nat → Nat} {e a : Nat} {r : RS} {v : Nat × RS} (h : lnTowel B e a r = .inr v) (ha : a ≤ e) : a ≤ v.1 := by
  unfold lnTowel at h
  obtain ⟨w1, e1, h⟩ := bnd_le h
  have m1 := pF_m e1 ha
  obtain ⟨w2, e2, h⟩ := bnd_le h
  have m2 := pW_m e2 m1.2
  obtain ⟨w3, e3, h⟩ := bnd_le h
  have m3 := pN_m e3 m2.2
  split at h
  · cases h
  · obtain ⟨w4, e4, h⟩ := bnd_le h
    have m4 := pW_m e4 m3.2
    obtain ⟨w5, e5, h⟩ := bnd_le h
    have m5 := pN_m e5 m4.2
    obtain ⟨w6, e6, h⟩ := bnd_le h
    have m6 := pW_m e6 m5.2
    obtain ⟨w7, e7, h⟩ := bnd_le h
    have m7 := pN_m e7 m6.2
    cases h
    show a ≤ _
    dsimp only
    omega
theorem lnHome_m {B : Nat → Nat} {e a : Nat} {r : RS} {v : Nat × RS} (h : lnHome B e a r = .inr v) (ha : a ≤ e) : a ≤ v.1 := by
  unfold lnHome at h
  obtain ⟨w1, e1, h⟩ := bnd_le h
  have m1 := pM_m e1 ha
  split at h
  · obtain ⟨w2, e2, h⟩ := bnd_le h
    have m2 := pN_m e2 m1.2
    cases h
    show a ≤ _
    dsimp only
    omega
  · cases h
theorem lnSeen_m {B : Nat → Nat} {e a : Nat} {r : RS} {v : Nat × RS} (h : lnSeen B e a r = .inr v) (ha : a ≤ e) : a ≤ v.1 := by
  unfold lnSeen at h
  obtain ⟨w1, e1, h⟩ := bnd_le h
  have m1 := pM_m e1 ha
  obtain ⟨w2, e2, h⟩ := bnd_le h
  have m2 := pN_m e2 m1.2
  split at h
  · obtain ⟨w3, e3, h⟩ := bnd_le h
    have m3 := pN_m e3 m2.2
    cases h
    show a ≤ _
    dsimp only
    omega
  · cases h
/-- a line that begins with the i-th word -/
def lnJ (B : Nat → Nat) (e a : Nat) (r : RS) (i : Nat) : Er ⊕ (Nat × RS) := if i = 1 then lnTowel B e a r else if i = 2 then lnBather B e a r else if i = 3 then lnHome B e a r else if i = 4 then lnWipes B e a r else
  if i = 5 then lnWrings B e a r else if i = 6 then lnHangs B e a r else if i = 7 then lnShakes B e a r else lnSeen B e a r
def rmP (r : RS) (i : Nat) : Prop := if i = 1 then rT r < 3 else if i = 2 then rN r < 6 else if i = 3 then True else if i = 8 then rSc r < 6 else rSt r < 12
theorem ln_n {B : Nat → Nat} {e a : Nat} {r : RS} (h : lsP B (tk B e a) = none) : ln B e a r = .inl (1, kS (tk B e a)) := by unfold ln; rw [h]
theorem ln_0 {B : Nat → Nat} {e a : Nat} {r : RS} (h : lsP B (tk B e a) = some 0) : ln B e a r = if r.1.isSome = true then .inl (3, kS (tk B e a)) else lnShore B e (kE (tk B e a)) r := by unfold ln; rw [h]; rfl
theorem ln_no {B : Nat → Nat} {e a i : Nat} {r : RS} (h : lsP B (tk B e a) = some (i + 1)) (hr : ¬ rmP r (i + 1)) : ln B e a r = .inl (5, kS (tk B e a)) := by
  unfold ln
  rw [h]
  exact if_neg hr
theorem ln_la {B : Nat → Nat} {e a i : Nat} {r : RS} (h : lsP B (tk B e a) = some (i + 1)) (hr : rmP r (i + 1)) (hs : r.1.isSome = false) : ln B e a r = .inl (6, kS (tk B e a)) := by
  unfold ln
  rw [h]
  exact (if_pos hr).trans (if_neg (by rw [hs]; decide))
theorem ln_i {B : Nat → Nat} {e a i : Nat} {r : RS} (h : lsP B (tk B e a) = some (i + 1)) (hr : rmP r (i + 1)) (hs : r.1.isSome = true) : ln B e a r = lnJ B e (kE (tk B e a)) r (i + 1) := by
  unfold ln
  rw [h]
  exact (if_pos hr).trans (if_pos hs)
theorem lnJ_m {B : Nat → Nat} {e a i : Nat} {r : RS} {v : Nat × RS} (h : lnJ B e a r i = .inr v) (ha : a ≤ e) : a ≤ v.1 := by
  unfold lnJ at h
  split at h
  · exact lnTowel_m h ha
  · split at h
    · exact lnBather_m h ha
    · split at h
      · exact lnHome_m h ha
      · split at h
        · exact lnWipes_m h ha
        · split at h
          · exact lnWrings_m h ha
          · split at h
            · exact lnHangs_m h ha
            · split at h
              · exact lnShakes_m h ha
              · exact lnSeen_m h ha
theorem ln_m {B : Nat → Nat} {e a : Nat} {r : RS} {v : Nat × RS} (h : ln B e a r = .inr v) (ha : a ≤ e) : a < v.1 := by
  have ho := tk_ord (B := B) ha
  cases hl : lsP B (tk B e a) with
  | none => rw [ln_n hl] at h; cases h
  | some i =>
    have hk := tk_lt ha (B := B) (by rw [lsP_1 hl]; decide)
    cases i with
    | zero =>
      rw [ln_0 hl] at h
      split at h
      · cases h
      · exact Nat.lt_of_lt_of_le hk (lnShore_m h ho.2.2.1)
    | succ i =>
      by_cases hr : rmP r (i + 1)
      · cases hs : r.1.isSome with
        | false => rw [ln_la hl hr hs] at h; cases h
        | true =>
          rw [ln_i hl hr hs] at h
          exact Nat.lt_of_lt_of_le hk (lnJ_m h ho.2.2.1)
      · rw [ln_no hl hr] at h; cases h
