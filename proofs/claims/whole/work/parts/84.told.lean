/-! what is told so far -/
abbrev Twl : Type := Nat × Nat × (Nat → Nat) × (Nat → Nat) × (Nat → Nat) × (Nat → Nat) × (Nat → Nat)
abbrev Bth : Type := Nat × (Nat → Nat) × (Nat → Nat) × (Nat → Nat) × (Nat → Nat) × (Nat → Nat) × (Nat → Option Nat)
abbrev Shr : Type := Nat × Nat × Nat × Nat × Nat × Nat
/-- the shore's line; towels; bathers; steps; patches seen; names -/
abbrev RS : Type := Option Shr × Twl × Bth × (Nat × (Nat → Pst)) × (Nat × (Nat → Option Nat)) × (Nat × (Nat → Nme))
def rT (r : RS) : Nat := r.2.1.1
def rP (r : RS) : Nat := r.2.1.2.1
def rSz (r : RS) : Nat → Nat := r.2.1.2.2.1
def rFi (r : RS) : Nat → Nat := r.2.1.2.2.2.1
def rHo (r : RS) : Nat → Nat := r.2.1.2.2.2.2.1
def rWe (r : RS) : Nat → Nat := r.2.1.2.2.2.2.2.1
def rOw (r : RS) : Nat → Nat := r.2.1.2.2.2.2.2.2
def rN (r : RS) : Nat := r.2.2.1.1
def rKi (r : RS) : Nat → Nat := r.2.2.1.2.1
def rDr (r : RS) : Nat → Nat := r.2.2.1.2.2.1
def rCo (r : RS) : Nat → Nat := r.2.2.1.2.2.2.1
def rWa (r : RS) : Nat → Nat := r.2.2.1.2.2.2.2.1
def rBz (r : RS) : Nat → Nat := r.2.2.1.2.2.2.2.2.1
def rHm (r : RS) : Nat → Option Nat := r.2.2.1.2.2.2.2.2.2
def rSt (r : RS) : Nat := r.2.2.2.1.1
def rF (r : RS) : Nat → Pst := r.2.2.2.1.2
def rSc (r : RS) : Nat := r.2.2.2.2.1.1
def rSn (r : RS) : Nat → Option Nat := r.2.2.2.2.1.2
def rNn (r : RS) : Nat := r.2.2.2.2.2.1
def rNm (r : RS) : Nat → Nme := r.2.2.2.2.2.2
def chl (r : RS) (b : Nat) : Nat := if rKi r b = 3 then 2 * rCo r b else rCo r b
/-- the shore told, as plain numbers -/
def hOf (s : Shr) (r : RS) : Sp := ((rN r, rP r, rT r), s, (rKi r, rWa r, chl r), (rSz r, rFi r, rHo r), rOw r)
/-- a step of so many bathers, patches, towels -/
def SkOk (N P T : Nat) (x : Pst) : Prop := x.1 ≤ 3 ∧ (x.1 = 0 ∨ x.1 = 3 → x.2.1 < N) ∧ (x.1 = 0 → x.2.2.1 < P) ∧ (x.1 = 1 ∨ x.1 = 2 → x.2.2.1 < T) ∧ (x.1 = 2 → x.2.2.2 ≤ 60)
theorem SkOk.mono {N P T N' P' T' : Nat} {x : Pst} (h : SkOk N P T x) (h1 : N ≤ N') (h2 : P ≤ P') (h3 : T ≤ T') : SkOk N' P' T' x :=
  ⟨h.1, fun c => Nat.lt_of_lt_of_le (h.2.1 c) h1, fun c => Nat.lt_of_lt_of_le (h.2.2.1 c) h2, fun c => Nat.lt_of_lt_of_le (h.2.2.2.1 c) h3, h.2.2.2.2⟩
def ShOk (s : Shr) : Prop := 1 ≤ s.1 ∧ s.1 ≤ 50 ∧ s.2.1 ≤ 9 ∧ s.2.2.1 ≤ 99 ∧ s.2.2.2.1 ≤ 9 ∧ s.2.2.2.2.1 ≤ 50 ∧ s.2.2.2.2.2 ≤ 50
/-- numbers in their bounds -/
def ROk (e : Nat) (r : RS) : Prop := (∀ s, r.1 = some s → ShOk s) ∧ (rT r ≤ 3 ∧ rP r ≤ 6 ∧ rN r ≤ 6 ∧ rSt r ≤ 12 ∧ rSc r ≤ 6 ∧ rNn r = rT r + rN r) ∧
  (∀ t, t < rT r → 1 ≤ rSz r t ∧ rSz r t ≤ 4 ∧ rFi r t + rSz r t ≤ rP r ∧ rHo r t ≤ 99 ∧ rWe r t ≤ rHo r t) ∧ (∀ p, p < rP r → rOw r p < rT r) ∧
  (∀ b, b < rN r → rKi r b ≤ 3 ∧ rDr r b ≤ 99 ∧ rCo r b ≤ 9 ∧ rWa r b ≤ 99 ∧ rBz r b ≤ 9 ∧ ∀ k, rHm r b = some k → k ≤ 240) ∧
  (∀ i, i < rSt r → SkOk (rN r) (rP r) (rT r) (rF r i)) ∧ (∀ p k, rSn r p = some k → k ≤ 99 ∧ p < rP r) ∧ NmOk e (rNn r) (rNm r) ∧
  (∀ i, i < rNn r → (rNm r i).2.2.2 < if (rNm r i).2.2.1 = true then rT r else rN r) ∧ (0 < rT r → 0 < rP r) ∧ (r.1 = none → rT r = 0 ∧ rN r = 0 ∧ rSt r = 0 ∧ rSc r = 0)
/-- what the class holds of it: its tape at t, the shore at u -/
def RC (I : Im) (t u : Nat) (r : RS) : Prop := I t 9 = bI r.1.isSome ∧ (∀ s, r.1 = some s → I u 0 = nI s.1 ∧ I u 1 = nI s.2.1 ∧ I u 2 = nI s.2.2.1 ∧ I u 3 = nI s.2.2.2.1 ∧ I u 4 = nI s.2.2.2.2.1 ∧ I u 5 = nI s.2.2.2.2.2) ∧
  (I (u + 1) 0 = nI (rT r) ∧ I (u + 1) 1 = nI (rP r) ∧ I (u + 1) 2 = nI (rSc r) ∧ I (u + 8) 0 = nI (rN r) ∧ I (u + 15) 0 = nI (rSt r)) ∧
  (∀ k, k < rT r → I (u + 2) k = nI (rSz r k) ∧ I (u + 3) k = nI (rFi r k) ∧ I (u + 4) k = nI (rHo r k)) ∧
  (∀ p, p < rP r → I (u + 5) p = nI (rOw r p) ∧ I (u + 6) p = nI (rWe r (rOw r p)) ∧ I (u + 7) p = encM (rSn r p)) ∧
  (∀ b, b < rN r → I (u + 9) b = nI (rKi r b) ∧ I (u + 10) b = nI (rDr r b) ∧ I (u + 11) b = nI (rWa r b) ∧ I (u + 12) b = nI (rBz r b) ∧ I (u + 13) b = encO (rHm r b) ∧ I (u + 14) b = nI (chl r b)) ∧
  (∀ i, i < rSt r → I (u + 16) i = nI (rF r i).1 ∧ I (u + 17) i = stWho (rF r i) ∧ I (u + 18) i = stWhat (rF r i) ∧ I (u + 19) i = stLong (rF r i)) ∧ NmC I t (rNn r) (rNm r)
/-- the class' shore being read: its layout, its plan's -/
def UpL (G : Gm) (t u : Nat) : Prop := TpL G t u ∧ Sh G u ∧ Pl G u ∧ (u + 81 < t ∨ t + 87 < u ∨ (t + 1 < u ∧ u + 81 < t + 84))
theorem RC.fq {I I' : Im} {t u : Nat} {r : RS} (H : RC I t u r) (hf : FQ t I I') (hd : u + 81 < t ∨ t + 87 < u ∨ (t + 1 < u ∧ u + 81 < t + 84)) : RC I' t u r := by
  obtain ⟨h1, h2, h3, h4, h5, h6, h7, h8⟩ := H
  have e : ∀ k, k ≤ 19 → I' (u + k) = I (u + k) := fun k hk => hf.1 _ (by omega)
  have e0 : I' u = I u := e 0 (by omega)
  refine ⟨by rw [hf.2 9 (by decide) (by decide) (by decide) (by decide) (by decide) (by decide)]; exact h1, by rw [e0]; exact h2, by rw [e 1 (by omega), e 8 (by omega), e 15 (by omega)]; exact h3, by rw [e 2 (by omega), e 3 (by omega), e 4 (by omega)]; exact h4, by rw [e 5 (by omega), e 6 (by omega), e 7 (by omega)]; exact h5, by rw [e 9 (by omega), e 10 (by omega), e 11 (by omega), e 12 (by omega), e 13 (by omega), e 14 (by omega)]; exact h6, by rw [e 16 (by omega), e 17 (by omega), e 18 (by omega), e 19 (by omega)]; exact h7, h8.fq hf⟩
/-- what a line may write -/
def FL (t u : Nat) (I I' : Im) : Prop := (∀ c, c ≠ t → ¬ (t + 84 ≤ c ∧ c ≤ t + 87) → ¬ (u ≤ c ∧ c ≤ u + 19) → I' c = I c) ∧ ∀ j, j ≠ 3 → j ≠ 4 → j ≠ 5 → j ≠ 6 → j ≠ 7 → j ≠ 9 → j ≠ 10 → j ≠ 15 → I' t j = I t j
theorem FL.rf {t u : Nat} {I : Im} : FL t u I I := ⟨fun _ _ _ _ => rfl, fun _ _ _ _ _ _ _ _ _ => rfl⟩
theorem FL.tr {t u : Nat} {I I1 I2 : Im} (h1 : FL t u I I1) (h2 : FL t u I1 I2) : FL t u I I2 := ⟨fun c a b d => (h2.1 c a b d).trans (h1.1 c a b d), fun j a b c d e f g i => (h2.2 j a b c d e f g i).trans (h1.2 j a b c d e f g i)⟩
theorem FQ.l {t u : Nat} {I I' : Im} (h : FQ t I I') : FL t u I I' := ⟨fun c a _ _ => h.1 c a, fun j a b c d e _ _ f => h.2 j a b c d e f⟩
theorem FN.l {t u : Nat} {I I' : Im} (h : FN t I I') : FL t u I I' := ⟨fun c a b _ => h.1 c a b, fun j a b c d e _ f g => h.2 j a b c d e f g⟩
theorem FL.s2 {t u c k : Nat} {x : Int32} {I I1 : Im} (h : FL t u I I1) (hc : u ≤ c ∧ c ≤ u + 19) (hd : u + 81 < t ∨ t + 87 < u ∨ (t + 1 < u ∧ u + 81 < t + 84)) : FL t u I (s2 I1 c k x) :=
  ⟨fun a h1 h2 h3 => by rw [s2_ne (fun e => h3 (by rw [e]; exact hc))]; exact h.1 a h1 h2 h3, fun j h1 h2 h3 h4 h5 h6 h7 h8 => by rw [s2_ne (by omega)]; exact h.2 j h1 h2 h3 h4 h5 h6 h7 h8⟩
theorem TxV.fl {I I' : Im} {t u e : Nat} {B : Nat → Nat} (h : TxV I t B e) (hf : FL t u I I') (hd : u + 81 < t ∨ t + 87 < u ∨ (t + 1 < u ∧ u + 81 < t + 84)) : TxV I' t B e := h.fr (hf.2 2 (by decide) (by decide) (by decide) (by decide) (by decide) (by decide) (by decide) (by decide)) (hf.1 _ (by omega) (by omega) (by omega))
def bnd {α β : Type} (x : Er ⊕ α) (f : α → Er ⊕ β) : Er ⊕ β := match x with
  | .inl r => .inl r
  | .inr v => f v
theorem bnd_l {α β : Type} {r : Er} {f : α → Er ⊕ β} : bnd (.inl r) f = .inl r := rfl
theorem bnd_r {α β : Type} {v : α} {f : α → Er ⊕ β} : bnd (.inr v) f = f v := rfl
theorem pW_e {B : Nat → Nat} {e a a' : Nat} {w : List Nat} (h : pW B e a w = .inr a') (ha : a ≤ e) : a' ≤ e := by
  unfold pW at h
  split at h
  · cases h; exact (tk_ord ha).2.2.1
  · cases h
theorem pC_e {B : Nat → Nat} {e a a' c : Nat} (h : pC B e a c = .inr a') (ha : a ≤ e) : a' ≤ e := by
  unfold pC at h
  split at h
  · cases h; exact (tk_ord ha).2.2.1
  · cases h
theorem pN_e {B : Nat → Nat} {e a lo hi : Nat} {v : Nat × Nat} (h : pN B e a lo hi = .inr v) (ha : a ≤ e) : v.2 ≤ e ∧ lo ≤ v.1 ∧ v.1 ≤ hi := by
  unfold pN at h
  split at h
  · split at h
    · rename_i c; cases h; exact ⟨(tk_ord ha).2.2.1, c⟩
    · cases h
  · cases h
theorem pF_e {B : Nat → Nat} {e a n a' : Nat} {N : Nat → Nme} (h : pF B e a n N = .inr a') (ha : a ≤ e) : a' ≤ e ∧ a' = kE (tk B e a) := by
  unfold pF at h
  split at h
  · split at h
    · cases h; exact ⟨(tk_ord ha).2.2.1, rfl⟩
    · cases h
  · cases h
theorem pM_e {B : Nat → Nat} {e a n : Nat} {N : Nat → Nme} {o : Bool} {v : Nat × Nat} (h : pM B e a n N o = .inr v) (ha : a ≤ e) : v.2 ≤ e ∧ ∃ i, i < n ∧ (N i).2.2.1 = o ∧ (N i).2.2.2 = v.1 := by
  unfold pM at h
  split at h
  · cases hf : fnP B n N (tk B e a) with
    | none => rw [hf] at h; cases h
    | some i =>
      rw [hf] at h
      dsimp only at h
      split at h
      · rename_i c; cases h; exact ⟨(tk_ord ha).2.2.1, i, firstU_lt hf, c, rfl⟩
      · cases h
  · cases h
theorem pK_e {B : Nat → Nat} {e a : Nat} {v : Nat × Nat} (h : pK B e a = .inr v) (ha : a ≤ e) : v.2 ≤ e ∧ v.1 ≤ 3 := by
  unfold pK at h
  cases hk : kdP B (tk B e a) with
  | none => rw [hk] at h; cases h
  | some k =>
    rw [hk] at h
    cases h
    refine ⟨(tk_ord ha).2.2.1, ?_⟩
    unfold kdP at hk
    repeat' split at hk
    all_goals first | (cases hk; omega) | cases hk
/-- the lines -/
def lnShore (B : Nat → Nat) (e a : Nat) (r : RS) : Er ⊕ (Nat × RS) :=
  bnd (pW B e a (wN 9)) fun a => bnd (pN B e a 1 50) fun v1 => bnd (pW B e v1.2 (wN 10)) fun a => bnd (pN B e a 0 9) fun v2 => bnd (pW B e v2.2 (wN 11)) fun a => bnd (pN B e a 0 99) fun v3 =>
  bnd (pC B e v3.2 44) fun a => bnd (pN B e a 0 9) fun v4 => bnd (pW B e v4.2 (wN 12)) fun a => bnd (pN B e a 0 50) fun v5 => bnd (pW B e v5.2 (wN 13)) fun a => bnd (pN B e a 0 50) fun v6 =>
  .inr (v6.2, (some (v1.1, v2.1, v3.1, v4.1, v5.1, v6.1), r.2))
def addTowel (r : RS) (many holds wet : Nat) (x : Nme) : RS :=
  (r.1, (rT r + 1, rP r + many, up (rSz r) (rT r) many, up (rFi r) (rT r) (rP r), up (rHo r) (rT r) holds, up (rWe r) (rT r) wet, (fun p => if rP r ≤ p ∧ p < rP r + many then rT r else rOw r p)), r.2.2.1, r.2.2.2.1, r.2.2.2.2.1, (rNn r + 1, upM (rNm r) (rNn r) x))
def lnTowel (B : Nat → Nat) (e a0 : Nat) (r : RS) : Er ⊕ (Nat × RS) :=
  bnd (pF B e a0 (rNn r) (rNm r)) fun a1 => bnd (pW B e a1 (wN 14)) fun a2 => bnd (pN B e a2 1 4) fun v1 => if 6 < rP r + v1.1 then .inl (5, kS (tk B e a2)) else
  bnd (pW B e v1.2 (wN 15)) fun a => bnd (pN B e a 1 99) fun v2 => bnd (pW B e v2.2 (wN 16)) fun a => bnd (pN B e a 0 v2.1) fun v3 =>
  .inr (v3.2, addTowel r v1.1 v2.1 v3.1 (kS (tk B e a0), kE (tk B e a0), true, rT r))
def addBather (r : RS) (kind wet cold want size : Nat) (x : Nme) : RS :=
  (r.1, r.2.1, (rN r + 1, up (rKi r) (rN r) kind, up (rDr r) (rN r) wet, up (rCo r) (rN r) cold, up (rWa r) (rN r) want, up (rBz r) (rN r) size, (fun b => if b = rN r then none else rHm r b)), r.2.2.2.1, r.2.2.2.2.1, (rNn r + 1, upM (rNm r) (rNn r) x))
def lnBather (B : Nat → Nat) (e a0 : Nat) (r : RS) : Er ⊕ (Nat × RS) :=
  bnd (pF B e a0 (rNn r) (rNm r)) fun a1 => bnd (pK B e a1) fun v0 => bnd (pW B e v0.2 (wN 16)) fun a => bnd (pN B e a 0 99) fun v1 => bnd (pW B e v1.2 (wN 21)) fun a => bnd (pN B e a 0 9) fun v2 =>
  bnd (pW B e v2.2 (wN 22)) fun a => bnd (pN B e a 0 99) fun v3 => bnd (pW B e v3.2 (wN 23)) fun a => bnd (pN B e a 1 9) fun v4 =>
  .inr (v4.2, addBather r v0.1 v1.1 v2.1 v3.1 v4.1 (kS (tk B e a0), kE (tk B e a0), false, rN r))
def setHome (r : RS) (b m : Nat) : RS := (r.1, r.2.1, (rN r, rKi r, rDr r, rCo r, rWa r, rBz r, (fun k => if k = b then some m else rHm r k)), r.2.2.2)
def lnHome (B : Nat → Nat) (e a : Nat) (r : RS) : Er ⊕ (Nat × RS) :=
  bnd (pM B e a (rNn r) (rNm r) false) fun v => if rHm r v.1 = none then bnd (pN B e v.2 0 240) fun w => .inr (w.2, setHome r v.1 w.1) else .inl (3, kS (tk B e a))
def setSeen (r : RS) (p k : Nat) : RS := (r.1, r.2.1, r.2.2.1, r.2.2.2.1, (rSc r + 1, (fun j => if j = p then some k else rSn r j)), r.2.2.2.2.2)
def lnSeen (B : Nat → Nat) (e a : Nat) (r : RS) : Er ⊕ (Nat × RS) :=
  bnd (pM B e a (rNn r) (rNm r) true) fun v => bnd (pN B e v.2 0 (rSz r v.1 - 1)) fun k => if rSn r (rFi r v.1 + k.1) = none then bnd (pN B e k.2 0 99) fun w => .inr (w.2, setSeen r (rFi r v.1 + k.1) w.1) else .inl (3, kS (tk B e v.2))
def addStep (r : RS) (x : Pst) : RS := (r.1, r.2.1, r.2.2.1, (rSt r + 1, (fun j => if j = rSt r then x else rF r j)), r.2.2.2.2)
def lnWipes (B : Nat → Nat) (e a : Nat) (r : RS) : Er ⊕ (Nat × RS) :=
  bnd (pM B e a (rNn r) (rNm r) false) fun v => bnd (pM B e v.2 (rNn r) (rNm r) true) fun t => bnd (pN B e t.2 0 (rSz r t.1 - 1)) fun k => .inr (k.2, addStep r (0, v.1, rFi r t.1 + k.1, 0))
def lnWrings (B : Nat → Nat) (e a : Nat) (r : RS) : Er ⊕ (Nat × RS) := bnd (pM B e a (rNn r) (rNm r) true) fun t => .inr (t.2, addStep r (1, 0, t.1, 0))
def lnHangs (B : Nat → Nat) (e a : Nat) (r : RS) : Er ⊕ (Nat × RS) := bnd (pM B e a (rNn r) (rNm r) true) fun t => bnd (pN B e t.2 1 60) fun k => .inr (k.2, addStep r (2, 0, t.1, k.1))
def lnShakes (B : Nat → Nat) (e a : Nat) (r : RS) : Er ⊕ (Nat × RS) := bnd (pM B e a (rNn r) (rNm r) false) fun v => .inr (v.2, addStep r (3, v.1, 0, 0))
/-- a line, whose first token starts behind a -/
def ln (B : Nat → Nat) (e a : Nat) (r : RS) : Er ⊕ (Nat × RS) := match lsP B (tk B e a) with
  | none => .inl (1, kS (tk B e a))
  | some 0 => if r.1.isSome = true then .inl (3, kS (tk B e a)) else lnShore B e (kE (tk B e a)) r
  | some i => if (if i = 1 then rT r < 3 else if i = 2 then rN r < 6 else if i = 3 then True else if i = 8 then rSc r < 6 else rSt r < 12) then
      (if r.1.isSome = true then (if i = 1 then lnTowel B e (kE (tk B e a)) r else if i = 2 then lnBather B e (kE (tk B e a)) r else if i = 3 then lnHome B e (kE (tk B e a)) r else if i = 4 then lnWipes B e (kE (tk B e a)) r else
        if i = 5 then lnWrings B e (kE (tk B e a)) r else if i = 6 then lnHangs B e (kE (tk B e a)) r else if i = 7 then lnShakes B e (kE (tk B e a)) r else lnSeen B e (kE (tk B e a)) r) else .inl (6, kS (tk B e a))) else .inl (5, kS (tk B e a))
/-- behind a line: the next begins behind a'; none, and the end is well; or the fault -/
def nxL (B : Nat → Nat) (e a : Nat) (r : RS) : Er ⊕ Option Nat := if sg B (tk B e a) 59 = true then .inr (some (kE (tk B e a))) else if kK (tk B e a) = 0 then (if rT r = 0 ∨ rN r = 0 then .inl (6, kS (tk B e a)) else .inr none) else .inl (1, kS (tk B e a))
/-- all lines; f: no more than f -/
def lnAll (B : Nat → Nat) (e : Nat) : Nat → Nat → RS → Er ⊕ RS
  | 0, _, _ => .inl (0, 0)
  | f + 1, a, r => match ln B e a r with
    | .inl x => .inl x
    | .inr v => match nxL B e v.1 v.2 with
      | .inl x => .inl x
      | .inr none => .inr v.2
      | .inr (some a') => lnAll B e f a' v.2
def r0 : RS := (none, (0, 0, (fun _ => 0), (fun _ => 0), (fun _ => 0), (fun _ => 0), (fun _ => 0)), (0, (fun _ => 0), (fun _ => 0), (fun _ => 0), (fun _ => 0), (fun _ => 0), (fun _ => none)), (0, fun _ => (0, 0, 0, 0)), (0, fun _ => none), (0, fun _ => (0, 0, false, 0)))
/-- what the class answers of a line -/
def AnL (e : Nat) (I0 I : Im) (t u : Nat) (b : Bool) (x : Er ⊕ (Nat × RS)) : Prop := match x with
  | .inl y => b = false ∧ FlC I t y
  | .inr v => b = true ∧ I t 3 = nI v.1 ∧ v.1 ≤ e ∧ RC I t u v.2 ∧ ROk e v.2 ∧ I t 7 = I0 t 7
