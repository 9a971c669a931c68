/-! what a text told says, for both -/
def CdOk {α : Type} (x : Er ⊕ α) : Prop := ∀ y, x = .inl y → 1 ≤ y.1 ∧ y.1 ≤ 6
theorem CdOk.i {α : Type} {k s : Nat} (h : 1 ≤ k ∧ k ≤ 6) : CdOk (.inl (k, s) : Er ⊕ α) := fun y e => by cases e; exact h
theorem CdOk.r {α : Type} {v : α} : CdOk (.inr v) := fun y e => (by cases e)
theorem CdOk.b {α β : Type} {x : Er ⊕ α} {f : α → Er ⊕ β} (h1 : CdOk x) (h2 : ∀ v, CdOk (f v)) : CdOk (bnd x f) := by
  cases x with
  | inl y => intro z e; cases e; exact h1 y rfl
  | inr v => exact h2 v
theorem cd_W {B : Nat → Nat} {e a : Nat} {w : List Nat} : CdOk (pW B e a w) := by unfold pW; split; exact .r; exact .i (by decide)
theorem cd_C {B : Nat → Nat} {e a c : Nat} : CdOk (pC B e a c) := by unfold pC; split; exact .r; exact .i (by decide)
theorem cd_N {B : Nat → Nat} {e a lo hi : Nat} : CdOk (pN B e a lo hi) := by
  unfold pN
  split
  · split
    · exact .r
    · exact .i (by decide)
  · exact .i (by decide)
theorem cd_F {B : Nat → Nat} {e a n : Nat} {N : Nat → Nme} : CdOk (pF B e a n N) := by
  unfold pF
  split
  · split
    · exact .r
    · exact .i (by decide)
  · exact .i (by decide)
theorem cd_M {B : Nat → Nat} {e a n : Nat} {N : Nat → Nme} {o : Bool} : CdOk (pM B e a n N o) := by
  unfold pM
  split
  · cases fnP B n N (tk B e a) with
    | none => exact .i (by decide)
    | some i =>
      dsimp only
      split
      · exact .r
      · exact .i (by decide)
  · exact .i (by decide)
theorem cd_K {B : Nat → Nat} {e a : Nat} : CdOk (pK B e a) := by
  unfold pK
  cases kdP B (tk B e a) with
  | none => exact .i (by decide)
  | some v => exact .r
theorem cd_J {B : Nat → Nat} {e a i : Nat} {r : RS} : CdOk (lnJ B e a r i) := by
  unfold lnJ
  repeat' split
  · exact .b cd_F fun _ => .b cd_W fun _ => .b cd_N fun _ => by
      split
      · exact .i (by decide)
      · exact .b cd_W fun _ => .b cd_N fun _ => .b cd_W fun _ => .b cd_N fun _ => .r
  · exact .b cd_F fun _ => .b cd_K fun _ => .b cd_W fun _ => .b cd_N fun _ => .b cd_W fun _ => .b cd_N fun _ => .b cd_W fun _ => .b cd_N fun _ => .b cd_W fun _ => .b cd_N fun _ => .r
  · exact .b cd_M fun _ => by
      split
      · exact .b cd_N fun _ => .r
      · exact .i (by decide)
  · exact .b cd_M fun _ => .b cd_M fun _ => .b cd_N fun _ => .r
  · exact .b cd_M fun _ => .r
  · exact .b cd_M fun _ => .b cd_N fun _ => .r
  · exact .b cd_M fun _ => .r
  · exact .b cd_M fun _ => .b cd_N fun _ => by
      split
      · exact .b cd_N fun _ => .r
      · exact .i (by decide)
theorem cd_ln {B : Nat → Nat} {e a : Nat} {r : RS} : CdOk (ln B e a r) := by
  cases hl : lsP B (tk B e a) with
  | none => rw [ln_n hl]; exact .i (by decide)
  | some i =>
    cases i with
    | zero =>
      rw [ln_0 hl]
      split
      · exact .i (by decide)
      · exact .b cd_W fun _ => .b cd_N fun _ => .b cd_W fun _ => .b cd_N fun _ => .b cd_W fun _ => .b cd_N fun _ => .b cd_C fun _ => .b cd_N fun _ => .b cd_W fun _ => .b cd_N fun _ => .b cd_W fun _ => .b cd_N fun _ => .r
    | succ i =>
      by_cases hr : rmP r (i + 1)
      · cases hs : r.1.isSome with
        | false => rw [ln_la hl hr hs]; exact .i (by decide)
        | true => rw [ln_i hl hr hs]; exact cd_J
      · rw [ln_no hl hr]; exact .i (by decide)
theorem cd_nx {B : Nat → Nat} {e a : Nat} {r : RS} : CdOk (nxL B e a r) := by
  unfold nxL
  repeat' split
  · exact .r
  · exact .i (by decide)
  · exact .r
  · exact .i (by decide)
theorem cd_all {B : Nat → Nat} {e : Nat} : ∀ f a r, a ≤ e → e < a + f → lnOks B e f a r → CdOk (lnAll B e f a r) := by
  intro f
  induction f with
  | zero => intro a r h1 h2; omega
  | succ f ih =>
    intro a r h1 h2 hk
    have es : lnAll B e (f + 1) a r = match ln B e a r with
      | .inl x => .inl x
      | .inr v => match nxL B e v.1 v.2 with
        | .inl x => .inl x
        | .inr none => .inr v.2
        | .inr (some a') => lnAll B e f a' v.2 := rfl
    rw [es]
    have hc := cd_ln (B := B) (e := e) (a := a) (r := r)
    cases hl : ln B e a r with
    | inl y => rw [hl] at hc; intro z q; cases q; exact hc y rfl
    | inr v =>
      obtain ⟨k1, k2, k3⟩ := hk.2 v hl
      have hm := ln_m hl h1
      have hc2 := cd_nx (B := B) (e := e) (a := v.1) (r := v.2)
      dsimp only
      cases hn : nxL B e v.1 v.2 with
      | inl y => rw [hn] at hc2; intro z q; cases q; exact hc2 y rfl
      | inr o =>
        cases o with
        | none => exact .r
        | some a' =>
          obtain ⟨m1, m2⟩ := nxL_s hn k1
          exact ih a' v.2 m2 (by omega) (k3 a' hn)
theorem cd_txt {B : Nat → Nat} {e : Nat} (h : lnOks B e 901 0 r0) (he : e ≤ 900) : CdOk (txt B e) := cd_all 901 0 r0 (Nat.zero_le _) (by omega) h
/-- the scene at the beginning -/
def q0R (r : RS) : Qp := (rDr r, fun _ => 0, fun p => rWe r (rOw r p), 0, 0, 0)
theorem ROk.sp {e : Nat} {r : RS} {s : Shr} (ho : ROk e r) (hs : r.1 = some s) : SpOk (hOf s r) := by
  obtain ⟨h1, ⟨h2, h3, h4, h5, h6, h7⟩, h8, h9, h10, -⟩ := ho
  obtain ⟨a1, a2, a3, a4, a5, a6, a7⟩ := h1 s hs
  refine ⟨h4, h3, h2, a2, a3, a4, a5, a6, a7, fun b hb => ?_, fun t ht => ⟨(h8 t ht).2.2.1, (h8 t ht).2.2.2.1⟩, h9⟩
  obtain ⟨b1, b2, b3, b4, -⟩ := h10 b hb
  refine ⟨b1, b4, ?_⟩
  show chl r b ≤ 18
  unfold chl
  split <;> omega
theorem ROk.qp {e : Nat} {r : RS} {s : Shr} (ho : ROk e r) : QpOk (hOf s r) (q0R r) := by
  obtain ⟨h1, ⟨h2, h3, h4, h5, h6, h7⟩, h8, h9, h10, -⟩ := ho
  refine ⟨fun b hb => (h10 b hb).2.1, fun p hp => ?_, by show 0 < 64; decide⟩
  exact (h8 _ (h9 p hp)).2.2.2.2
theorem ROk.st {e : Nat} {r : RS} {s : Shr} (ho : ROk e r) : ∀ i, i < rSt r → StOk (hOf s r) (rF r i) := ho.2.2.2.2.2.1
theorem RM.ms {G : Gm} {I : Im} {R : Nat} {B : Nat → Nat} {r : RS} {s : Shr} (h : RM G I R B r) (hs : r.1 = some s) : MsV I R (hOf s r) := by
  obtain ⟨-, h2, h3, h4, h5, h6, -, -⟩ := h
  obtain ⟨⟨a1, a2, a3, a4, a5, a6⟩, -⟩ := h2 s hs
  refine ⟨⟨h3.2.2.1, h3.2.1, h3.1⟩, ⟨a1, a2, a3, a4, a5, a6⟩, fun b hb => ?_, fun t ht => ?_, h5⟩
  · obtain ⟨b1, b2, b3, b4, -⟩ := h6 b hb
    exact ⟨b1, b4, rCo r b, b3, rfl⟩
  · obtain ⟨b1, b2, b3, b4⟩ := h4 t ht
    exact ⟨b1, b4, b2⟩
theorem RM.mg {G : Gm} {I : Im} {R e : Nat} {B : Nat → Nat} {r : RS} {s : Shr} (h : RM G I R B r) (ho : ROk e r) : MgV I R (hOf s r) (q0R r) :=
  ⟨fun b hb => ⟨(h.2.2.2.2.2.1 b hb).2.1, rfl⟩, fun p hp => (h.2.2.2.1 _ (ho.2.2.2.1 p hp)).2.2.1, rfl, rfl, rfl⟩
theorem RM.mp {G : Gm} {I : Im} {R e : Nat} {B : Nat → Nat} {r : RS} {s : Shr} (h : RM G I R B r) (ho : ROk e r) : MpV I R (hOf s r) (rSt r) (rF r) :=
  ⟨ho.2.1.2.2.2.1, h.2.2.1.2.2.2.1, fun i hi => ⟨ho.st i hi, h.2.2.2.2.2.2.1 i hi⟩⟩
theorem RM.mz {G : Gm} {I : Im} {R e : Nat} {B : Nat → Nat} {r : RS} {s : Shr} (h : RM G I R B r) (ho : ROk e r) : MzV I R (hOf s r) (rBz r) :=
  fun b hb => ⟨(h.2.2.2.2.2.1 b hb).2.2.2.2.1, (ho.2.2.2.2.1 b hb).2.2.2.2.1⟩
theorem RM.mv {G : Gm} {I : Im} {R e : Nat} {B : Nat → Nat} {r : RS} {s : Shr} (h : RM G I R B r) (ho : ROk e r) (hs : r.1 = some s) : MvV I R (hOf s r) (rSn r) :=
  fun p hp => ⟨(h.2.1 s hs).2 p (by have := ho.2.1.2.1; have hp : p < rP r := hp; omega), fun k hk => (ho.2.2.2.2.2.2.1 p k hk).1⟩
theorem RC.sh {I : Im} {t u e : Nat} {r : RS} {s : Shr} (h : RC I t u r) (ho : ROk e r) (hs : r.1 = some s) : ShV I u (hOf s r) := by
  obtain ⟨-, h2, h3, h4, h5, h6, -, -⟩ := h
  obtain ⟨a1, a2, a3, a4, a5, a6⟩ := h2 s hs
  refine ⟨⟨h3.2.2.2.1, h3.2.1, h3.1⟩, ⟨a1, a2, a3, a4, a5, a6⟩, fun b hb => ?_, fun t ht => ?_, fun p hp => (h5 p hp).1⟩
  · obtain ⟨b1, b2, b3, b4, b5, b6⟩ := h6 b hb
    exact ⟨b1, b3, b6⟩
  · obtain ⟨b1, b2, b3⟩ := h4 t ht
    exact ⟨b1, b2, b3⟩
theorem RC.bg {I : Im} {t u e : Nat} {r : RS} {s : Shr} (h : RC I t u r) (ho : ROk e r) : BgV I u (hOf s r) (q0R r) :=
  ⟨fun b hb => ⟨(h.2.2.2.2.2.1 b hb).2.1, rfl⟩, fun p hp => (h.2.2.2.2.1 p hp).2.1, rfl, rfl, rfl⟩
theorem RC.pl {I : Im} {t u e : Nat} {r : RS} {s : Shr} (h : RC I t u r) (ho : ROk e r) : PlV I u (hOf s r) (rSt r) (rF r) :=
  ⟨ho.2.1.2.2.2.1, h.2.2.1.2.2.2.2, fun i hi => ⟨ho.st i hi, h.2.2.2.2.2.2.1 i hi⟩⟩
theorem RC.sz {I : Im} {t u e : Nat} {r : RS} {s : Shr} (h : RC I t u r) (ho : ROk e r) : SzV I u (hOf s r) (rBz r) :=
  fun b hb => ⟨(h.2.2.2.2.2.1 b hb).2.2.2.1, (ho.2.2.2.2.1 b hb).2.2.2.2.1⟩
theorem RC.hm {I : Im} {t u e : Nat} {r : RS} {s : Shr} (h : RC I t u r) (ho : ROk e r) : HmV I u (hOf s r) (rHm r) :=
  fun b hb => ⟨(h.2.2.2.2.2.1 b hb).2.2.2.2.1, (ho.2.2.2.2.1 b hb).2.2.2.2.2⟩
theorem RC.se {I : Im} {t u e : Nat} {r : RS} {s : Shr} (h : RC I t u r) (ho : ROk e r) : SeV I u (hOf s r) (rSn r) :=
  fun p hp => ⟨(h.2.2.2.2.1 p hp).2.2, fun k hk => (ho.2.2.2.2.2.2.1 p k hk).1⟩
