/-! both between two calls -/
/-- the shore told, the scene, what can be taken back, the marks -/
abbrev Gh : Type := Shr × RS × Qp × Nat × (Nat → Qp) × Nat × (Nat → Qp)
def gH (g : Gh) : Sp := hOf g.1 g.2.1
def gQ (g : Gh) : Qp := g.2.2.1
def gRS (g : Gh) : RS := g.2.1
/-- the class, of a shore at s -/
def ClW (G : Gm) (I : Im) (x s : Nat) (o : Option Gh) : Prop := match o with
  | none => (∀ j, j < 6 → I s j = nI 0) ∧ (∀ j, j < 3 → I (s + 1) j = nI 0) ∧ I (s + 8) 0 = nI 0 ∧ I (s + 15) 0 = nI 0 ∧ I (x + 179) 0 = nI 0 ∧ I (x + 179) 1 = nI 0 ∧ ∃ t, t < 16 ∧ I (x + 179) 2 = nI t
  | some (sh, r, q, c, U, mk, M) => CW G I x s sh r q c U mk M
/-- the model with a shore at S -/
def MW (G : Gm) (I : Im) (m S : Nat) (sh : Shr) (r : RS) (q : Qp) (c : Nat) (U : Nat → Qp) (mk : Nat) (M : Nat → Qp) : Prop := r.1 = some sh ∧ MT G I m S 0 (hOf sh r) q ∧ (MgV I S (hOf sh r) (q0R r) ∧ QpOk (hOf sh r) (q0R r)) ∧ MzV I S (hOf sh r) (rBz r) ∧ MvV I S (hOf sh r) (rSn r) ∧ MpV I S (hOf sh r) (rSt r) (rF r) ∧ (∀ b, b < rN r → I (S + 11) b = encO (rHm r b)) ∧ I S 10 = nI (rSc r) ∧ MhV I m (hOf sh r) c U mk M
def MoW (G : Gm) (I : Im) (m : Nat) (o : Option Gh) : Prop := match o with
  | none => gR G m 3 = none ∧ I m 19 = nI 0 ∧ I m 20 = nI 0
  | some (sh, r, q, c, U, mk, M) => ∃ S, gR G m 3 = some S ∧ m + 12 < S ∧ S + 20 ≤ gN G ∧ MW G I m S sh r q c U mk M
/-- what only the class' own rows and its last trouble changed -/
theorem ClW.y {G : Gm} {I I' : Im} {x s u : Nat} {o : Option Gh} (hT : Tp G x s u) (h : ClW G I x s o) (hf : ∀ c, x + 3 ≤ c → c ≤ x + 338 → ¬ (x + 175 ≤ c ∧ c ≤ x + 178) → ¬ (x + 258 ≤ c ∧ c ≤ x + 288) → ¬ (x + 85 ≤ c ∧ c ≤ x + 88) → ¬ (u ≤ c ∧ c ≤ u + 81) → I' c = I c) : ClW G I' x s o := by
  have hd := hT.2.2.2.2.1
  cases o with
  | none =>
    obtain ⟨h1, h2, h3, h4, h5, h6, h7⟩ := h
    show (∀ j, j < 6 → I' s j = nI 0) ∧ (∀ j, j < 3 → I' (s + 1) j = nI 0) ∧ I' (s + 8) 0 = nI 0 ∧ I' (s + 15) 0 = nI 0 ∧ I' (x + 179) 0 = nI 0 ∧ I' (x + 179) 1 = nI 0 ∧ ∃ t, t < 16 ∧ I' (x + 179) 2 = nI t
    rw [hf s (by omega) (by omega) (by omega) (by omega) (by omega) (by omega), hf (s + 1) (by omega) (by omega) (by omega) (by omega) (by omega) (by omega), hf (s + 8) (by omega) (by omega) (by omega) (by omega) (by omega) (by omega), hf (s + 15) (by omega) (by omega) (by omega) (by omega) (by omega) (by omega), hf (x + 179) (by omega) (by omega) (by omega) (by omega) (by omega) (by omega)]
    exact ⟨h1, h2, h3, h4, h5, h6, h7⟩
  | some g =>
    obtain ⟨sh, r, q, c, U, mk, M⟩ := g
    obtain ⟨h1, h2, h3, ⟨k0, k1, k2, a0, a1, a2, b0, b1, b2⟩, h5, ⟨k3, a3, b3⟩⟩ := h
    have e289 : ∀ j, j ≤ 12 → I' (x + 289 + j) = I (x + 289 + j) := fun j hj => hf _ (by omega) (by omega) (by omega) (by omega) (by omega) (by omega)
    refine ⟨h1.fr (fun c a b => hf c (by omega) (by omega) (by omega) (by omega) (by omega) (by omega)), h2.fr (fun c hc => hf c (by unfold inSc at hc; omega) (by unfold inSc at hc; omega) (by unfold inSc at hc; omega) (by unfold inSc at hc; omega) (by unfold inSc at hc; omega) (by unfold inSc at hc; omega)), h3.fr (fun c hc => hf c (by unfold inHy at hc; omega) (by unfold inHy at hc; omega) (by unfold inHy at hc; omega) (by unfold inHy at hc; omega) (by unfold inHy at hc; omega) (by unfold inHy at hc; omega)), ⟨k0, k1, k2, ?_, ?_, ?_, fun k => ?_, fun k => ?_, fun k => ?_⟩, fun n hn => ?_, ⟨k3, ?_, fun k => ?_⟩⟩
    · rw [e289 0 (by omega)]; exact a0
    · rw [e289 0 (by omega)]; exact a1
    · rw [e289 0 (by omega)]; exact a2
    · have := b0 k
      unfold ChO BoV at this ⊢
      rw [e289 0 (by omega), e289 1 (by omega), e289 2 (by omega)]
      exact this
    · have := b1 k
      unfold ShK at this ⊢
      rw [e289 0 (by omega), e289 3 (by omega)]
      exact this
    · have := b2 k
      unfold WrK at this ⊢
      rw [e289 0 (by omega)]
      exact this
    · obtain ⟨b, c1, c2⟩ := h5 n hn
      refine ⟨b, by rw [hf _ (by omega) (by omega) (by omega) (by omega) (by omega) (by omega)]; exact c1, fun k => ?_⟩
      obtain ⟨T0, B0, B⟩ := c2 k
      exact ⟨T0, B0, B.fr (fun c hc => hf c (by unfold inOf at hc; omega) (by unfold inOf at hc; omega) (by unfold inOf at hc; omega) (by unfold inOf at hc; omega) (by unfold inOf at hc; omega) (by unfold inOf at hc; omega))⟩
    · rw [hf _ (by omega) (by omega) (by omega) (by omega) (by omega) (by omega)]; exact a3
    · obtain ⟨c1, c2, c3⟩ := b3 k
      have hP6 := h2.2.2.2.2.1.2.1
      refine ⟨c1.fr hP6 (by rw [hf _ (by omega) (by omega) (by omega) (by omega) (by omega) (by omega)]) (fun c a b => hf c (by omega) (by omega) (by omega) (by omega) (by omega) (by omega)), ?_, ?_⟩
      · rw [hf _ (by omega) (by omega) (by omega) (by omega) (by omega) (by omega)]; exact c2
      · rw [hf _ (by omega) (by omega) (by omega) (by omega) (by omega) (by omega)]; exact c3
theorem ClW.x {G : Gm} {I I' : Im} {x s u : Nat} {o : Option Gh} (hT : Tp G x s u) (h : ClW G I x s o) (hf : ∀ c, c ≠ x → c ≤ x + 338 → ¬ (x + 175 ≤ c ∧ c ≤ x + 178) → ¬ (x + 258 ≤ c ∧ c ≤ x + 288) → I' c = I c) : ClW G I' x s o := h.y hT (fun c h1 h2 h3 h4 _ _ => hf c (by omega) h2 h3 h4)
/-- the model's own rows, its fields for one call -/
theorem MoW.m {G : Gm} {I I' : Im} {m : Nat} {o : Option Gh} (h : MoW G I m o) (h1 : ∀ c, m + 1 < c → c ≠ m + 2 → ¬ (m + 5 ≤ c ∧ c ≤ m + 11) → I' c = I c) (h2 : ∀ j, j < 21 → I' (m + 2) j = I (m + 2) j) (h3 : ∀ j, j = 19 ∨ j = 20 → I' m j = I m j) : MoW G I' m o := by
  cases o with
  | none => exact ⟨h.1, by rw [h3 19 (Or.inl rfl)]; exact h.2.1, by rw [h3 20 (Or.inr rfl)]; exact h.2.2⟩
  | some g =>
    obtain ⟨sh, r, q, c, U, mk, M⟩ := g
    obtain ⟨S, a1, a2, a3, b0, ⟨b1, b2, b3, b4, b5, b6, b7, b8⟩, ⟨c1, c1'⟩, c2, c3, c4, c5, c6, c7⟩ := h
    have hS : ∀ c, S ≤ c → I' c = I c := fun c hc => h1 c (by omega) (by omega) (by omega)
    refine ⟨S, a1, a2, a3, b0, ⟨b1, b2, b3, ?_, b5, b6.fr b5.1 b5.2.1 (fun j _ hj => h2 j (by omega)), b7, b8⟩, ⟨c1.fr hS, c1'⟩, c2.fr hS, c3.fr hS, c4.fr hS, fun b hb => by rw [hS _ (by omega)]; exact c5 b hb, by rw [hS _ (Nat.le_refl _)]; exact c6, c7.fr (h3 19 (Or.inl rfl)) (h3 20 (Or.inr rfl)) (h1 _ (by omega) (by omega) (by omega)) (h1 _ (by omega) (by omega) (by omega))⟩
    unfold MsV at b4 ⊢
    rw [hS S (Nat.le_refl _), hS (S + 6) (by omega), hS (S + 9) (by omega), hS (S + 8) (by omega), hS (S + 1) (by omega), hS (S + 4) (by omega), hS (S + 2) (by omega), hS (S + 5) (by omega)]
    exact b4
def TrV (I : Im) (x : Nat) : Prop := I (x + 339) 1 = I x 11 ∧ I (x + 339) 13 = I x 9 ∧ I (x + 339) 2 = if I x 11 = nI 4 then I x 10 else -1
/-- minutes and cold no more than k calls make -/
def QmOk (k : Nat) (h : Sp) (q : Qp) : Prop := qM q ≤ 99 * k ∧ ∀ b, b < hN h → qC q b ≤ 18 * (99 * k)
def GhOk (k : Nat) (o : Option Gh) : Prop := match o with
  | none => True
  | some (sh, r, q, c, U, mk, M) => QmOk k (hOf sh r) q ∧ (∀ j, j < c → QmOk k (hOf sh r) (U j)) ∧ ∀ i, i < mk → QmOk k (hOf sh r) (M i)
/-- both, k calls made -/
def Wd (G : Gm) (I : Im) (x k : Nat) : Prop := ∃ s u n B o, Tp G x s u ∧ MoB G (x + 339) ∧ (gT G (x + 351) = (3, 1) ∧ x + 352 ≤ gN G ∧ gN G ≤ x + 352 + 20 * k ∧ gS G ≤ 20000 + 166 * k) ∧ TaV I (x + 1) 0 (x + 2) n B ∧ TaV I (x + 339) 6 (x + 340) n B ∧ TrV I x ∧ ClW G I x s o ∧ MoW G I (x + 339) o ∧ GhOk k o
theorem GhOk.mono {k : Nat} {o : Option Gh} (h : GhOk k o) : GhOk (k + 1) o := by
  cases o with
  | none => trivial
  | some g =>
    obtain ⟨sh, r, q, c, U, mk, M⟩ := g
    have key : ∀ p, QmOk k (hOf sh r) p → QmOk (k + 1) (hOf sh r) p := fun p hp => ⟨by have := hp.1; omega, fun b hb => by have := hp.2 b hb; omega⟩
    exact ⟨key _ h.1, fun j hj => key _ (h.2.1 j hj), fun i hi => key _ (h.2.2 i hi)⟩
/-- a call that asks: the same answer, the same trouble -/
theorem Wd.ask {G : Gm} {I I1 I2 : Im} {x k s u n : Nat} {B : Nat → Nat} {o : Option Gh} {tr : Int32} (hT : Tp G x s u) (hB : MoB G (x + 339)) (hN : gT G (x + 351) = (3, 1) ∧ x + 352 ≤ gN G ∧ gN G ≤ x + 352 + 20 * k ∧ gS G ≤ 20000 + 166 * k) (hV : TaV I (x + 1) 0 (x + 2) n B) (hV2 : TaV I (x + 339) 6 (x + 340) n B) (hTr : TrV I x) (hC : ClW G I1 x s o) (hM : MoW G I (x + 339) o) (hk : GhOk k o)
    (c1 : ∀ c, c ≠ x → ¬ (x + 175 ≤ c ∧ c ≤ x + 178) → ¬ (x + 258 ≤ c ∧ c ≤ x + 338) → I1 c = I c) (c2 : ∀ j, j ≠ 11 → I1 x j = I x j) (c3 : I1 x 11 = tr) (htr : tr ≠ nI 4)
    (m1 : ∀ c, c ≠ x + 339 → c ≠ x + 341 → ¬ (x + 344 ≤ c ∧ c ≤ x + 350) → I2 c = I1 c) (m2 : ∀ j, j < 21 → I2 (x + 341) j = I1 (x + 341) j) (m3 : ∀ j, j ≠ 0 → j ≠ 1 → j ≠ 2 → j ≠ 25 → j ≠ 26 → j ≠ 30 → j ≠ 31 → I2 (x + 339) j = I1 (x + 339) j) (m4 : I2 (x + 339) 1 = tr) (m5 : I2 (x + 339) 2 = -1) : Wd G I2 x (k + 1) := by
  have hd := hT.2.2.2.2.1
  have a2 : ∀ c, c < x + 339 → I2 c = I1 c := fun c hc => m1 c (by omega) (by omega) (by omega)
  have a1 : ∀ c, x + 339 ≤ c → I1 c = I c := fun c hc => c1 c (by omega) (by omega) (by omega)
  refine ⟨s, u, n, B, o, hT, hB, ⟨hN.1, hN.2.1, by omega, by omega⟩, ⟨?_, hV.2.1, fun j hj => ?_⟩, ⟨?_, hV2.2.1, fun j hj => ?_⟩, ⟨?_, ?_, ?_⟩, ?_, ?_, hk.mono⟩
  · rw [a2 _ (by omega), c1 _ (by omega) (by omega) (by omega)]; exact hV.1
  · rw [a2 _ (by omega), c1 _ (by omega) (by omega) (by omega)]; exact hV.2.2 j hj
  · rw [m3 6 (by decide) (by decide) (by decide) (by decide) (by decide) (by decide) (by decide), a1 _ (by omega)]; exact hV2.1
  · rw [m1 _ (by omega) (by omega) (by omega), a1 _ (by omega)]; exact hV2.2.2 j hj
  · rw [m4, a2 x (by omega), c3]
  · rw [m3 13 (by decide) (by decide) (by decide) (by decide) (by decide) (by decide) (by decide), a1 _ (by omega), a2 x (by omega), c2 9 (by decide)]; exact hTr.2.1
  · rw [m5, a2 x (by omega), c3, if_neg htr]
  · exact hC.x hT (fun c q1 q0 q2 q3 => a2 c (by omega))
  · exact hM.m (fun c q1 q2 q3 => by rw [m1 c (by omega) (by omega) (by omega), a1 c (by omega)]) (fun j hj => by rw [m2 j hj, a1 _ (by omega)]) (fun j hj => by rw [m3 j (by omega) (by omega) (by omega) (by omega) (by omega) (by omega) (by omega), a1 _ (by omega)])
