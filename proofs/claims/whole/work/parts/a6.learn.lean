/-! what the class learns, between two calls; bounds on the cold -/
theorem minB_C {h : Sp} {q : Qp} {b : Nat} (hc : hChill h b ≤ 18) (j : Nat) : qC (minB h q b) j ≤ qC q j + (if j = b then 18 else 0) := by
  show (if qD q b - qD q b * hWind h / 100 ≤ hWant h b then qC q else up (qC q) b (qC q b + hChill h b)) j ≤ _
  by_cases c : qD q b - qD q b * hWind h / 100 ≤ hWant h b
  · rw [if_pos c]; exact Nat.le_add_right _ _
  · rw [if_neg c]
    by_cases e : j = b
    · subst e; rw [up_s, if_pos rfl]; omega
    · rw [up_o e]; exact Nat.le_add_right _ _
theorem minAF_C {h : Sp} {q : Qp} {j : Nat} (ho : SpOk h) : ∀ n, n ≤ hN h → qC (fo q (fun q b => minB h q b) n) j ≤ qC q j + (if j < n then 18 else 0)
  | 0, _ => Nat.le_add_right _ _
  | n + 1, hn => by
    have ih := minAF_C (h := h) (q := q) (j := j) ho n (by omega)
    have h1 := minB_C (h := h) (q := fo q (fun q b => minB h q b) n) (b := n) (ho.2.2.2.2.2.2.2.2.2.1 n (by omega)).2.2 j
    rw [fo_s]
    by_cases e : j = n
    · rw [if_pos e] at h1
      rw [if_neg (by omega)] at ih
      rw [if_pos (by omega)]
      omega
    · rw [if_neg e] at h1
      by_cases e1 : j < n
      · rw [if_pos e1] at ih
        rw [if_pos (by omega)]
        omega
      · rw [if_neg e1] at ih
        rw [if_neg (by omega)]
        omega
theorem minA_C {h : Sp} {q : Qp} (ho : SpOk h) (j : Nat) : qC (minA h q) j ≤ qC q j + 18 := by
  have h1 := minAF_C (h := h) (q := q) (j := j) ho (hN h) (Nat.le_refl _)
  have h2 : (if j < hN h then 18 else 0) ≤ 18 := by split <;> omega
  exact Nat.le_trans h1 (Nat.add_le_add_left h2 _)
theorem minsF_C {h : Sp} {q : Qp} (ho : SpOk h) (j : Nat) : ∀ n, qC (fo q (fun q _ => minA h q) n) j ≤ qC q j + 18 * n
  | 0 => Nat.le_add_right _ _
  | n + 1 => by
    have ih := minsF_C (h := h) (q := q) ho j n
    have h1 := minA_C (h := h) (q := fo q (fun q _ => minA h q) n) ho j
    rw [fo_s]
    omega
theorem mins_C {h : Sp} {q : Qp} (ho : SpOk h) (n j : Nat) : qC (mins h q n) j ≤ qC q j + 18 * n := minsF_C ho j n
theorem wipeP_C {h : Sp} {q : Qp} {b p : Nat} (ho : SpOk h) (j : Nat) : qC (wipeP h q b p) j ≤ qC q j + 18 * hWipe h := mins_C ho (hWipe h) j
theorem wringP_C {h : Sp} {q : Qp} {t : Nat} (ho : SpOk h) (j : Nat) : qC (wringP h q t) j ≤ qC q j + 18 * hWring h := mins_C ho (hWring h) j
theorem hangP_C {h : Sp} {q : Qp} {t : Nat} (ho : SpOk h) (j : Nat) : ∀ n, qC (hangP h q t n) j ≤ qC q j + 18 * n
  | 0 => Nat.le_add_right _ _
  | n + 1 => by
    have ih := hangP_C (h := h) (q := q) (t := t) ho j n
    have h1 : qC (hangP h q t (n + 1)) j ≤ qC (shineP h (hangP h q t n) t) j + 18 * 1 := mins_C (q := shineP h (hangP h q t n) t) ho 1 j
    have h2 : qC (shineP h (hangP h q t n) t) j = qC (hangP h q t n) j := rfl
    omega
theorem shakeP_C {h : Sp} {q : Qp} {b : Nat} : qC (shakeP h q b) = qC q := by
  unfold shakeP
  split <;> rfl
theorem wk_C {h : Sp} {q : Qp} {o : Nat → Nat} (ho : SpOk h) (j : Nat) : ∀ k, qC (wk h q o k) j ≤ qC q j + 162 * k
  | 0 => Nat.le_add_right _ _
  | k + 1 => by
    have ih := wk_C (h := h) (q := q) (o := o) ho j k
    have h1 : qC (wk h q o (k + 1)) j ≤ qC (wk h q o k) j + 18 * hWipe h := wipeP_C (q := wk h q o k) ho j
    have h2 := ho.2.2.2.2.1
    omega
theorem sumC_le {q : Qp} {B : Nat} : ∀ n, (∀ j, j < n → qC q j ≤ B) → sumC q n ≤ B * n
  | 0, _ => Nat.zero_le _
  | n + 1, H => by
    have ih := sumC_le (q := q) (B := B) n (fun j hj => H j (by omega))
    have h1 := H n (by omega)
    have es : sumC q (n + 1) = sumC q n + qC q n := rfl
    rw [es, Nat.mul_succ]
    omega
theorem ordOk {h : Sp} {q : Qp} (ho : SpOk h) (hc : ∀ b, b < hN h → qC q b ≤ 100000000) : OrdOk h q := fun i => by
  have h1 : sumC (endO h q i) (hN h) ≤ 100000972 * hN h := sumC_le (hN h) (fun j hj => by
    have h2 : qC (endO h q i) j ≤ qC q j + 162 * hN h := wk_C ho j (hN h)
    have h3 := hc j hj
    have h4 := ho.1
    omega)
  have h4 := ho.1
  show sumC (endO h q i) (hN h) < 1000000000
  omega
theorem GhOk.ord {k : Nat} {g : Gh} (H : GhOk k (some g)) (hk : k ≤ 512) (ho : SpOk (gH g)) : OrdOk (gH g) (gQ g) ∧ qM (gQ g) < 2 ^ 29 := by
  obtain ⟨sh, r, q, c, U, mk, M⟩ := g
  obtain ⟨⟨h1, h2⟩, -, -⟩ := H
  exact ⟨ordOk ho (fun b hb => by have := h2 b hb; show qC q b ≤ 100000000; omega), by show qM q < 2 ^ 29; omega⟩
theorem QmOk.act {k : Nat} {h : Sp} {q q' : Qp} (H : QmOk k h q) (hM : qM q' ≤ qM q + 99) (hC : ∀ b, b < hN h → qC q' b ≤ qC q b + 1782) : QmOk (k + 1) h q' :=
  ⟨by have := H.1; omega, fun b hb => by have := H.2 b hb; have := hC b hb; omega⟩
/-- what learning may change -/
def LF (x : Nat) (I I1 : Im) : Prop := ∀ c, ¬ (x + 175 ≤ c ∧ c ≤ x + 178) → ¬ (x + 258 ≤ c ∧ c ≤ x + 338) → I1 c = I c
theorem LF.rf {x : Nat} {I : Im} : LF x I I := fun _ _ _ => rfl
theorem CFr.lf {x : Nat} {I I1 : Im} {tr : Int32} (h : LF x I I1) : CFr x I (s2 I1 x 11 tr) tr := ⟨fun c a b d => by rw [s2_ne a]; exact h c b d, fun j a => by rw [s2_o a, h x (by omega) (by omega)], s2_s⟩
def ChP (I : Im) (e : Nat) (h : Sp) (q : Qp) : Prop := ∃ k0 k1 k2 : Bool, I e 0 = bI k0 ∧ I e 1 = bI k1 ∧ I e 2 = bI k2 ∧ (k0 = true → ChO I e h q) ∧ (k1 = true → ShK I e h q) ∧ (k2 = true → WrK I e h q)
def NxP (I : Im) (y : Nat) (h : Sp) (q : Qp) : Prop := ∀ n, n ≤ 3 → ∃ b : Bool, I (y + 1) n = bI b ∧ (b = true → NkV I y n h q)
def FiP (I : Im) (f : Nat) (h : Sp) (sn : Nat → Option Nat) (q : Qp) : Prop := ∃ b : Bool, I f 0 = bI b ∧ (b = true → FiK I f h sn q)
theorem ChP.fr {I I' : Im} {e : Nat} {h : Sp} {q : Qp} (H : ChP I e h q) (hf : ∀ c, e ≤ c → c ≤ e + 12 → I' c = I c) : ChP I' e h q := by
  obtain ⟨k0, k1, k2, a0, a1, a2, b0, b1, b2⟩ := H
  have e0 : I' e = I e := hf e (by omega) (by omega)
  refine ⟨k0, k1, k2, by rw [e0]; exact a0, by rw [e0]; exact a1, by rw [e0]; exact a2, fun k => ?_, fun k => ?_, fun k => ?_⟩
  · have := b0 k
    unfold ChO BoV at this ⊢
    rw [e0, hf (e + 1) (by omega) (by omega), hf (e + 2) (by omega) (by omega)]
    exact this
  · have := b1 k
    unfold ShK at this ⊢
    rw [e0, hf (e + 3) (by omega) (by omega)]
    exact this
  · have := b2 k
    unfold WrK at this ⊢
    rw [e0]
    exact this
theorem NxP.fr {I I' : Im} {y : Nat} {h : Sp} {q : Qp} (H : NxP I y h q) (hf : ∀ c, y ≤ c → c ≤ y + 22 → I' c = I c) : NxP I' y h q := fun n hn => by
  obtain ⟨b, c1, c2⟩ := H n hn
  refine ⟨b, by rw [hf _ (by omega) (by omega)]; exact c1, fun k => ?_⟩
  obtain ⟨T0, B0, B⟩ := c2 k
  exact ⟨T0, B0, B.fr (fun c hc => hf c (by unfold inOf at hc; omega) (by unfold inOf at hc; omega))⟩
theorem FiP.fr {I I' : Im} {f : Nat} {h : Sp} {sn : Nat → Option Nat} {q : Qp} (H : FiP I f h sn q) (hP6 : hP h ≤ 6) (hf : ∀ c, f ≤ c → c ≤ f + 13 → I' c = I c) : FiP I' f h sn q := by
  obtain ⟨b, a, k⟩ := H
  have e0 : I' f = I f := hf f (by omega) (by omega)
  refine ⟨b, by rw [e0]; exact a, fun z => ?_⟩
  obtain ⟨c1, c2, c3⟩ := k z
  exact ⟨c1.fr hP6 (by rw [e0]) (fun c a b => hf c (by omega) (by omega)), by rw [e0]; exact c2, by rw [e0]; exact c3⟩
theorem ClW.pos {G : Gm} {I : Im} {x s : Nat} {g : Gh} (h : ClW G I x s (some g)) : 0 < hN (gH g) ∧ 0 < hP (gH g) ∧ SpOk (gH g) ∧ QpOk (gH g) (gQ g) := by
  have K := h.ct
  obtain ⟨sh, r, q, c, U, mk, M⟩ := g
  obtain ⟨⟨v1, ⟨e0, v2⟩, ⟨v3, v4⟩, -⟩, -⟩ := h
  exact ⟨v4, v2.2.2.2.2.2.2.2.2.2.1 v3, K.2.2.2.2.1, K.2.2.2.2.2.2⟩
theorem ClW.pts {G : Gm} {I : Im} {x s : Nat} {g : Gh} (h : ClW G I x s (some g)) : ChP I (x + 289) (gH g) (gQ g) ∧ NxP I (x + 302) (gH g) (gQ g) ∧ FiP I (x + 325) (gH g) (rSn (gRS g)) (q0R (gRS g)) := by
  obtain ⟨sh, r, q, c, U, mk, M⟩ := g
  obtain ⟨-, -, -, h4, h5, h6⟩ := h
  exact ⟨h4, h5, h6⟩
theorem ClW.lf {G : Gm} {I I1 : Im} {x s u : Nat} {g : Gh} (hT : Tp G x s u) (h : ClW G I x s (some g)) (hf : LF x I I1) (h4 : ChP I1 (x + 289) (gH g) (gQ g)) (h5 : NxP I1 (x + 302) (gH g) (gQ g)) (h6 : FiP I1 (x + 325) (gH g) (rSn (gRS g)) (q0R (gRS g))) : ClW G I1 x s (some g) := by
  have hd := hT.2.2.2.2.1
  obtain ⟨sh, r, q, c, U, mk, M⟩ := g
  obtain ⟨h1, h2, h3, -, -, -⟩ := h
  exact ⟨h1.fr (fun c a b => hf c (by omega) (by omega)), h2.fr (fun c hc => hf c (by unfold inSc at hc; omega) (by unfold inSc at hc; omega)), h3.fr (fun c hc => hf c (by unfold inHy at hc; omega) (by unfold inHy at hc; omega)), h4, h5, h6⟩
theorem c_learnOrders {d x s u : Nat} {g : Gh} {G : Gm} {I : Im} (hT : Tp G x s u) (h : ClW G I x s (some g)) (hok : OrdOk (gH g) (gQ g)) :
    ∃ I1, run (d + 4) mX1_learnOrders [.ref (x + 289), .ref s, .ref (x + 171), .ref (x + 258)] G I = some (none, G, I1) ∧ ClW G I1 x s (some g) ∧ LF x I I1 ∧ ChO I1 (x + 289) (gH g) (gQ g) := by
  obtain ⟨hT0, hTL, ⟨hS, hPl⟩, -, hd, hA, hB, hH, hW, hC, hX, hF⟩ := id hT
  obtain ⟨hN0, hP0, ho, hqo⟩ := h.pos
  obtain ⟨⟨k0, k1, k2, a0, a1, a2, b0, b1, b2⟩, h5, h6⟩ := h.pts
  have K := h.ct
  cases k0 with
  | true => exact ⟨I, rn_learnOrders0 (d := d + 4) hC (by rw [a0]; rfl), h, LF.rf, b0 rfl⟩
  | false =>
    have hz : SzV I s (gH g) (rBz (gRS g)) := h.1.2.2.2.2.2.2.1
    obtain ⟨I1, f1, f2, f3, f4, f5⟩ := rn_learnOrders (d := d) hC hW K hz hN0 hP0 hok (by rw [a0]; rfl) (by omega) (by omega) (by omega) (by unfold offW; omega) (by omega)
    have hL : LF x I I1 := fun c h1 h2 => f5 c (by omega)
    refine ⟨I1, f1, h.lf hT hL ⟨true, k1, k2, f2, by rw [f4 1 (by decide) (by decide) (by decide)]; exact a1, by rw [f4 2 (by decide) (by decide) (by decide)]; exact a2, fun _ => f3, fun k => ?_, fun k => ?_⟩ (h5.fr (fun c c1 c2 => f5 c (by omega))) (h6.fr ho.2.1 (fun c c1 c2 => f5 c (by omega))), hL, f3⟩
    · have := b1 k
      unfold ShK at this ⊢
      rw [f4 5 (by decide) (by decide) (by decide), f5 (x + 289 + 3) (by omega)]
      exact this
    · have := b2 k
      unfold WrK at this ⊢
      rw [f4 7 (by decide) (by decide) (by decide), f4 6 (by decide) (by decide) (by decide)]
      exact this
theorem c_learnSharing {d x s u : Nat} {g : Gh} {G : Gm} {I : Im} (hT : Tp G x s u) (h : ClW G I x s (some g)) :
    ∃ I1, run (d + 8) mX1_learnSharing [.ref (x + 289), .ref s, .ref (x + 171)] G I = some (none, G, I1) ∧ ClW G I1 x s (some g) ∧ LF x I I1 ∧ ShK I1 (x + 289) (gH g) (gQ g) := by
  obtain ⟨hT0, hTL, ⟨hS, hPl⟩, -, hd, hA, hB, hH, hW, hC, hX, hF⟩ := id hT
  obtain ⟨hN0, hP0, ho, hqo⟩ := h.pos
  obtain ⟨⟨k0, k1, k2, a0, a1, a2, b0, b1, b2⟩, h5, h6⟩ := h.pts
  have K := h.ct
  cases k1 with
  | true => exact ⟨I, rn_learnSharing0 (d := d + 8) hC (by rw [a1]; rfl), h, LF.rf, b1 rfl⟩
  | false =>
    have hA : AW I s (gH g) := h.1.2.2.2.2.2.2.2.2.2.2.2.1
    obtain ⟨I1, f1, f2, f3, f4, f5⟩ := rn_learnSharing (d := d) hC K hA (by rw [a1]; rfl) (by omega) (by omega)
    have hL : LF x I I1 := fun c h1 h2 => f5 c (by omega)
    refine ⟨I1, f1, h.lf hT hL ⟨k0, true, k2, by rw [f4 0 (by decide) (by decide)]; exact a0, f2, by rw [f4 2 (by decide) (by decide)]; exact a2, fun k => ?_, fun _ => f3, fun k => ?_⟩ (h5.fr (fun c c1 c2 => f5 c (by omega))) (h6.fr ho.2.1 (fun c c1 c2 => f5 c (by omega))), hL, f3⟩
    · have := b0 k
      unfold ChO BoV at this ⊢
      rw [f4 3 (by decide) (by decide), f4 4 (by decide) (by decide), f5 (x + 289 + 1) (by omega), f5 (x + 289 + 2) (by omega)]
      exact this
    · have := b2 k
      unfold WrK at this ⊢
      rw [f4 7 (by decide) (by decide), f4 6 (by decide) (by decide)]
      exact this
theorem c_learnWringing {d x s u : Nat} {g : Gh} {G : Gm} {I : Im} (hT : Tp G x s u) (h : ClW G I x s (some g)) :
    ∃ I1, run (d + 4) mX1_learnWringing [.ref (x + 289), .ref s, .ref (x + 171), .ref (x + 175)] G I = some (none, G, I1) ∧ ClW G I1 x s (some g) ∧ LF x I I1 ∧ WrK I1 (x + 289) (gH g) (gQ g) := by
  obtain ⟨hT0, hTL, ⟨hS, hPl⟩, -, hd, hA, hB, hH, hW, hC, hX, hF⟩ := id hT
  obtain ⟨hN0, hP0, ho, hqo⟩ := h.pos
  obtain ⟨⟨k0, k1, k2, a0, a1, a2, b0, b1, b2⟩, h5, h6⟩ := h.pts
  have K := h.ct
  cases k2 with
  | true => exact ⟨I, rn_learnWringing0 (d := d + 4) hC (by rw [a2]; rfl), h, LF.rf, b2 rfl⟩
  | false =>
    obtain ⟨I1, f1, f2, f3, f4, f5⟩ := rn_learnWringing (d := d) hC K hB (by unfold offS; omega) (by unfold offSc; omega) hP0 (by rw [a2]; rfl) (by omega) (by omega) (by omega)
    have hL : LF x I I1 := fun c h1 h2 => f5 c (by unfold inSc; omega)
    refine ⟨I1, f1, h.lf hT hL ⟨k0, k1, true, by rw [f4 0 (by decide) (by decide) (by decide)]; exact a0, by rw [f4 1 (by decide) (by decide) (by decide)]; exact a1, f2, fun k => ?_, fun k => ?_, fun _ => f3⟩ (h5.fr (fun c c1 c2 => f5 c (by unfold inSc; omega))) (h6.fr ho.2.1 (fun c c1 c2 => f5 c (by unfold inSc; omega))), hL, f3⟩
    · have := b0 k
      unfold ChO BoV at this ⊢
      rw [f4 3 (by decide) (by decide) (by decide), f4 4 (by decide) (by decide) (by decide), f5 (x + 289 + 1) (by unfold inSc; omega), f5 (x + 289 + 2) (by unfold inSc; omega)]
      exact this
    · have := b1 k
      unfold ShK at this ⊢
      rw [f4 5 (by decide) (by decide) (by decide), f5 (x + 289 + 3) (by unfold inSc; omega)]
      exact this
theorem c_nxLearn {d x s u n : Nat} {g : Gh} {G : Gm} {I : Im} (hT : Tp G x s u) (h : ClW G I x s (some g)) (hn0 : 0 < n) (hn : n ≤ 3) (hM : qM (gQ g) < 2 ^ 29) :
    ∃ I1, run (d + 6) mX4_learn [.ref (x + 302), .ref s, .ref (x + 171), .int (nI n)] G I = some (none, G, I1) ∧ ClW G I1 x s (some g) ∧ LF x I I1 ∧ NkV I1 (x + 302) n (gH g) (gQ g) := by
  obtain ⟨hT0, hTL, ⟨hS, hPl⟩, -, hd, hA, hB, hH, hW, hC, hX, hF⟩ := id hT
  obtain ⟨hN0, hP0, ho, hqo⟩ := h.pos
  obtain ⟨h4, h5, h6⟩ := h.pts
  have K := h.ct
  obtain ⟨b, a0, b0⟩ := h5 n hn
  cases b with
  | true => exact ⟨I, rn_nxLearn0 (d := d + 6) hX hn (by rw [a0]; rfl), h, LF.rf, b0 rfl⟩
  | false =>
    have hA : AW I s (gH g) := h.1.2.2.2.2.2.2.2.2.2.2.2.1
    obtain ⟨I1, f1, f2, f3, f4, f5, f6⟩ := rn_nxLearn (d := d) hX (by omega) (by omega) hn0 hn K hA hM (by rw [a0]; rfl)
    have hL : LF x I I1 := fun c h1 h2 => f4 c (by omega)
    refine ⟨I1, f1, h.lf hT hL (h4.fr (fun c c1 c2 => f4 c (by omega))) (fun i hi => ?_) (h6.fr ho.2.1 (fun c c1 c2 => f4 c (by omega))), hL, f3⟩
    by_cases e : i = n
    · subst e
      exact ⟨true, f2, fun _ => f3⟩
    · obtain ⟨b2, a2, c2⟩ := h5 i hi
      refine ⟨b2, by rw [f5 _ _ e (Or.inl rfl)]; exact a2, fun k => ?_⟩
      obtain ⟨T0, B0, q1, q2, q3, q4⟩ := c2 k
      exact ⟨T0, B0, by rw [f5 _ _ e (Or.inr (Or.inl rfl))]; exact q1, by rw [f5 _ _ e (Or.inr (Or.inr rfl))]; exact q2, fun j hj => by rw [f6 i (by omega) e]; exact q3 j hj, q4⟩
theorem c_fiLearn {d x s u : Nat} {g : Gh} {G : Gm} {I : Im} (hT : Tp G x s u) (h : ClW G I x s (some g)) :
    ∃ I1, run (d + 4) mX2_learn [.ref (x + 325), .ref s, .ref (x + 258)] G I = some (none, G, I1) ∧ ClW G I1 x s (some g) ∧ LF x I I1 ∧ FiK I1 (x + 325) (gH g) (rSn (gRS g)) (q0R (gRS g)) := by
  obtain ⟨hT0, hTL, ⟨hS, hPl⟩, -, hd, hA, hB, hH, hW, hC, hX, hF⟩ := id hT
  obtain ⟨hN0, hP0, ho, hqo⟩ := h.pos
  obtain ⟨h4, h5, b, a0, b0⟩ := h.pts
  have K := h.ct
  cases b with
  | true => exact ⟨I, rn_fiLearn0 (d := d + 4) hF (by rw [a0]; rfl), h, LF.rf, b0 rfl⟩
  | false =>
    have hg : BgV I s (gH g) (q0R (gRS g)) := h.1.2.2.2.2.2.1
    have hz : SzV I s (gH g) (rBz (gRS g)) := h.1.2.2.2.2.2.2.1
    have hS2 : SeV I s (gH g) (rSn (gRS g)) := h.1.2.2.2.2.2.2.2.2.1
    have P : PF G I s (gH g) (q0R (gRS g)) (rSt (gRS g)) (rF (gRS g)) := h.1.2.2.2.2.2.2.2.2.2.1
    have hq0 : QpOk (gH g) (q0R (gRS g)) := (P.2.2 0 (Nat.zero_le _)).2.2.2.2.2.2
    obtain ⟨I1, f1, f2, f3, f4⟩ := rn_fiLearn (d := d) hF hW hS K.2.2.2.1 ho hg hq0 hz hS2 hN0 hP0 (by rw [a0]; rfl) (by omega) (by unfold offW; omega) (by omega)
    have hL : LF x I I1 := fun c h1 h2 => f4 c (by unfold inFi; omega)
    exact ⟨I1, f1, h.lf hT hL (h4.fr (fun c c1 c2 => f4 c (by unfold inFi; omega))) (h5.fr (fun c c1 c2 => f4 c (by unfold inFi; omega))) ⟨true, f2, fun _ => f3⟩, hL, f3⟩
theorem MoW.all {G : Gm} {I : Im} {m : Nat} {g : Gh} (h : MoW G I m (some g)) : ∃ S, gR G m 3 = some S ∧ m + 12 < S ∧ S + 20 ≤ gN G ∧ (gRS g).1 = some g.1 ∧ MT G I m S 0 (gH g) (gQ g) ∧ (MgV I S (gH g) (q0R (gRS g)) ∧ QpOk (gH g) (q0R (gRS g))) ∧ MzV I S (gH g) (rBz (gRS g)) ∧ MvV I S (gH g) (rSn (gRS g)) ∧ MpV I S (gH g) (rSt (gRS g)) (rF (gRS g)) ∧ (∀ b, b < rN (gRS g) → I (S + 11) b = encO (rHm (gRS g) b)) ∧ I S 10 = nI (rSc (gRS g)) ∧ MhV I m (gH g) g.2.2.2.1 g.2.2.2.2.1 g.2.2.2.2.2.1 g.2.2.2.2.2.2 := h
