/-! minutes told; who is late -/
theorem fo_q {α β : Type} {f : α → Nat → α} {g : α → β} {a0 : α} (h : ∀ a k, g (f a k) = g a) : ∀ n, g (fo a0 f n) = g a0
  | 0 => rfl
  | n + 1 => by rw [fo_s, h, fo_q h n]
theorem minB_M {h : Sp} {q : Qp} {b : Nat} : qM (minB h q b) = qM q := rfl
theorem minA_M {h : Sp} {q : Qp} : qM (minA h q) = qM q := fo_q (g := qM) (fun a k => minB_M) _
theorem mins_M {h : Sp} {q : Qp} {n : Nat} : qM (mins h q n) = qM q + n := by
  show qM (fo q (fun q _ => minA h q) n) + n = qM q + n
  rw [fo_q (g := qM) (fun a k => minA_M)]
theorem wipeP_M {h : Sp} {q : Qp} {b p : Nat} : qM (wipeP h q b p) = qM q + hWipe h := mins_M
theorem wringP_M {h : Sp} {q : Qp} {t : Nat} : qM (wringP h q t) = qM q + hWring h := mins_M
theorem hangP_M {h : Sp} {q : Qp} {t n : Nat} : qM (hangP h q t n) = qM q + n := by
  induction n with
  | zero => rfl
  | succ n ih =>
    show qM (mins h (shineP h (hangP h q t n) t) 1) = _
    rw [mins_M]
    show qM (hangP h q t n) + 1 = _
    omega
theorem shakeP_M {h : Sp} {q : Qp} {b : Nat} : qM (shakeP h q b) = qM q := by unfold shakeP; split <;> rfl
theorem doP_M {h : Sp} {q : Qp} {x : Pst} (ho : SpOk h) (hx : StOk h x) : qM (doP h q x) ≤ qM q + 60 := by
  have h1 := ho.2.2.2.2.1
  have h2 := ho.2.2.2.2.2.2.1
  unfold doP
  split
  · rw [wipeP_M]; omega
  · split
    · rw [wringP_M]; omega
    · split
      · rw [hangP_M]; have := hx.2.2.2.2 ‹_›; omega
      · rw [shakeP_M]; omega
theorem atK_M {h : Sp} {q : Qp} {F : Nat → Pst} (ho : SpOk h) : ∀ k, (∀ i, i < k → StOk h (F i)) → qM (atK h q F k) ≤ qM q + 60 * k
  | 0, _ => Nat.le_refl _
  | k + 1, hx => by
    have h1 := atK_M ho k (fun i hi => hx i (by omega)) (q := q)
    have h2 := doP_M (q := atK h q F k) ho (hx k (by omega))
    show qM (doP h (atK h q F k) (F k)) ≤ _
    omega
theorem atK_ok {h : Sp} {q : Qp} {F : Nat → Pst} (ho : SpOk h) (hq : QpOk h q) : ∀ k, (∀ i, i < k → StOk h (F i)) → QpOk h (atK h q F k)
  | 0, _ => hq
  | k + 1, hx => doP_ok ho (atK_ok ho hq k (fun i hi => hx i (by omega))) (hx k (by omega))
/-- who must be home by when -/
def HmV (I : Im) (s : Nat) (h : Sp) (hm : Nat → Option Nat) : Prop := ∀ b, b < hN h → I (s + 8 + 5) b = encO (hm b) ∧ ∀ k, hm b = some k → k ≤ 240
def inTime (h : Sp) (q : Qp) (F : Nat → Pst) (n b m : Nat) : Bool := match firstU (dryK h q F b) (n + 1) with
  | none => false
  | some k => decide (qM (atK h q F k) ≤ m)
theorem rn_isInTime {d s b n m : Nat} {h : Sp} {F : Nat → Pst} {q : Qp} {hm : Nat → Option Nat} {G : Gm} {I : Im} (P : PF G I s h q n F) (hh : HmV I s h hm) (hq0 : qM q = 0) (hb : b < hN h) (hmb : hm b = some m) : run (d + 2) mX5_isInTime [.ref (s + 15), .ref s, .int (nI b)] G I = some (some (.int (bI (inTime h q F n b m))), G, I) := by
  have hfd := rn_firstDry (d := d) P hb
  obtain ⟨hp, hv, hK⟩ := P
  have hn := hv.1
  have p1 := hp.1
  have p6 := hp.2.2.2.2.2.1
  have t6 := hp.2.2.2.2.2.2.2.2.2.2.1
  have hrow := hp.2.2.2.2.2.2.2.2.2.2.2
  have hs := (hK 0 (by omega)).2.1
  have ho := (hK 0 (by omega)).2.2.2.2.1
  have hN6 := ho.1
  have hs_1 := hs.1; have hs_2 := hs.2.1; have hs_3 := hs.2.2.1; have hs_4 := hs.2.2.2.1; have hs_5 := hs.2.2.2.2.1; have hs_6 := hs.2.2.2.2.2.1; have hs_7 := (hs.2.2.2.2.2.2.1).1; have hs_8 := (hs.2.2.2.2.2.2.1).2.1; have hs_9 := (hs.2.2.2.2.2.2.1).2.2.1; have hs_10 := (hs.2.2.2.2.2.2.1).2.2.2.1; have hs_11 := (hs.2.2.2.2.2.2.1).2.2.2.2.1; have hs_12 := (hs.2.2.2.2.2.2.1).2.2.2.2.2.1; have hs_13 := (hs.2.2.2.2.2.2.1).2.2.2.2.2.2.1; have hs_14 := (hs.2.2.2.2.2.2.1).2.2.2.2.2.2.2.1; have hs_15 := (hs.2.2.2.2.2.2.1).2.2.2.2.2.2.2.2.1; have hs_16 := (hs.2.2.2.2.2.2.1).2.2.2.2.2.2.2.2.2.1; have hs_17 := (hs.2.2.2.2.2.2.1).2.2.2.2.2.2.2.2.2.2.1; have hs_18 := (hs.2.2.2.2.2.2.1).2.2.2.2.2.2.2.2.2.2.2.1; have hs_19 := (hs.2.2.2.2.2.2.1).2.2.2.2.2.2.2.2.2.2.2.2; have hs_20 := (hs.2.2.2.2.2.2.2.1).1; have hs_21 := (hs.2.2.2.2.2.2.2.1).2.1; have hs_22 := (hs.2.2.2.2.2.2.2.1).2.2.1; have hs_23 := (hs.2.2.2.2.2.2.2.1).2.2.2.1; have hs_24 := (hs.2.2.2.2.2.2.2.1).2.2.2.2.1; have hs_25 := (hs.2.2.2.2.2.2.2.1).2.2.2.2.2.1; have hs_26 := (hs.2.2.2.2.2.2.2.1).2.2.2.2.2.2.1; have hs_27 := (hs.2.2.2.2.2.2.2.1).2.2.2.2.2.2.2.1; have hs_28 := (hs.2.2.2.2.2.2.2.1).2.2.2.2.2.2.2.2.1; have hs_29 := (hs.2.2.2.2.2.2.2.1).2.2.2.2.2.2.2.2.2.1; have hs_30 := (hs.2.2.2.2.2.2.2.1).2.2.2.2.2.2.2.2.2.2.1; have hs_31 := (hs.2.2.2.2.2.2.2.1).2.2.2.2.2.2.2.2.2.2.2.1; have hs_32 := (hs.2.2.2.2.2.2.2.1).2.2.2.2.2.2.2.2.2.2.2.2; have hs_33 := hs.2.2.2.2.2.2.2.2.1; have hs_34 := hs.2.2.2.2.2.2.2.2.2.2
  obtain ⟨eh, hm240⟩ := hh b hb
  rw [hmb] at eh
  have eh' : I (s + 8 + 5) b = nI m := eh
  have hm2 := hm240 m hmb
  unfold inTime
  cases hU : firstU (dryK h q F b) (n + 1) with
  | none =>
    rw [hU] at hfd
    have hfd' : run (d + 1) mX5_firstDry [.ref (s + 15), .ref s, .int (nI b)] G I = some (some (.int (-2)), G, I) := hfd
    simp (disch := first | assumption | (simp (disch := omega) only [cK_some, ofR_some, ofR_none, Option.toList_some, Option.toList_none, List.cons_append, List.nil_append, isL_i, isL_r, isL_u, isL_2, cs_0, cs_i, cs_r, cs_l, cs_ii, cs_ir, cs_ri, cs_rr, cs_iir, cs_irr, hs_1, hs_2, hs_3, hs_4, hs_5, hs_6, hs_7, hs_8, hs_9, hs_10, hs_11, hs_12, hs_13, hs_14, hs_15, hs_16, hs_17, hs_18, hs_19, hs_20, hs_21, hs_22, hs_23, hs_24, hs_25, hs_26, hs_27, hs_28, hs_29, hs_30, hs_31, hs_32, hs_33, hs_34, p1, inb_n, bq4, bq5, n100, not_false_eq_true, isB_0, isB_1, nI_clamp, nI_nneg, Nat.zero_add, Nat.le_refl]; done) | omega) only [xX5_isInTime_0, xX5_isInTime_1, xX5_isInTime_2, xX5_isInTime_3, xX5_isInTime_6, xX5_isInTime_7, xX5_isInTime_8, xX5_isInTime_10, xX5_isInTime_13, xX5_isInTime_14, xX5_isInTime_17, xX5_isInTime_18, xX5_isInTime_19, xX5_isInTime_22, xX5_isInTime_23, xX5_isInTime_26, xX5_isInTime_29, xX5_isInTime_30, xX5_isInTime_31, xX5_isInTime_34, xX5_isInTime_35, xX5_isInTime_38, xX5_isInTime_39, cK_some, ofR_some, ofR_none, Option.toList_some, Option.toList_none, List.cons_append, List.nil_append, isL_i, isL_r, isL_u, isL_2, cs_0, cs_i, cs_r, cs_l, cs_ii, cs_ir, cs_ri, cs_rr, cs_iir, cs_irr, hs_1, hs_2, hs_3, hs_4, hs_5, hs_6, hs_7, hs_8, hs_9, hs_10, hs_11, hs_12, hs_13, hs_14, hs_15, hs_16, hs_17, hs_18, hs_19, hs_20, hs_21, hs_22, hs_23, hs_24, hs_25, hs_26, hs_27, hs_28, hs_29, hs_30, hs_31, hs_32, hs_33, hs_34, rX5_isInTime, hfd', bI, Bool.false_eq_true, nI_lt, nI_nlt, nI_le, nI_ge, nI_pos, pk_sub, nI_clamp, s2_ne, s2_o, s2_s, nI_add, inb_n, nI_nn, zq0, zq1, ↓reduceIte]
  | some k =>
    rw [hU] at hfd
    have hk := firstU_lt hU
    have hfd' : run (d + 1) mX5_firstDry [.ref (s + 15), .ref s, .int (nI b)] G I = some (some (.int (nI k)), G, I) := hfd
    have nk := nI_nm2 (k := k) (by omega)
    obtain ⟨r1, sc⟩ := hrow k (by omega)
    have s1 := sc.1
    have eM := (hK k (by omega)).2.2.2.2.2.1.2.2.2.1
    have hM := atK_M (q := q) ho k (fun i hi => (hv.2.2 i (by omega)).1)
    have hle := nI_leI (a := qM (atK h q F k)) (b := m) (by omega) (by omega)
    by_cases c : qM (atK h q F k) ≤ m
    · simp (disch := first | assumption | (simp (disch := omega) only [cK_some, ofR_some, ofR_none, Option.toList_some, Option.toList_none, List.cons_append, List.nil_append, isL_i, isL_r, isL_u, isL_2, cs_0, cs_i, cs_r, cs_l, cs_ii, cs_ir, cs_ri, cs_rr, cs_iir, cs_irr, hs_1, hs_2, hs_3, hs_4, hs_5, hs_6, hs_7, hs_8, hs_9, hs_10, hs_11, hs_12, hs_13, hs_14, hs_15, hs_16, hs_17, hs_18, hs_19, hs_20, hs_21, hs_22, hs_23, hs_24, hs_25, hs_26, hs_27, hs_28, hs_29, hs_30, hs_31, hs_32, hs_33, hs_34, p1, t6, s1, inb_n, bq4, bq5, n100, not_false_eq_true, isB_0, isB_1, nI_clamp, nI_nneg, Nat.zero_add, Nat.le_refl]; done) | omega) only [xX5_isInTime_0, xX5_isInTime_1, xX5_isInTime_2, xX5_isInTime_3, xX5_isInTime_6, xX5_isInTime_7, xX5_isInTime_8, xX5_isInTime_10, xX5_isInTime_13, xX5_isInTime_14, xX5_isInTime_17, xX5_isInTime_18, xX5_isInTime_19, xX5_isInTime_22, xX5_isInTime_23, xX5_isInTime_26, xX5_isInTime_29, xX5_isInTime_30, xX5_isInTime_31, xX5_isInTime_34, xX5_isInTime_35, xX5_isInTime_38, xX5_isInTime_39, cK_some, ofR_some, ofR_none, Option.toList_some, Option.toList_none, List.cons_append, List.nil_append, isL_i, isL_r, isL_u, isL_2, cs_0, cs_i, cs_r, cs_l, cs_ii, cs_ir, cs_ri, cs_rr, cs_iir, cs_irr, hs_1, hs_2, hs_3, hs_4, hs_5, hs_6, hs_7, hs_8, hs_9, hs_10, hs_11, hs_12, hs_13, hs_14, hs_15, hs_16, hs_17, hs_18, hs_19, hs_20, hs_21, hs_22, hs_23, hs_24, hs_25, hs_26, hs_27, hs_28, hs_29, hs_30, hs_31, hs_32, hs_33, hs_34, rX5_isInTime, hfd', nk, p6, r1, eM, eh', hle, c, bI, decide_true, nI_lt, nI_nlt, nI_le, nI_ge, nI_pos, pk_sub, nI_clamp, s2_ne, s2_o, s2_s, nI_add, inb_n, nI_nn, zq0, zq1, ↓reduceIte]
    · simp (disch := first | assumption | (simp (disch := omega) only [cK_some, ofR_some, ofR_none, Option.toList_some, Option.toList_none, List.cons_append, List.nil_append, isL_i, isL_r, isL_u, isL_2, cs_0, cs_i, cs_r, cs_l, cs_ii, cs_ir, cs_ri, cs_rr, cs_iir, cs_irr, hs_1, hs_2, hs_3, hs_4, hs_5, hs_6, hs_7, hs_8, hs_9, hs_10, hs_11, hs_12, hs_13, hs_14, hs_15, hs_16, hs_17, hs_18, hs_19, hs_20, hs_21, hs_22, hs_23, hs_24, hs_25, hs_26, hs_27, hs_28, hs_29, hs_30, hs_31, hs_32, hs_33, hs_34, p1, t6, s1, inb_n, bq4, bq5, n100, not_false_eq_true, isB_0, isB_1, nI_clamp, nI_nneg, Nat.zero_add, Nat.le_refl]; done) | omega) only [xX5_isInTime_0, xX5_isInTime_1, xX5_isInTime_2, xX5_isInTime_3, xX5_isInTime_6, xX5_isInTime_7, xX5_isInTime_8, xX5_isInTime_10, xX5_isInTime_13, xX5_isInTime_14, xX5_isInTime_17, xX5_isInTime_18, xX5_isInTime_19, xX5_isInTime_22, xX5_isInTime_23, xX5_isInTime_26, xX5_isInTime_29, xX5_isInTime_30, xX5_isInTime_31, xX5_isInTime_34, xX5_isInTime_35, xX5_isInTime_38, xX5_isInTime_39, cK_some, ofR_some, ofR_none, Option.toList_some, Option.toList_none, List.cons_append, List.nil_append, isL_i, isL_r, isL_u, isL_2, cs_0, cs_i, cs_r, cs_l, cs_ii, cs_ir, cs_ri, cs_rr, cs_iir, cs_irr, hs_1, hs_2, hs_3, hs_4, hs_5, hs_6, hs_7, hs_8, hs_9, hs_10, hs_11, hs_12, hs_13, hs_14, hs_15, hs_16, hs_17, hs_18, hs_19, hs_20, hs_21, hs_22, hs_23, hs_24, hs_25, hs_26, hs_27, hs_28, hs_29, hs_30, hs_31, hs_32, hs_33, hs_34, rX5_isInTime, hfd', nk, p6, r1, eM, eh', hle, c, bI, decide_false, Bool.false_eq_true, nI_lt, nI_nlt, nI_le, nI_ge, nI_pos, pk_sub, nI_clamp, s2_ne, s2_o, s2_s, nI_add, inb_n, nI_nn, zq0, zq1, ↓reduceIte]
theorem bor : ∀ S : Fin 64, ∀ b : Fin 6, nI S ||| (nI 1 <<< (nI b &&& 31)) = nI (S ||| 2 ^ (b : Nat)) := fun S b => (shk S b).1
def lateB (h : Sp) (q : Qp) (F : Nat → Pst) (hm : Nat → Option Nat) (n : Nat) (k : Nat) : Nat := fo 0 (fun m b => match hm b with
  | none => m
  | some t => if inTime h q F n b t = true then m else m ||| 2 ^ b) k
theorem lateB_lt {h : Sp} {q : Qp} {F : Nat → Pst} {hm : Nat → Option Nat} {n : Nat} : ∀ k, k ≤ 6 → lateB h q F hm n k < 64
  | 0, _ => by show 0 < 64; omega
  | k + 1, hk => by
    have ih := lateB_lt (h := h) (q := q) (F := F) (hm := hm) (n := n) k (by omega)
    show (match hm k with
      | none => lateB h q F hm n k
      | some t => if inTime h q F n k t = true then lateB h q F hm n k else lateB h q F hm n k ||| 2 ^ k) < 64
    cases hm k with
    | none => exact ih
    | some t =>
      dsimp only
      split
      · exact ih
      · exact (shk ⟨_, ih⟩ ⟨k, by omega⟩).2
theorem rn_lateOnes {d s n : Nat} {h : Sp} {F : Nat → Pst} {q : Qp} {hm : Nat → Option Nat} {G : Gm} {I : Im} (P : PF G I s h q n F) (hh : HmV I s h hm) (hq0 : qM q = 0) : run (d + 3) mX5_lateOnes [.ref (s + 15), .ref s] G I = some (some (.int (nI (lateB h q F hm n (hN h)))), G, I) := by
  have P' := P
  obtain ⟨hp, hv, hK⟩ := P'
  have p1 := hp.1
  have hs := (hK 0 (by omega)).2.1
  have ho := (hK 0 (by omega)).2.2.2.2.1
  have en := (hK 0 (by omega)).2.2.2.1.1.1
  have hN6 := ho.1
  have hs_1 := hs.1; have hs_2 := hs.2.1; have hs_3 := hs.2.2.1; have hs_4 := hs.2.2.2.1; have hs_5 := hs.2.2.2.2.1; have hs_6 := hs.2.2.2.2.2.1; have hs_7 := (hs.2.2.2.2.2.2.1).1; have hs_8 := (hs.2.2.2.2.2.2.1).2.1; have hs_9 := (hs.2.2.2.2.2.2.1).2.2.1; have hs_10 := (hs.2.2.2.2.2.2.1).2.2.2.1; have hs_11 := (hs.2.2.2.2.2.2.1).2.2.2.2.1; have hs_12 := (hs.2.2.2.2.2.2.1).2.2.2.2.2.1; have hs_13 := (hs.2.2.2.2.2.2.1).2.2.2.2.2.2.1; have hs_14 := (hs.2.2.2.2.2.2.1).2.2.2.2.2.2.2.1; have hs_15 := (hs.2.2.2.2.2.2.1).2.2.2.2.2.2.2.2.1; have hs_16 := (hs.2.2.2.2.2.2.1).2.2.2.2.2.2.2.2.2.1; have hs_17 := (hs.2.2.2.2.2.2.1).2.2.2.2.2.2.2.2.2.2.1; have hs_18 := (hs.2.2.2.2.2.2.1).2.2.2.2.2.2.2.2.2.2.2.1; have hs_19 := (hs.2.2.2.2.2.2.1).2.2.2.2.2.2.2.2.2.2.2.2; have hs_20 := (hs.2.2.2.2.2.2.2.1).1; have hs_21 := (hs.2.2.2.2.2.2.2.1).2.1; have hs_22 := (hs.2.2.2.2.2.2.2.1).2.2.1; have hs_23 := (hs.2.2.2.2.2.2.2.1).2.2.2.1; have hs_24 := (hs.2.2.2.2.2.2.2.1).2.2.2.2.1; have hs_25 := (hs.2.2.2.2.2.2.2.1).2.2.2.2.2.1; have hs_26 := (hs.2.2.2.2.2.2.2.1).2.2.2.2.2.2.1; have hs_27 := (hs.2.2.2.2.2.2.2.1).2.2.2.2.2.2.2.1; have hs_28 := (hs.2.2.2.2.2.2.2.1).2.2.2.2.2.2.2.2.1; have hs_29 := (hs.2.2.2.2.2.2.2.1).2.2.2.2.2.2.2.2.2.1; have hs_30 := (hs.2.2.2.2.2.2.2.1).2.2.2.2.2.2.2.2.2.2.1; have hs_31 := (hs.2.2.2.2.2.2.2.1).2.2.2.2.2.2.2.2.2.2.2.1; have hs_32 := (hs.2.2.2.2.2.2.2.1).2.2.2.2.2.2.2.2.2.2.2.2; have hs_33 := hs.2.2.2.2.2.2.2.2.1; have hs_34 := hs.2.2.2.2.2.2.2.2.2.2
  have hch := chain (fun k => ex (d + 3) mX5_lateOnes 4 [.val (.ref (s + 15)), .val (.ref s), .val (.int (nI (lateB h q F hm n k))), .val (.int (nI k))] [] G I) (hN h) (fun k hk => by
    obtain ⟨eh, hm240⟩ := hh k hk
    have es : lateB h q F hm n (k + 1) = (match hm k with
      | none => lateB h q F hm n k
      | some t => if inTime h q F n k t = true then lateB h q F hm n k else lateB h q F hm n k ||| 2 ^ k) := rfl
    try dsimp only
    rw [xX5_lateOnes_4, es]
    cases hmk : hm k with
    | none =>
      rw [hmk] at eh
      have eh' : I (s + 8 + 5) k = -2 := eh
      try dsimp only
      simp (disch := first | assumption | (simp (disch := omega) only [cK_some, ofR_some, ofR_none, Option.toList_some, Option.toList_none, List.cons_append, List.nil_append, isL_i, isL_r, isL_u, isL_2, cs_0, cs_i, cs_r, cs_l, cs_ii, cs_ir, cs_ri, cs_rr, cs_iir, cs_irr, hs_1, hs_2, hs_3, hs_4, hs_5, hs_6, hs_7, hs_8, hs_9, hs_10, hs_11, hs_12, hs_13, hs_14, hs_15, hs_16, hs_17, hs_18, hs_19, hs_20, hs_21, hs_22, hs_23, hs_24, hs_25, hs_26, hs_27, hs_28, hs_29, hs_30, hs_31, hs_32, hs_33, hs_34, p1, inb_n, bq4, bq5, n100, not_false_eq_true, isB_0, isB_1, nI_clamp, nI_nneg, Nat.zero_add, Nat.le_refl]; done) | omega) only [xX5_lateOnes_0, xX5_lateOnes_1, xX5_lateOnes_2, xX5_lateOnes_3, xX5_lateOnes_5, xX5_lateOnes_6, xX5_lateOnes_9, xX5_lateOnes_12, xX5_lateOnes_15, xX5_lateOnes_16, xX5_lateOnes_19, xX5_lateOnes_22, xX5_lateOnes_23, xX5_lateOnes_24, xX5_lateOnes_26, xX5_lateOnes_29, xX5_lateOnes_30, xX5_lateOnes_31, xX5_lateOnes_32, xX5_lateOnes_35, xX5_lateOnes_38, xX5_lateOnes_39, xX5_lateOnes_40, xX5_lateOnes_41, xX5_lateOnes_42, xX5_lateOnes_43, xX5_lateOnes_44, xX5_lateOnes_47, xX5_lateOnes_50, xX5_lateOnes_51, cK_some, ofR_some, ofR_none, Option.toList_some, Option.toList_none, List.cons_append, List.nil_append, isL_i, isL_r, isL_u, isL_2, cs_0, cs_i, cs_r, cs_l, cs_ii, cs_ir, cs_ri, cs_rr, cs_iir, cs_irr, hs_1, hs_2, hs_3, hs_4, hs_5, hs_6, hs_7, hs_8, hs_9, hs_10, hs_11, hs_12, hs_13, hs_14, hs_15, hs_16, hs_17, hs_18, hs_19, hs_20, hs_21, hs_22, hs_23, hs_24, hs_25, hs_26, hs_27, hs_28, hs_29, hs_30, hs_31, hs_32, hs_33, hs_34, en, eh', nI_lt, nI_nlt, nI_le, nI_ge, nI_pos, pk_sub, nI_clamp, s2_ne, s2_o, s2_s, nI_add, inb_n, nI_nn, zq0, zq1, ↓reduceIte]
    | some t =>
      rw [hmk] at eh
      have eh' : I (s + 8 + 5) k = nI t := eh
      have nk := nI_nm2 (k := t) (by have := hm240 t hmk; omega)
      have hit := rn_isInTime (d := d) P hh hq0 hk hmk
      have hbo := bor ⟨_, lateB_lt (h := h) (q := q) (F := F) (hm := hm) (n := n) k (by omega)⟩ ⟨k, by omega⟩
      try dsimp only at hbo
      cases hI : inTime h q F n k t with
      | true =>
        rw [hI] at hit
        have hit' : run (d + 2) mX5_isInTime [.ref (s + 15), .ref s, .int (nI k)] G I = some (some (.int (nI 1)), G, I) := hit
        try dsimp only
        rw [if_pos hI]
        simp (disch := first | assumption | (simp (disch := omega) only [cK_some, ofR_some, ofR_none, Option.toList_some, Option.toList_none, List.cons_append, List.nil_append, isL_i, isL_r, isL_u, isL_2, cs_0, cs_i, cs_r, cs_l, cs_ii, cs_ir, cs_ri, cs_rr, cs_iir, cs_irr, hs_1, hs_2, hs_3, hs_4, hs_5, hs_6, hs_7, hs_8, hs_9, hs_10, hs_11, hs_12, hs_13, hs_14, hs_15, hs_16, hs_17, hs_18, hs_19, hs_20, hs_21, hs_22, hs_23, hs_24, hs_25, hs_26, hs_27, hs_28, hs_29, hs_30, hs_31, hs_32, hs_33, hs_34, p1, inb_n, bq4, bq5, n100, not_false_eq_true, isB_0, isB_1, nI_clamp, nI_nneg, Nat.zero_add, Nat.le_refl]; done) | omega) only [xX5_lateOnes_0, xX5_lateOnes_1, xX5_lateOnes_2, xX5_lateOnes_3, xX5_lateOnes_5, xX5_lateOnes_6, xX5_lateOnes_9, xX5_lateOnes_12, xX5_lateOnes_15, xX5_lateOnes_16, xX5_lateOnes_19, xX5_lateOnes_22, xX5_lateOnes_23, xX5_lateOnes_24, xX5_lateOnes_26, xX5_lateOnes_29, xX5_lateOnes_30, xX5_lateOnes_31, xX5_lateOnes_32, xX5_lateOnes_35, xX5_lateOnes_38, xX5_lateOnes_39, xX5_lateOnes_40, xX5_lateOnes_41, xX5_lateOnes_42, xX5_lateOnes_43, xX5_lateOnes_44, xX5_lateOnes_47, xX5_lateOnes_50, xX5_lateOnes_51, cK_some, ofR_some, ofR_none, Option.toList_some, Option.toList_none, List.cons_append, List.nil_append, isL_i, isL_r, isL_u, isL_2, cs_0, cs_i, cs_r, cs_l, cs_ii, cs_ir, cs_ri, cs_rr, cs_iir, cs_irr, hs_1, hs_2, hs_3, hs_4, hs_5, hs_6, hs_7, hs_8, hs_9, hs_10, hs_11, hs_12, hs_13, hs_14, hs_15, hs_16, hs_17, hs_18, hs_19, hs_20, hs_21, hs_22, hs_23, hs_24, hs_25, hs_26, hs_27, hs_28, hs_29, hs_30, hs_31, hs_32, hs_33, hs_34, en, eh', nk, hit', nI_lt, nI_nlt, nI_le, nI_ge, nI_pos, pk_sub, nI_clamp, s2_ne, s2_o, s2_s, nI_add, inb_n, nI_nn, zq0, zq1, ↓reduceIte]
      | false =>
        rw [hI] at hit
        have hit' : run (d + 2) mX5_isInTime [.ref (s + 15), .ref s, .int (nI k)] G I = some (some (.int (nI 0)), G, I) := hit
        try dsimp only
        rw [if_neg (by rw [hI]; decide)]
        simp (disch := first | assumption | (simp (disch := omega) only [cK_some, ofR_some, ofR_none, Option.toList_some, Option.toList_none, List.cons_append, List.nil_append, isL_i, isL_r, isL_u, isL_2, cs_0, cs_i, cs_r, cs_l, cs_ii, cs_ir, cs_ri, cs_rr, cs_iir, cs_irr, hs_1, hs_2, hs_3, hs_4, hs_5, hs_6, hs_7, hs_8, hs_9, hs_10, hs_11, hs_12, hs_13, hs_14, hs_15, hs_16, hs_17, hs_18, hs_19, hs_20, hs_21, hs_22, hs_23, hs_24, hs_25, hs_26, hs_27, hs_28, hs_29, hs_30, hs_31, hs_32, hs_33, hs_34, p1, inb_n, bq4, bq5, n100, not_false_eq_true, isB_0, isB_1, nI_clamp, nI_nneg, Nat.zero_add, Nat.le_refl]; done) | omega) only [xX5_lateOnes_0, xX5_lateOnes_1, xX5_lateOnes_2, xX5_lateOnes_3, xX5_lateOnes_5, xX5_lateOnes_6, xX5_lateOnes_9, xX5_lateOnes_12, xX5_lateOnes_15, xX5_lateOnes_16, xX5_lateOnes_19, xX5_lateOnes_22, xX5_lateOnes_23, xX5_lateOnes_24, xX5_lateOnes_26, xX5_lateOnes_29, xX5_lateOnes_30, xX5_lateOnes_31, xX5_lateOnes_32, xX5_lateOnes_35, xX5_lateOnes_38, xX5_lateOnes_39, xX5_lateOnes_40, xX5_lateOnes_41, xX5_lateOnes_42, xX5_lateOnes_43, xX5_lateOnes_44, xX5_lateOnes_47, xX5_lateOnes_50, xX5_lateOnes_51, cK_some, ofR_some, ofR_none, Option.toList_some, Option.toList_none, List.cons_append, List.nil_append, isL_i, isL_r, isL_u, isL_2, cs_0, cs_i, cs_r, cs_l, cs_ii, cs_ir, cs_ri, cs_rr, cs_iir, cs_irr, hs_1, hs_2, hs_3, hs_4, hs_5, hs_6, hs_7, hs_8, hs_9, hs_10, hs_11, hs_12, hs_13, hs_14, hs_15, hs_16, hs_17, hs_18, hs_19, hs_20, hs_21, hs_22, hs_23, hs_24, hs_25, hs_26, hs_27, hs_28, hs_29, hs_30, hs_31, hs_32, hs_33, hs_34, en, eh', nk, hit', hbo, nI_lt, nI_nlt, nI_le, nI_ge, nI_pos, pk_sub, nI_clamp, s2_ne, s2_o, s2_s, nI_add, inb_n, nI_nn, zq0, zq1, ↓reduceIte])
  simp (disch := first | assumption | (simp (disch := omega) only [cK_some, ofR_some, ofR_none, Option.toList_some, Option.toList_none, List.cons_append, List.nil_append, isL_i, isL_r, isL_u, isL_2, cs_0, cs_i, cs_r, cs_l, cs_ii, cs_ir, cs_ri, cs_rr, cs_iir, cs_irr, hs_1, hs_2, hs_3, hs_4, hs_5, hs_6, hs_7, hs_8, hs_9, hs_10, hs_11, hs_12, hs_13, hs_14, hs_15, hs_16, hs_17, hs_18, hs_19, hs_20, hs_21, hs_22, hs_23, hs_24, hs_25, hs_26, hs_27, hs_28, hs_29, hs_30, hs_31, hs_32, hs_33, hs_34, inb_n, bq4, bq5, n100, not_false_eq_true, isB_0, isB_1, nI_clamp, nI_nneg, Nat.zero_add, Nat.le_refl]; done) | omega) only [xX5_lateOnes_0, xX5_lateOnes_1, xX5_lateOnes_2, xX5_lateOnes_3, cK_some, ofR_some, ofR_none, Option.toList_some, Option.toList_none, List.cons_append, List.nil_append, isL_i, isL_r, isL_u, isL_2, cs_0, cs_i, cs_r, cs_l, cs_ii, cs_ir, cs_ri, cs_rr, cs_iir, cs_irr, hs_1, hs_2, hs_3, hs_4, hs_5, hs_6, hs_7, hs_8, hs_9, hs_10, hs_11, hs_12, hs_13, hs_14, hs_15, hs_16, hs_17, hs_18, hs_19, hs_20, hs_21, hs_22, hs_23, hs_24, hs_25, hs_26, hs_27, hs_28, hs_29, hs_30, hs_31, hs_32, hs_33, hs_34, rX5_lateOnes, nI_lt, nI_nlt, nI_le, nI_ge, nI_pos, pk_sub, nI_clamp, s2_ne, s2_o, s2_s, nI_add, inb_n, nI_nn, zq0, zq1, ↓reduceIte]
  refine Eq.trans hch ?_
  try dsimp only
  rw [xX5_lateOnes_4]
  simp (disch := first | assumption | (simp (disch := omega) only [cK_some, ofR_some, ofR_none, Option.toList_some, Option.toList_none, List.cons_append, List.nil_append, isL_i, isL_r, isL_u, isL_2, cs_0, cs_i, cs_r, cs_l, cs_ii, cs_ir, cs_ri, cs_rr, cs_iir, cs_irr, hs_1, hs_2, hs_3, hs_4, hs_5, hs_6, hs_7, hs_8, hs_9, hs_10, hs_11, hs_12, hs_13, hs_14, hs_15, hs_16, hs_17, hs_18, hs_19, hs_20, hs_21, hs_22, hs_23, hs_24, hs_25, hs_26, hs_27, hs_28, hs_29, hs_30, hs_31, hs_32, hs_33, hs_34, inb_n, bq4, bq5, n100, not_false_eq_true, isB_0, isB_1, nI_clamp, nI_nneg, Nat.zero_add, Nat.le_refl]; done) | omega) only [xX5_lateOnes_0, xX5_lateOnes_1, xX5_lateOnes_2, xX5_lateOnes_3, xX5_lateOnes_5, xX5_lateOnes_6, xX5_lateOnes_9, xX5_lateOnes_12, xX5_lateOnes_15, xX5_lateOnes_16, xX5_lateOnes_19, xX5_lateOnes_22, xX5_lateOnes_23, xX5_lateOnes_24, xX5_lateOnes_26, xX5_lateOnes_29, xX5_lateOnes_30, xX5_lateOnes_31, xX5_lateOnes_32, xX5_lateOnes_35, xX5_lateOnes_38, xX5_lateOnes_39, xX5_lateOnes_40, xX5_lateOnes_41, xX5_lateOnes_42, xX5_lateOnes_43, xX5_lateOnes_44, xX5_lateOnes_47, xX5_lateOnes_50, xX5_lateOnes_51, cK_some, ofR_some, ofR_none, Option.toList_some, Option.toList_none, List.cons_append, List.nil_append, isL_i, isL_r, isL_u, isL_2, cs_0, cs_i, cs_r, cs_l, cs_ii, cs_ir, cs_ri, cs_rr, cs_iir, cs_irr, hs_1, hs_2, hs_3, hs_4, hs_5, hs_6, hs_7, hs_8, hs_9, hs_10, hs_11, hs_12, hs_13, hs_14, hs_15, hs_16, hs_17, hs_18, hs_19, hs_20, hs_21, hs_22, hs_23, hs_24, hs_25, hs_26, hs_27, hs_28, hs_29, hs_30, hs_31, hs_32, hs_33, hs_34, en, nI_lt, nI_nlt, nI_le, nI_ge, nI_pos, pk_sub, nI_clamp, s2_ne, s2_o, s2_s, nI_add, inb_n, nI_nn, zq0, zq1, ↓reduceIte]
