/-! the next steps: pieces -/
def NxL (G : Gm) (x : Nat) : Prop := gT G x = (14, 6) ∧ gR G x 0 = some (x + 1) ∧ gR G x 1 = some (x + 2) ∧ gR G x 2 = some (x + 3) ∧ gR G x 3 = some (x + 4) ∧ gR G x 4 = some (x + 9) ∧ gR G x 5 = some (x + 10) ∧ gT G (x + 1) = (2, 4) ∧ gT G (x + 2) = (0, 4) ∧ gT G (x + 3) = (0, 4) ∧ gT G (x + 4) = (5, 4) ∧ gT G (x + 9) = (0, 3) ∧ gT G (x + 10) = (4, 3) ∧ (∀ k, k < 4 → gR G (x + 4) k = some (x + 5 + k) ∧ gT G (x + 5 + k) = (0, 3)) ∧ (∀ k, k < 3 → gR G (x + 10) k = some (x + 11 + 4 * k) ∧ Sc G (x + 11 + 4 * k))
/-- how many of n are above what they want -/
def cntW (h : Sp) (f : Nat → Nat) (n : Nat) : Nat := fo 0 (fun m j => if f j ≤ hWant h j then m else m + 1) n
theorem cntW_le {h : Sp} {f : Nat → Nat} : ∀ n, cntW h f n ≤ n
  | 0 => Nat.le_refl _
  | n + 1 => by
    have ih := cntW_le (h := h) (f := f) n
    show (if f n ≤ hWant h n then cntW h f n else cntW h f n + 1) ≤ n + 1
    split <;> omega
theorem cntW_eq {h : Sp} {f g : Nat → Nat} {n : Nat} (he : ∀ j, j < n → f j = g j) : cntW h f n = cntW h g n := fo_eq (fun m k hk => by rw [he k hk])
theorem cntW_up {h : Sp} {f : Nat → Nat} {b y : Nat} : ∀ n, b < n → cntW h (up f b y) n + (if f b ≤ hWant h b then 0 else 1) = cntW h f n + (if y ≤ hWant h b then 0 else 1)
  | 0, h0 => absurd h0 (by omega)
  | n + 1, h0 => by
    show (if up f b y n ≤ hWant h n then cntW h (up f b y) n else cntW h (up f b y) n + 1) + _ = (if f n ≤ hWant h n then cntW h f n else cntW h f n + 1) + _
    by_cases e : n = b
    · subst e
      rw [up_s, cntW_eq (f := up f n y) (g := f) (fun j hj => up_o (by omega))]
      split <;> split <;> omega
    · rw [up_o e]
      have ih := cntW_up (h := h) (f := f) (b := b) (y := y) n (by omega)
      split <;> omega
theorem minB_Do {h : Sp} {q : Qp} {b j : Nat} (e : j ≠ b) : qD (minB h q b) j = qD q j := up_o e
theorem minB_Ds {h : Sp} {q : Qp} {b : Nat} : qD (minB h q b) b = qD q b - qD q b * hWind h / 100 := up_s
theorem minA_D {h : Sp} {q : Qp} {j : Nat} : ∀ n, qD (fo q (fun q b => minB h q b) n) j = if j < n then qD q j - qD q j * hWind h / 100 else qD q j
  | 0 => by rw [if_neg (by omega)]; rfl
  | n + 1 => by
    have ih := minA_D (h := h) (q := q) (j := j) n
    rw [fo_s]
    by_cases e : j = n
    · subst e
      rw [minB_Ds, ih, if_neg (by omega), if_pos (by omega)]
    · rw [minB_Do e, ih]
      by_cases c : j < n
      · rw [if_pos c, if_pos (by omega)]
      · rw [if_neg c, if_neg (by omega)]
theorem mins_D {h : Sp} {q : Qp} {j : Nat} (hj : j < hN h) : ∀ n, qD (mins h q n) j = windP h (qD q j) n := by
  intro n
  show qD (fo q (fun q _ => minA h q) n) j = fo (qD q j) (fun x _ => x - x * hWind h / 100) n
  induction n with
  | zero => rfl
  | succ n ih =>
    rw [fo_s, fo_s, ← ih]
    unfold minA
    rw [minA_D, if_pos hj]
theorem wetN_mins {h : Sp} {q : Qp} {n : Nat} : wetN h (mins h q n) (hN h) = cntW h (fun j => windP h (qD q j) n) (hN h) := fo_eq (fun m k hk => by rw [mins_D hk])
theorem wetN_wring {h : Sp} {q : Qp} {t : Nat} : wetN h (wringP h q t) (hN h) = cntW h (fun j => windP h (qD q j) (hWring h)) (hN h) := wetN_mins
theorem wetN_wipe {h : Sp} {q : Qp} {b p : Nat} (hb : b < hN h) : wetN h (wipeP h q b p) (hN h) = (if windP h (qD q b) (hWipe h) ≤ hWant h b then cntW h (fun j => windP h (qD q j) (hWipe h)) (hN h) else cntW h (fun j => windP h (qD q j) (hWipe h)) (hN h) - 1) + (if windP h (qD q b - passP h b (qD q b) p (qP q p)) (hWipe h) ≤ hWant h b then 0 else 1) := by
  have e : wetN h (wipeP h q b p) (hN h) = cntW h (up (fun j => windP h (qD q j) (hWipe h)) b (windP h (qD q b - passP h b (qD q b) p (qP q p)) (hWipe h))) (hN h) := by
    refine wetN_mins.trans (cntW_eq (fun j hj => ?_))
    show windP h (up (qD q) b _ j) (hWipe h) = _
    by_cases e : j = b
    · subst e; rw [up_s, up_s]
    · rw [up_o e, up_o e]
  have h1 := cntW_up (h := h) (f := fun j => windP h (qD q j) (hWipe h)) (b := b) (y := windP h (qD q b - passP h b (qD q b) p (qP q p)) (hWipe h)) (hN h) hb
  rw [e]
  have hpos : ¬ windP h (qD q b) (hWipe h) ≤ hWant h b → 1 ≤ cntW h (fun j => windP h (qD q j) (hWipe h)) (hN h) := by
    intro c
    have : ∀ n, b < n → 1 ≤ cntW h (fun j => windP h (qD q j) (hWipe h)) n := by
      intro n
      induction n with
      | zero => intro h0; omega
      | succ n ih =>
        intro h0
        show 1 ≤ (if windP h (qD q n) (hWipe h) ≤ hWant h n then cntW h (fun j => windP h (qD q j) (hWipe h)) n else cntW h (fun j => windP h (qD q j) (hWipe h)) n + 1)
        by_cases e : n = b
        · subst e; rw [if_neg c]; omega
        · have := ih (by omega)
          split <;> omega
    exact this _ hb
  try dsimp only at h1
  by_cases c : windP h (qD q b) (hWipe h) ≤ hWant h b
  · rw [if_pos c] at h1 ⊢
    omega
  · rw [if_neg c] at h1 ⊢
    have := hpos c
    omega
theorem rn_nxNotDry {d a s l : Nat} {g : Nat → Nat} {h : Sp} {q : Qp} {G : Gm} {I : Im} (K : CT G I a s h q) (hl : gT G l = (0, 100)) (hg : ∀ D, D < 100 → I l D = nI (g D) ∧ g D ≤ D) : run d mX4_notDry [.ref s, .ref a, .ref l] G I = some (some (.int (nI (cntW h (fun j => g (qD q j)) (hN h)))), G, I) := by
  obtain ⟨ha, hs, hd, hv, ho, hq, hqo⟩ := K
  have hN6 := ho.1
  have en := hv.1.1
  have ha_1 := ha.1; have ha_2 := ha.2.1; have ha_3 := ha.2.2.1; have ha_4 := ha.2.2.2.1; have ha_5 := ha.2.2.2.2.1; have ha_6 := ha.2.2.2.2.2.1; have ha_7 := ha.2.2.2.2.2.2; have hs_1 := hs.1; have hs_2 := hs.2.1; have hs_3 := hs.2.2.1; have hs_4 := hs.2.2.2.1; have hs_5 := hs.2.2.2.2.1; have hs_6 := hs.2.2.2.2.2.1; have hs_7 := (hs.2.2.2.2.2.2.1).1; have hs_8 := (hs.2.2.2.2.2.2.1).2.1; have hs_9 := (hs.2.2.2.2.2.2.1).2.2.1; have hs_10 := (hs.2.2.2.2.2.2.1).2.2.2.1; have hs_11 := (hs.2.2.2.2.2.2.1).2.2.2.2.1; have hs_12 := (hs.2.2.2.2.2.2.1).2.2.2.2.2.1; have hs_13 := (hs.2.2.2.2.2.2.1).2.2.2.2.2.2.1; have hs_14 := (hs.2.2.2.2.2.2.1).2.2.2.2.2.2.2.1; have hs_15 := (hs.2.2.2.2.2.2.1).2.2.2.2.2.2.2.2.1; have hs_16 := (hs.2.2.2.2.2.2.1).2.2.2.2.2.2.2.2.2.1; have hs_17 := (hs.2.2.2.2.2.2.1).2.2.2.2.2.2.2.2.2.2.1; have hs_18 := (hs.2.2.2.2.2.2.1).2.2.2.2.2.2.2.2.2.2.2.1; have hs_19 := (hs.2.2.2.2.2.2.1).2.2.2.2.2.2.2.2.2.2.2.2; have hs_20 := (hs.2.2.2.2.2.2.2.1).1; have hs_21 := (hs.2.2.2.2.2.2.2.1).2.1; have hs_22 := (hs.2.2.2.2.2.2.2.1).2.2.1; have hs_23 := (hs.2.2.2.2.2.2.2.1).2.2.2.1; have hs_24 := (hs.2.2.2.2.2.2.2.1).2.2.2.2.1; have hs_25 := (hs.2.2.2.2.2.2.2.1).2.2.2.2.2.1; have hs_26 := (hs.2.2.2.2.2.2.2.1).2.2.2.2.2.2.1; have hs_27 := (hs.2.2.2.2.2.2.2.1).2.2.2.2.2.2.2.1; have hs_28 := (hs.2.2.2.2.2.2.2.1).2.2.2.2.2.2.2.2.1; have hs_29 := (hs.2.2.2.2.2.2.2.1).2.2.2.2.2.2.2.2.2.1; have hs_30 := (hs.2.2.2.2.2.2.2.1).2.2.2.2.2.2.2.2.2.2.1; have hs_31 := (hs.2.2.2.2.2.2.2.1).2.2.2.2.2.2.2.2.2.2.2.1; have hs_32 := (hs.2.2.2.2.2.2.2.1).2.2.2.2.2.2.2.2.2.2.2.2; have hs_33 := hs.2.2.2.2.2.2.2.2.1; have hs_34 := hs.2.2.2.2.2.2.2.2.2.2
  have hch := chain (fun k => ex d mX4_notDry 5 [.val (.ref s), .val (.ref a), .val (.ref l), .val (.int (nI (cntW h (fun j => g (qD q j)) k))), .val (.int (nI k))] [] G I) (hN h) (fun k hk => by
    have eD := (hq.1 k hk).1
    have hD := hqo.1 k hk
    have eW := (hv.2.2.1 k hk).2.1
    have hW := (ho.2.2.2.2.2.2.2.2.2.1 k hk).2.1
    obtain ⟨eg, hg1⟩ := hg (qD q k) (by omega)
    have es : cntW h (fun j => g (qD q j)) (k + 1) = if g (qD q k) ≤ hWant h k then cntW h (fun j => g (qD q j)) k else cntW h (fun j => g (qD q j)) k + 1 := rfl
    have hle := nI_leI (a := g (qD q k)) (b := hWant h k) (by omega) (by omega)
    try dsimp only
    rw [xX4_notDry_5, es]
    by_cases c : g (qD q k) ≤ hWant h k
    · rw [if_pos c]
      have c1 : (nI (g (qD q k)) ≤ nI (hWant h k)) = True := eq_true (hle.mpr c)
      simp (disch := first | assumption | (simp (disch := omega) only [cK_some, ofR_some, ofR_none, Option.toList_some, Option.toList_none, List.cons_append, List.nil_append, isL_i, isL_r, isL_u, isL_2, cs_0, cs_i, cs_r, cs_l, cs_ii, cs_ir, cs_ri, cs_rr, cs_iir, cs_irr, ha_1, ha_2, ha_3, ha_4, ha_5, ha_6, ha_7, hs_1, hs_2, hs_3, hs_4, hs_5, hs_6, hs_7, hs_8, hs_9, hs_10, hs_11, hs_12, hs_13, hs_14, hs_15, hs_16, hs_17, hs_18, hs_19, hs_20, hs_21, hs_22, hs_23, hs_24, hs_25, hs_26, hs_27, hs_28, hs_29, hs_30, hs_31, hs_32, hs_33, hs_34, hl, inb_n, bq4, bq5, n100, not_false_eq_true, isB_0, isB_1, nI_clamp, nI_nneg, Nat.zero_add, Nat.le_refl]; done) | omega | (simp (disch := omega) only [cK_some, ofR_some, ofR_none, Option.toList_some, Option.toList_none, List.cons_append, List.nil_append, isL_i, isL_r, isL_u, isL_2, cs_0, cs_i, cs_r, cs_l, cs_ii, cs_ir, cs_ri, cs_rr, cs_iir, cs_irr, ha_1, ha_2, ha_3, ha_4, ha_5, ha_6, ha_7, hs_1, hs_2, hs_3, hs_4, hs_5, hs_6, hs_7, hs_8, hs_9, hs_10, hs_11, hs_12, hs_13, hs_14, hs_15, hs_16, hs_17, hs_18, hs_19, hs_20, hs_21, hs_22, hs_23, hs_24, hs_25, hs_26, hs_27, hs_28, hs_29, hs_30, hs_31, hs_32, hs_33, hs_34, hl, inb_n, bq4, bq5, n100, not_false_eq_true, isB_0, isB_1, nI_clamp, nI_nneg, Nat.zero_add, Nat.le_refl]; omega)) only [xX4_notDry_0, xX4_notDry_1, xX4_notDry_2, xX4_notDry_3, xX4_notDry_7, xX4_notDry_8, xX4_notDry_11, xX4_notDry_14, xX4_notDry_17, xX4_notDry_18, xX4_notDry_19, xX4_notDry_22, xX4_notDry_24, xX4_notDry_25, xX4_notDry_26, xX4_notDry_27, xX4_notDry_30, xX4_notDry_33, xX4_notDry_35, xX4_notDry_36, xX4_notDry_39, xX4_notDry_42, xX4_notDry_45, xX4_notDry_48, xX4_notDry_49, cK_some, ofR_some, ofR_none, Option.toList_some, Option.toList_none, List.cons_append, List.nil_append, isL_i, isL_r, isL_u, isL_2, cs_0, cs_i, cs_r, cs_l, cs_ii, cs_ir, cs_ri, cs_rr, cs_iir, cs_irr, ha_1, ha_2, ha_3, ha_4, ha_5, ha_6, ha_7, hs_1, hs_2, hs_3, hs_4, hs_5, hs_6, hs_7, hs_8, hs_9, hs_10, hs_11, hs_12, hs_13, hs_14, hs_15, hs_16, hs_17, hs_18, hs_19, hs_20, hs_21, hs_22, hs_23, hs_24, hs_25, hs_26, hs_27, hs_28, hs_29, hs_30, hs_31, hs_32, hs_33, hs_34, en, eD, eW, eg, c1, Nat.add_sub_cancel, nI_lt, nI_nlt, nI_le, nI_ge, nI_pos, pk_sub, nI_clamp, s2_ne, s2_o, s2_s, nI_add, inb_n, nI_nn, zq0, zq1, ↓reduceIte]
    · rw [if_neg c]
      have c1 : (nI (g (qD q k)) ≤ nI (hWant h k)) = False := eq_false (fun x => c (hle.mp x))
      simp (disch := first | assumption | (simp (disch := omega) only [cK_some, ofR_some, ofR_none, Option.toList_some, Option.toList_none, List.cons_append, List.nil_append, isL_i, isL_r, isL_u, isL_2, cs_0, cs_i, cs_r, cs_l, cs_ii, cs_ir, cs_ri, cs_rr, cs_iir, cs_irr, ha_1, ha_2, ha_3, ha_4, ha_5, ha_6, ha_7, hs_1, hs_2, hs_3, hs_4, hs_5, hs_6, hs_7, hs_8, hs_9, hs_10, hs_11, hs_12, hs_13, hs_14, hs_15, hs_16, hs_17, hs_18, hs_19, hs_20, hs_21, hs_22, hs_23, hs_24, hs_25, hs_26, hs_27, hs_28, hs_29, hs_30, hs_31, hs_32, hs_33, hs_34, hl, inb_n, bq4, bq5, n100, not_false_eq_true, isB_0, isB_1, nI_clamp, nI_nneg, Nat.zero_add, Nat.le_refl]; done) | omega | (simp (disch := omega) only [cK_some, ofR_some, ofR_none, Option.toList_some, Option.toList_none, List.cons_append, List.nil_append, isL_i, isL_r, isL_u, isL_2, cs_0, cs_i, cs_r, cs_l, cs_ii, cs_ir, cs_ri, cs_rr, cs_iir, cs_irr, ha_1, ha_2, ha_3, ha_4, ha_5, ha_6, ha_7, hs_1, hs_2, hs_3, hs_4, hs_5, hs_6, hs_7, hs_8, hs_9, hs_10, hs_11, hs_12, hs_13, hs_14, hs_15, hs_16, hs_17, hs_18, hs_19, hs_20, hs_21, hs_22, hs_23, hs_24, hs_25, hs_26, hs_27, hs_28, hs_29, hs_30, hs_31, hs_32, hs_33, hs_34, hl, inb_n, bq4, bq5, n100, not_false_eq_true, isB_0, isB_1, nI_clamp, nI_nneg, Nat.zero_add, Nat.le_refl]; omega)) only [xX4_notDry_0, xX4_notDry_1, xX4_notDry_2, xX4_notDry_3, xX4_notDry_7, xX4_notDry_8, xX4_notDry_11, xX4_notDry_14, xX4_notDry_17, xX4_notDry_18, xX4_notDry_19, xX4_notDry_22, xX4_notDry_24, xX4_notDry_25, xX4_notDry_26, xX4_notDry_27, xX4_notDry_30, xX4_notDry_33, xX4_notDry_35, xX4_notDry_36, xX4_notDry_39, xX4_notDry_42, xX4_notDry_45, xX4_notDry_48, xX4_notDry_49, cK_some, ofR_some, ofR_none, Option.toList_some, Option.toList_none, List.cons_append, List.nil_append, isL_i, isL_r, isL_u, isL_2, cs_0, cs_i, cs_r, cs_l, cs_ii, cs_ir, cs_ri, cs_rr, cs_iir, cs_irr, ha_1, ha_2, ha_3, ha_4, ha_5, ha_6, ha_7, hs_1, hs_2, hs_3, hs_4, hs_5, hs_6, hs_7, hs_8, hs_9, hs_10, hs_11, hs_12, hs_13, hs_14, hs_15, hs_16, hs_17, hs_18, hs_19, hs_20, hs_21, hs_22, hs_23, hs_24, hs_25, hs_26, hs_27, hs_28, hs_29, hs_30, hs_31, hs_32, hs_33, hs_34, en, eD, eW, eg, c1, Nat.add_sub_cancel, nI_lt, nI_nlt, nI_le, nI_ge, nI_pos, pk_sub, nI_clamp, s2_ne, s2_o, s2_s, nI_add, inb_n, nI_nn, zq0, zq1, ↓reduceIte])
  simp (disch := first | assumption | (simp (disch := omega) only [cK_some, ofR_some, ofR_none, Option.toList_some, Option.toList_none, List.cons_append, List.nil_append, isL_i, isL_r, isL_u, isL_2, cs_0, cs_i, cs_r, cs_l, cs_ii, cs_ir, cs_ri, cs_rr, cs_iir, cs_irr, ha_1, ha_2, ha_3, ha_4, ha_5, ha_6, ha_7, hs_1, hs_2, hs_3, hs_4, hs_5, hs_6, hs_7, hs_8, hs_9, hs_10, hs_11, hs_12, hs_13, hs_14, hs_15, hs_16, hs_17, hs_18, hs_19, hs_20, hs_21, hs_22, hs_23, hs_24, hs_25, hs_26, hs_27, hs_28, hs_29, hs_30, hs_31, hs_32, hs_33, hs_34, inb_n, bq4, bq5, n100, not_false_eq_true, isB_0, isB_1, nI_clamp, nI_nneg, Nat.zero_add, Nat.le_refl]; done) | omega | (simp (disch := omega) only [cK_some, ofR_some, ofR_none, Option.toList_some, Option.toList_none, List.cons_append, List.nil_append, isL_i, isL_r, isL_u, isL_2, cs_0, cs_i, cs_r, cs_l, cs_ii, cs_ir, cs_ri, cs_rr, cs_iir, cs_irr, ha_1, ha_2, ha_3, ha_4, ha_5, ha_6, ha_7, hs_1, hs_2, hs_3, hs_4, hs_5, hs_6, hs_7, hs_8, hs_9, hs_10, hs_11, hs_12, hs_13, hs_14, hs_15, hs_16, hs_17, hs_18, hs_19, hs_20, hs_21, hs_22, hs_23, hs_24, hs_25, hs_26, hs_27, hs_28, hs_29, hs_30, hs_31, hs_32, hs_33, hs_34, inb_n, bq4, bq5, n100, not_false_eq_true, isB_0, isB_1, nI_clamp, nI_nneg, Nat.zero_add, Nat.le_refl]; omega)) only [xX4_notDry_0, xX4_notDry_1, xX4_notDry_2, xX4_notDry_3, cK_some, ofR_some, ofR_none, Option.toList_some, Option.toList_none, List.cons_append, List.nil_append, isL_i, isL_r, isL_u, isL_2, cs_0, cs_i, cs_r, cs_l, cs_ii, cs_ir, cs_ri, cs_rr, cs_iir, cs_irr, ha_1, ha_2, ha_3, ha_4, ha_5, ha_6, ha_7, hs_1, hs_2, hs_3, hs_4, hs_5, hs_6, hs_7, hs_8, hs_9, hs_10, hs_11, hs_12, hs_13, hs_14, hs_15, hs_16, hs_17, hs_18, hs_19, hs_20, hs_21, hs_22, hs_23, hs_24, hs_25, hs_26, hs_27, hs_28, hs_29, hs_30, hs_31, hs_32, hs_33, hs_34, rX4_notDry, Nat.add_sub_cancel, nI_lt, nI_nlt, nI_le, nI_ge, nI_pos, pk_sub, nI_clamp, s2_ne, s2_o, s2_s, nI_add, inb_n, nI_nn, zq0, zq1, ↓reduceIte]
  refine Eq.trans hch ?_
  try dsimp only
  rw [xX4_notDry_5]
  simp (disch := first | assumption | (simp (disch := omega) only [cK_some, ofR_some, ofR_none, Option.toList_some, Option.toList_none, List.cons_append, List.nil_append, isL_i, isL_r, isL_u, isL_2, cs_0, cs_i, cs_r, cs_l, cs_ii, cs_ir, cs_ri, cs_rr, cs_iir, cs_irr, ha_1, ha_2, ha_3, ha_4, ha_5, ha_6, ha_7, hs_1, hs_2, hs_3, hs_4, hs_5, hs_6, hs_7, hs_8, hs_9, hs_10, hs_11, hs_12, hs_13, hs_14, hs_15, hs_16, hs_17, hs_18, hs_19, hs_20, hs_21, hs_22, hs_23, hs_24, hs_25, hs_26, hs_27, hs_28, hs_29, hs_30, hs_31, hs_32, hs_33, hs_34, inb_n, bq4, bq5, n100, not_false_eq_true, isB_0, isB_1, nI_clamp, nI_nneg, Nat.zero_add, Nat.le_refl]; done) | omega | (simp (disch := omega) only [cK_some, ofR_some, ofR_none, Option.toList_some, Option.toList_none, List.cons_append, List.nil_append, isL_i, isL_r, isL_u, isL_2, cs_0, cs_i, cs_r, cs_l, cs_ii, cs_ir, cs_ri, cs_rr, cs_iir, cs_irr, ha_1, ha_2, ha_3, ha_4, ha_5, ha_6, ha_7, hs_1, hs_2, hs_3, hs_4, hs_5, hs_6, hs_7, hs_8, hs_9, hs_10, hs_11, hs_12, hs_13, hs_14, hs_15, hs_16, hs_17, hs_18, hs_19, hs_20, hs_21, hs_22, hs_23, hs_24, hs_25, hs_26, hs_27, hs_28, hs_29, hs_30, hs_31, hs_32, hs_33, hs_34, inb_n, bq4, bq5, n100, not_false_eq_true, isB_0, isB_1, nI_clamp, nI_nneg, Nat.zero_add, Nat.le_refl]; omega)) only [xX4_notDry_0, xX4_notDry_1, xX4_notDry_2, xX4_notDry_3, xX4_notDry_7, xX4_notDry_8, xX4_notDry_11, xX4_notDry_14, xX4_notDry_17, xX4_notDry_18, xX4_notDry_19, xX4_notDry_22, xX4_notDry_24, xX4_notDry_25, xX4_notDry_26, xX4_notDry_27, xX4_notDry_30, xX4_notDry_33, xX4_notDry_35, xX4_notDry_36, xX4_notDry_39, xX4_notDry_42, xX4_notDry_45, xX4_notDry_48, xX4_notDry_49, cK_some, ofR_some, ofR_none, Option.toList_some, Option.toList_none, List.cons_append, List.nil_append, isL_i, isL_r, isL_u, isL_2, cs_0, cs_i, cs_r, cs_l, cs_ii, cs_ir, cs_ri, cs_rr, cs_iir, cs_irr, ha_1, ha_2, ha_3, ha_4, ha_5, ha_6, ha_7, hs_1, hs_2, hs_3, hs_4, hs_5, hs_6, hs_7, hs_8, hs_9, hs_10, hs_11, hs_12, hs_13, hs_14, hs_15, hs_16, hs_17, hs_18, hs_19, hs_20, hs_21, hs_22, hs_23, hs_24, hs_25, hs_26, hs_27, hs_28, hs_29, hs_30, hs_31, hs_32, hs_33, hs_34, en, Nat.add_sub_cancel, nI_lt, nI_nlt, nI_le, nI_ge, nI_pos, pk_sub, nI_clamp, s2_ne, s2_o, s2_s, nI_add, inb_n, nI_nn, zq0, zq1, ↓reduceIte]
/-- a best of steps: how many are wet, minutes, the steps -/
abbrev Bst : Type := Nat × Nat × (Nat → Nat)
def offP (st : Bst) (T : Nat → Nat) (many taken : Nat) : Bst := if many < st.1 ∨ (many = st.1 ∧ taken < st.2.1) then (many, taken, T) else st
/-- the best of n steps, as it stands in memory -/
def BsV (I : Im) (x n : Nat) (st : Bst) : Prop := I (x + 2) n = nI st.1 ∧ I (x + 3) n = nI st.2.1 ∧ (∀ k, k < n → I (x + 5 + n) k = nI (st.2.2 k)) ∧ st.1 < 2 ^ 31 ∧ st.2.1 < 2 ^ 31
def inOf (x n c : Nat) : Prop := c = x + 2 ∨ c = x + 3 ∨ c = x + 5 + n
theorem BsV.fr {I I' : Im} {x n : Nat} {st : Bst} (B : BsV I x n st) (hf : ∀ c, inOf x n c → I' c = I c) : BsV I' x n st := by
  unfold BsV at B ⊢
  rw [hf (x + 2) (Or.inl rfl), hf (x + 3) (Or.inr (Or.inl rfl)), hf (x + 5 + n) (Or.inr (Or.inr rfl))]
  exact B
theorem rn_offer {d x n many taken : Nat} {st : Bst} {T : Nat → Nat} {G : Gm} {I : Im} (hx : NxL G x) (hn : n ≤ 3) (B : BsV I x n st) (hT : ∀ k, k < n → I (x + 9) k = nI (T k)) (hm : many < 2 ^ 31) (ht : taken < 2 ^ 31) :
    ∃ I', run d mX4_offer [.ref x, .int (nI n), .int (nI many), .int (nI taken)] G I = some (none, G, I') ∧ BsV I' x n (offP st T many taken) ∧ Fr (inOf x n) I I' ∧ (∀ c j, j ≠ n → c ≠ x + 5 + n → I' c j = I c j) := by
  obtain ⟨x1, x2, x3, x4, x5, x6, x7, x8, x9, x10, x11, x12, x13, x14, x15⟩ := hx
  obtain ⟨b1, b2, b3, b4, b5⟩ := id B
  obtain ⟨r1, r2⟩ := x14 n (by omega)
  have := True.intro
  have hl1 := nI_ltI (a := many) (b := st.1) hm b4
  have hl2 := nI_ltI (a := taken) (b := st.2.1) ht b5
  have he1 := nI_eq (a := many) (b := st.1) hm b4
  have wr : BsV (s1 (s2 (s2 I (x + 2) n (nI many)) (x + 3) n (nI taken)) (x + 5 + n) (va_cpy (I (x + 9)) (I (x + 5 + n)) 0 0 n)) x n (many, taken, T) ∧ Fr (inOf x n) I (s1 (s2 (s2 I (x + 2) n (nI many)) (x + 3) n (nI taken)) (x + 5 + n) (va_cpy (I (x + 9)) (I (x + 5 + n)) 0 0 n)) ∧ (∀ c j, j ≠ n → c ≠ x + 5 + n → s1 (s2 (s2 I (x + 2) n (nI many)) (x + 3) n (nI taken)) (x + 5 + n) (va_cpy (I (x + 9)) (I (x + 5 + n)) 0 0 n) c j = I c j) := by
    refine ⟨⟨?_, ?_, fun k hk => ?_, hm, ht⟩, ((Fr.rf.s2 (Or.inl rfl)).s2 (Or.inr (Or.inl rfl))).s1 (Or.inr (Or.inr rfl)), fun c j h1 h2 => ?_⟩
    · rw [s1_o (by omega), s2_ne (by omega), s2_s]
    · rw [s1_o (by omega), s2_s]
    · rw [s1_s]
      unfold va_cpy
      rw [if_pos ⟨by omega, by omega⟩, show 0 + (k - 0) = k by omega]
      exact hT k hk
    · rw [s1_o h2]
      by_cases e1 : c = x + 3
      · rw [e1, s2_o h1, s2_ne (by omega)]
      · rw [s2_ne e1]
        by_cases e2 : c = x + 2
        · rw [e2, s2_o h1]
        · rw [s2_ne e2]
  unfold offP
  by_cases c1 : many < st.1
  · rw [if_pos (Or.inl c1)]
    have d1 : (nI many < nI st.1) = True := eq_true (hl1.mpr c1)
    refine ⟨_, ?_, wr⟩
    simp (disch := first | assumption | (simp (disch := omega) only [cK_some, ofR_some, ofR_none, Option.toList_some, Option.toList_none, List.cons_append, List.nil_append, isL_i, isL_r, isL_u, isL_2, cs_0, cs_i, cs_r, cs_l, cs_ii, cs_ir, cs_ri, cs_rr, cs_iir, cs_irr, x1, x9, x10, x11, x12, r2, inb_n, bq4, bq5, n100, not_false_eq_true, isB_0, isB_1, nI_clamp, nI_nneg, Nat.zero_add, Nat.le_refl]; done) | omega | (simp (disch := omega) only [cK_some, ofR_some, ofR_none, Option.toList_some, Option.toList_none, List.cons_append, List.nil_append, isL_i, isL_r, isL_u, isL_2, cs_0, cs_i, cs_r, cs_l, cs_ii, cs_ir, cs_ri, cs_rr, cs_iir, cs_irr, x1, x9, x10, x11, x12, r2, inb_n, bq4, bq5, n100, not_false_eq_true, isB_0, isB_1, nI_clamp, nI_nneg, Nat.zero_add, Nat.le_refl]; omega)) only [xX4_offer_0, xX4_offer_1, xX4_offer_2, xX4_offer_5, xX4_offer_6, xX4_offer_7, xX4_offer_10, xX4_offer_11, xX4_offer_12, xX4_offer_15, xX4_offer_16, xX4_offer_17, xX4_offer_20, xX4_offer_21, xX4_offer_22, xX4_offer_25, xX4_offer_26, xX4_offer_27, xX4_offer_30, xX4_offer_31, xX4_offer_34, xX4_offer_35, xX4_offer_36, xX4_offer_37, xX4_offer_38, xX4_offer_41, xX4_offer_42, xX4_offer_43, xX4_offer_44, xX4_offer_45, xX4_offer_48, xX4_offer_49, xX4_offer_50, xX4_offer_53, xX4_offer_54, xX4_offer_55, xX4_offer_56, xX4_offer_57, xX4_offer_60, cK_some, ofR_some, ofR_none, Option.toList_some, Option.toList_none, List.cons_append, List.nil_append, isL_i, isL_r, isL_u, isL_2, cs_0, cs_i, cs_r, cs_l, cs_ii, cs_ir, cs_ri, cs_rr, cs_iir, cs_irr, rX4_offer, x3, b1, x4, x6, x5, r1, d1, s1_o, Nat.add_sub_cancel, nI_lt, nI_nlt, nI_le, nI_ge, nI_pos, pk_sub, nI_clamp, s2_ne, s2_o, s2_s, nI_add, inb_n, nI_nn, zq0, zq1, ↓reduceIte]
  · have d1 : (nI many < nI st.1) = False := eq_false (fun z => c1 (hl1.mp z))
    by_cases c2 : many = st.1
    · have d2 : (nI many = nI st.1) = True := eq_true (he1.mpr c2)
      by_cases c3 : taken < st.2.1
      · rw [if_pos (Or.inr ⟨c2, c3⟩)]
        have d3 : (nI taken < nI st.2.1) = True := eq_true (hl2.mpr c3)
        refine ⟨_, ?_, wr⟩
        simp (disch := first | assumption | (simp (disch := omega) only [cK_some, ofR_some, ofR_none, Option.toList_some, Option.toList_none, List.cons_append, List.nil_append, isL_i, isL_r, isL_u, isL_2, cs_0, cs_i, cs_r, cs_l, cs_ii, cs_ir, cs_ri, cs_rr, cs_iir, cs_irr, x1, x9, x10, x11, x12, r2, inb_n, bq4, bq5, n100, not_false_eq_true, isB_0, isB_1, nI_clamp, nI_nneg, Nat.zero_add, Nat.le_refl]; done) | omega | (simp (disch := omega) only [cK_some, ofR_some, ofR_none, Option.toList_some, Option.toList_none, List.cons_append, List.nil_append, isL_i, isL_r, isL_u, isL_2, cs_0, cs_i, cs_r, cs_l, cs_ii, cs_ir, cs_ri, cs_rr, cs_iir, cs_irr, x1, x9, x10, x11, x12, r2, inb_n, bq4, bq5, n100, not_false_eq_true, isB_0, isB_1, nI_clamp, nI_nneg, Nat.zero_add, Nat.le_refl]; omega)) only [xX4_offer_0, xX4_offer_1, xX4_offer_2, xX4_offer_5, xX4_offer_6, xX4_offer_7, xX4_offer_10, xX4_offer_11, xX4_offer_12, xX4_offer_15, xX4_offer_16, xX4_offer_17, xX4_offer_20, xX4_offer_21, xX4_offer_22, xX4_offer_25, xX4_offer_26, xX4_offer_27, xX4_offer_30, xX4_offer_31, xX4_offer_34, xX4_offer_35, xX4_offer_36, xX4_offer_37, xX4_offer_38, xX4_offer_41, xX4_offer_42, xX4_offer_43, xX4_offer_44, xX4_offer_45, xX4_offer_48, xX4_offer_49, xX4_offer_50, xX4_offer_53, xX4_offer_54, xX4_offer_55, xX4_offer_56, xX4_offer_57, xX4_offer_60, cK_some, ofR_some, ofR_none, Option.toList_some, Option.toList_none, List.cons_append, List.nil_append, isL_i, isL_r, isL_u, isL_2, cs_0, cs_i, cs_r, cs_l, cs_ii, cs_ir, cs_ri, cs_rr, cs_iir, cs_irr, rX4_offer, x3, b1, b2, x4, x6, x5, r1, d1, d2, d3, s1_o, Nat.add_sub_cancel, nI_lt, nI_nlt, nI_le, nI_ge, nI_pos, pk_sub, nI_clamp, s2_ne, s2_o, s2_s, nI_add, inb_n, nI_nn, zq0, zq1, ↓reduceIte]
      · rw [if_neg (fun z => z.elim c1 (fun y => c3 y.2))]
        have d3 : (nI taken < nI st.2.1) = False := eq_false (fun z => c3 (hl2.mp z))
        refine ⟨I, ?_, B, Fr.rf, fun _ _ _ _ => rfl⟩
        simp (disch := first | assumption | (simp (disch := omega) only [cK_some, ofR_some, ofR_none, Option.toList_some, Option.toList_none, List.cons_append, List.nil_append, isL_i, isL_r, isL_u, isL_2, cs_0, cs_i, cs_r, cs_l, cs_ii, cs_ir, cs_ri, cs_rr, cs_iir, cs_irr, x1, x9, x10, inb_n, bq4, bq5, n100, not_false_eq_true, isB_0, isB_1, nI_clamp, nI_nneg, Nat.zero_add, Nat.le_refl]; done) | omega | (simp (disch := omega) only [cK_some, ofR_some, ofR_none, Option.toList_some, Option.toList_none, List.cons_append, List.nil_append, isL_i, isL_r, isL_u, isL_2, cs_0, cs_i, cs_r, cs_l, cs_ii, cs_ir, cs_ri, cs_rr, cs_iir, cs_irr, x1, x9, x10, inb_n, bq4, bq5, n100, not_false_eq_true, isB_0, isB_1, nI_clamp, nI_nneg, Nat.zero_add, Nat.le_refl]; omega)) only [xX4_offer_0, xX4_offer_1, xX4_offer_2, xX4_offer_5, xX4_offer_6, xX4_offer_7, xX4_offer_10, xX4_offer_11, xX4_offer_12, xX4_offer_15, xX4_offer_16, xX4_offer_17, xX4_offer_20, xX4_offer_21, xX4_offer_22, xX4_offer_25, xX4_offer_26, xX4_offer_27, xX4_offer_30, xX4_offer_31, xX4_offer_34, xX4_offer_35, xX4_offer_36, xX4_offer_37, xX4_offer_38, xX4_offer_41, xX4_offer_42, xX4_offer_43, xX4_offer_44, xX4_offer_45, xX4_offer_48, xX4_offer_49, xX4_offer_50, xX4_offer_53, xX4_offer_54, xX4_offer_55, xX4_offer_56, xX4_offer_57, xX4_offer_60, cK_some, ofR_some, ofR_none, Option.toList_some, Option.toList_none, List.cons_append, List.nil_append, isL_i, isL_r, isL_u, isL_2, cs_0, cs_i, cs_r, cs_l, cs_ii, cs_ir, cs_ri, cs_rr, cs_iir, cs_irr, rX4_offer, x3, b1, b2, x4, d1, d2, d3, Nat.add_sub_cancel, nI_lt, nI_nlt, nI_le, nI_ge, nI_pos, pk_sub, nI_clamp, s2_ne, s2_o, s2_s, nI_add, inb_n, nI_nn, zq0, zq1, ↓reduceIte]
    · rw [if_neg (fun z => z.elim c1 (fun y => c2 y.1))]
      have d2 : (nI many = nI st.1) = False := eq_false (fun z => c2 (he1.mp z))
      refine ⟨I, ?_, B, Fr.rf, fun _ _ _ _ => rfl⟩
      simp (disch := first | assumption | (simp (disch := omega) only [cK_some, ofR_some, ofR_none, Option.toList_some, Option.toList_none, List.cons_append, List.nil_append, isL_i, isL_r, isL_u, isL_2, cs_0, cs_i, cs_r, cs_l, cs_ii, cs_ir, cs_ri, cs_rr, cs_iir, cs_irr, x1, x9, x10, inb_n, bq4, bq5, n100, not_false_eq_true, isB_0, isB_1, nI_clamp, nI_nneg, Nat.zero_add, Nat.le_refl]; done) | omega | (simp (disch := omega) only [cK_some, ofR_some, ofR_none, Option.toList_some, Option.toList_none, List.cons_append, List.nil_append, isL_i, isL_r, isL_u, isL_2, cs_0, cs_i, cs_r, cs_l, cs_ii, cs_ir, cs_ri, cs_rr, cs_iir, cs_irr, x1, x9, x10, inb_n, bq4, bq5, n100, not_false_eq_true, isB_0, isB_1, nI_clamp, nI_nneg, Nat.zero_add, Nat.le_refl]; omega)) only [xX4_offer_0, xX4_offer_1, xX4_offer_2, xX4_offer_5, xX4_offer_6, xX4_offer_7, xX4_offer_10, xX4_offer_11, xX4_offer_12, xX4_offer_15, xX4_offer_16, xX4_offer_17, xX4_offer_20, xX4_offer_21, xX4_offer_22, xX4_offer_25, xX4_offer_26, xX4_offer_27, xX4_offer_30, xX4_offer_31, xX4_offer_34, xX4_offer_35, xX4_offer_36, xX4_offer_37, xX4_offer_38, xX4_offer_41, xX4_offer_42, xX4_offer_43, xX4_offer_44, xX4_offer_45, xX4_offer_48, xX4_offer_49, xX4_offer_50, xX4_offer_53, xX4_offer_54, xX4_offer_55, xX4_offer_56, xX4_offer_57, xX4_offer_60, cK_some, ofR_some, ofR_none, Option.toList_some, Option.toList_none, List.cons_append, List.nil_append, isL_i, isL_r, isL_u, isL_2, cs_0, cs_i, cs_r, cs_l, cs_ii, cs_ir, cs_ri, cs_rr, cs_iir, cs_irr, rX4_offer, x3, b1, x4, d1, d2, Nat.add_sub_cancel, nI_lt, nI_nlt, nI_le, nI_ge, nI_pos, pk_sub, nI_clamp, s2_ne, s2_o, s2_s, nI_add, inb_n, nI_nn, zq0, zq1, ↓reduceIte]
