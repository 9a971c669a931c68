/-! orders that fit: pieces -/
def FiL (G : Gm) (f : Nat) : Prop := gT G f = (12, 8) ∧ gR G f 2 = some (f + 1) ∧ gR G f 3 = some (f + 2) ∧ gR G f 4 = some (f + 3) ∧ gR G f 5 = some (f + 10) ∧ gT G (f + 1) = (0, 720) ∧ gT G (f + 2) = (0, 6) ∧ gT G (f + 3) = (5, 6) ∧ (∀ k, k < 6 → gR G (f + 3) k = some (f + 4 + k) ∧ gT G (f + 4 + k) = (0, 100)) ∧ Sc G (f + 10)
/-- the patches as they were seen -/
def SeV (I : Im) (s : Nat) (h : Sp) (sn : Nat → Option Nat) : Prop := ∀ p, p < hP h → I (s + 1 + 6) p = encM (sn p) ∧ ∀ k, sn p = some k → k ≤ 99
def agQ (h : Sp) (sn : Nat → Option Nat) (q : Qp) : Bool := decide (∀ p, p < hP h → (sn p = none ∨ sn p = some (qP q p)))
theorem encM_1 {o : Option Nat} (ho : ∀ k, o = some k → k < 2 ^ 31) : (encM o = -1) = (o = none) := by
  cases o with
  | none => exact propext ⟨fun _ => rfl, fun _ => rfl⟩
  | some k => exact propext ⟨fun c => absurd c (nI_nm1 (ho k rfl)), fun c => by cases c⟩
theorem rn_isSeen {d s p : Nat} {h : Sp} {sn : Nat → Option Nat} {G : Gm} {I : Im} (hs : Sh G s) (ho : SpOk h) (hS : SeV I s h sn) (hp : p < hP h) : run d mX9_isSeen [.ref (s + 1), .int (nI p)] G I = some (some (.int (if sn p = none then nI 0 else nI 1)), G, I) := by
  have hP6 := ho.2.1
  obtain ⟨e1, e2⟩ := hS p hp
  have e3 := encM_1 (o := sn p) (fun k hk => by have := e2 k hk; omega)
  have hs_1 := hs.1; have hs_2 := hs.2.1; have hs_3 := hs.2.2.1; have hs_4 := hs.2.2.2.1; have hs_5 := hs.2.2.2.2.1; have hs_6 := hs.2.2.2.2.2.1; have hs_7 := (hs.2.2.2.2.2.2.1).1; have hs_8 := (hs.2.2.2.2.2.2.1).2.1; have hs_9 := (hs.2.2.2.2.2.2.1).2.2.1; have hs_10 := (hs.2.2.2.2.2.2.1).2.2.2.1; have hs_11 := (hs.2.2.2.2.2.2.1).2.2.2.2.1; have hs_12 := (hs.2.2.2.2.2.2.1).2.2.2.2.2.1; have hs_13 := (hs.2.2.2.2.2.2.1).2.2.2.2.2.2.1; have hs_14 := (hs.2.2.2.2.2.2.1).2.2.2.2.2.2.2.1; have hs_15 := (hs.2.2.2.2.2.2.1).2.2.2.2.2.2.2.2.1; have hs_16 := (hs.2.2.2.2.2.2.1).2.2.2.2.2.2.2.2.2.1; have hs_17 := (hs.2.2.2.2.2.2.1).2.2.2.2.2.2.2.2.2.2.1; have hs_18 := (hs.2.2.2.2.2.2.1).2.2.2.2.2.2.2.2.2.2.2.1; have hs_19 := (hs.2.2.2.2.2.2.1).2.2.2.2.2.2.2.2.2.2.2.2; have hs_20 := (hs.2.2.2.2.2.2.2.1).1; have hs_21 := (hs.2.2.2.2.2.2.2.1).2.1; have hs_22 := (hs.2.2.2.2.2.2.2.1).2.2.1; have hs_23 := (hs.2.2.2.2.2.2.2.1).2.2.2.1; have hs_24 := (hs.2.2.2.2.2.2.2.1).2.2.2.2.1; have hs_25 := (hs.2.2.2.2.2.2.2.1).2.2.2.2.2.1; have hs_26 := (hs.2.2.2.2.2.2.2.1).2.2.2.2.2.2.1; have hs_27 := (hs.2.2.2.2.2.2.2.1).2.2.2.2.2.2.2.1; have hs_28 := (hs.2.2.2.2.2.2.2.1).2.2.2.2.2.2.2.2.1; have hs_29 := (hs.2.2.2.2.2.2.2.1).2.2.2.2.2.2.2.2.2.1; have hs_30 := (hs.2.2.2.2.2.2.2.1).2.2.2.2.2.2.2.2.2.2.1; have hs_31 := (hs.2.2.2.2.2.2.2.1).2.2.2.2.2.2.2.2.2.2.2.1; have hs_32 := (hs.2.2.2.2.2.2.2.1).2.2.2.2.2.2.2.2.2.2.2.2; have hs_33 := hs.2.2.2.2.2.2.2.2.1; have hs_34 := hs.2.2.2.2.2.2.2.2.2.2
  by_cases c : sn p = none
  · have e4 : (encM (sn p) = -1) = True := e3.trans (eq_true c)
    rw [if_pos c]
    simp (disch := first | assumption | (simp (disch := omega) only [cK_some, ofR_some, ofR_none, Option.toList_some, Option.toList_none, List.cons_append, List.nil_append, isL_i, isL_r, isL_u, isL_2, cs_0, cs_i, cs_r, cs_l, cs_ii, cs_ir, cs_ri, cs_rr, cs_iir, cs_irr, hs_1, hs_2, hs_3, hs_4, hs_5, hs_6, hs_7, hs_8, hs_9, hs_10, hs_11, hs_12, hs_13, hs_14, hs_15, hs_16, hs_17, hs_18, hs_19, hs_20, hs_21, hs_22, hs_23, hs_24, hs_25, hs_26, hs_27, hs_28, hs_29, hs_30, hs_31, hs_32, hs_33, hs_34, inb_n, bq4, bq5, n100, not_false_eq_true, isB_0, isB_1, nI_clamp, nI_nneg, Nat.zero_add, Nat.le_refl]; done) | omega | (simp (disch := omega) only [cK_some, ofR_some, ofR_none, Option.toList_some, Option.toList_none, List.cons_append, List.nil_append, isL_i, isL_r, isL_u, isL_2, cs_0, cs_i, cs_r, cs_l, cs_ii, cs_ir, cs_ri, cs_rr, cs_iir, cs_irr, hs_1, hs_2, hs_3, hs_4, hs_5, hs_6, hs_7, hs_8, hs_9, hs_10, hs_11, hs_12, hs_13, hs_14, hs_15, hs_16, hs_17, hs_18, hs_19, hs_20, hs_21, hs_22, hs_23, hs_24, hs_25, hs_26, hs_27, hs_28, hs_29, hs_30, hs_31, hs_32, hs_33, hs_34, inb_n, bq4, bq5, n100, not_false_eq_true, isB_0, isB_1, nI_clamp, nI_nneg, Nat.zero_add, Nat.le_refl]; omega)) only [xX9_isSeen_0, xX9_isSeen_1, xX9_isSeen_4, xX9_isSeen_5, xX9_isSeen_6, xX9_isSeen_7, xX9_isSeen_10, xX9_isSeen_11, xX9_isSeen_14, xX9_isSeen_15, cK_some, ofR_some, ofR_none, Option.toList_some, Option.toList_none, List.cons_append, List.nil_append, isL_i, isL_r, isL_u, isL_2, cs_0, cs_i, cs_r, cs_l, cs_ii, cs_ir, cs_ri, cs_rr, cs_iir, cs_irr, hs_1, hs_2, hs_3, hs_4, hs_5, hs_6, hs_7, hs_8, hs_9, hs_10, hs_11, hs_12, hs_13, hs_14, hs_15, hs_16, hs_17, hs_18, hs_19, hs_20, hs_21, hs_22, hs_23, hs_24, hs_25, hs_26, hs_27, hs_28, hs_29, hs_30, hs_31, hs_32, hs_33, hs_34, rX9_isSeen, e1, e4, Nat.add_sub_cancel, nI_lt, nI_nlt, nI_le, nI_ge, nI_pos, pk_sub, nI_clamp, s2_ne, s2_o, s2_s, nI_add, inb_n, nI_nn, zq0, zq1, ↓reduceIte]
  · have e4 : (encM (sn p) = -1) = False := e3.trans (eq_false c)
    rw [if_neg c]
    simp (disch := first | assumption | (simp (disch := omega) only [cK_some, ofR_some, ofR_none, Option.toList_some, Option.toList_none, List.cons_append, List.nil_append, isL_i, isL_r, isL_u, isL_2, cs_0, cs_i, cs_r, cs_l, cs_ii, cs_ir, cs_ri, cs_rr, cs_iir, cs_irr, hs_1, hs_2, hs_3, hs_4, hs_5, hs_6, hs_7, hs_8, hs_9, hs_10, hs_11, hs_12, hs_13, hs_14, hs_15, hs_16, hs_17, hs_18, hs_19, hs_20, hs_21, hs_22, hs_23, hs_24, hs_25, hs_26, hs_27, hs_28, hs_29, hs_30, hs_31, hs_32, hs_33, hs_34, inb_n, bq4, bq5, n100, not_false_eq_true, isB_0, isB_1, nI_clamp, nI_nneg, Nat.zero_add, Nat.le_refl]; done) | omega | (simp (disch := omega) only [cK_some, ofR_some, ofR_none, Option.toList_some, Option.toList_none, List.cons_append, List.nil_append, isL_i, isL_r, isL_u, isL_2, cs_0, cs_i, cs_r, cs_l, cs_ii, cs_ir, cs_ri, cs_rr, cs_iir, cs_irr, hs_1, hs_2, hs_3, hs_4, hs_5, hs_6, hs_7, hs_8, hs_9, hs_10, hs_11, hs_12, hs_13, hs_14, hs_15, hs_16, hs_17, hs_18, hs_19, hs_20, hs_21, hs_22, hs_23, hs_24, hs_25, hs_26, hs_27, hs_28, hs_29, hs_30, hs_31, hs_32, hs_33, hs_34, inb_n, bq4, bq5, n100, not_false_eq_true, isB_0, isB_1, nI_clamp, nI_nneg, Nat.zero_add, Nat.le_refl]; omega)) only [xX9_isSeen_0, xX9_isSeen_1, xX9_isSeen_4, xX9_isSeen_5, xX9_isSeen_6, xX9_isSeen_7, xX9_isSeen_10, xX9_isSeen_11, xX9_isSeen_14, xX9_isSeen_15, cK_some, ofR_some, ofR_none, Option.toList_some, Option.toList_none, List.cons_append, List.nil_append, isL_i, isL_r, isL_u, isL_2, cs_0, cs_i, cs_r, cs_l, cs_ii, cs_ir, cs_ri, cs_rr, cs_iir, cs_irr, hs_1, hs_2, hs_3, hs_4, hs_5, hs_6, hs_7, hs_8, hs_9, hs_10, hs_11, hs_12, hs_13, hs_14, hs_15, hs_16, hs_17, hs_18, hs_19, hs_20, hs_21, hs_22, hs_23, hs_24, hs_25, hs_26, hs_27, hs_28, hs_29, hs_30, hs_31, hs_32, hs_33, hs_34, rX9_isSeen, e1, e4, Nat.add_sub_cancel, nI_lt, nI_nlt, nI_le, nI_ge, nI_pos, pk_sub, nI_clamp, s2_ne, s2_o, s2_s, nI_add, inb_n, nI_nn, zq0, zq1, ↓reduceIte]
theorem rn_agrees {d a s : Nat} {h : Sp} {q : Qp} {sn : Nat → Option Nat} {G : Gm} {I : Im} (K : CT G I a s h q) (hS : SeV I s h sn) : run (d + 1) mX2_agrees [.ref s, .ref a] G I = some (some (.int (bI (agQ h sn q))), G, I) := by
  obtain ⟨ha, hs, hd, hv, ho, hq, hqo⟩ := K
  have hP6 := ho.2.1
  have en := hv.1.2.1
  have ha_1 := ha.1; have ha_2 := ha.2.1; have ha_3 := ha.2.2.1; have ha_4 := ha.2.2.2.1; have ha_5 := ha.2.2.2.2.1; have ha_6 := ha.2.2.2.2.2.1; have ha_7 := ha.2.2.2.2.2.2; have hs_1 := hs.1; have hs_2 := hs.2.1; have hs_3 := hs.2.2.1; have hs_4 := hs.2.2.2.1; have hs_5 := hs.2.2.2.2.1; have hs_6 := hs.2.2.2.2.2.1; have hs_7 := (hs.2.2.2.2.2.2.1).1; have hs_8 := (hs.2.2.2.2.2.2.1).2.1; have hs_9 := (hs.2.2.2.2.2.2.1).2.2.1; have hs_10 := (hs.2.2.2.2.2.2.1).2.2.2.1; have hs_11 := (hs.2.2.2.2.2.2.1).2.2.2.2.1; have hs_12 := (hs.2.2.2.2.2.2.1).2.2.2.2.2.1; have hs_13 := (hs.2.2.2.2.2.2.1).2.2.2.2.2.2.1; have hs_14 := (hs.2.2.2.2.2.2.1).2.2.2.2.2.2.2.1; have hs_15 := (hs.2.2.2.2.2.2.1).2.2.2.2.2.2.2.2.1; have hs_16 := (hs.2.2.2.2.2.2.1).2.2.2.2.2.2.2.2.2.1; have hs_17 := (hs.2.2.2.2.2.2.1).2.2.2.2.2.2.2.2.2.2.1; have hs_18 := (hs.2.2.2.2.2.2.1).2.2.2.2.2.2.2.2.2.2.2.1; have hs_19 := (hs.2.2.2.2.2.2.1).2.2.2.2.2.2.2.2.2.2.2.2; have hs_20 := (hs.2.2.2.2.2.2.2.1).1; have hs_21 := (hs.2.2.2.2.2.2.2.1).2.1; have hs_22 := (hs.2.2.2.2.2.2.2.1).2.2.1; have hs_23 := (hs.2.2.2.2.2.2.2.1).2.2.2.1; have hs_24 := (hs.2.2.2.2.2.2.2.1).2.2.2.2.1; have hs_25 := (hs.2.2.2.2.2.2.2.1).2.2.2.2.2.1; have hs_26 := (hs.2.2.2.2.2.2.2.1).2.2.2.2.2.2.1; have hs_27 := (hs.2.2.2.2.2.2.2.1).2.2.2.2.2.2.2.1; have hs_28 := (hs.2.2.2.2.2.2.2.1).2.2.2.2.2.2.2.2.1; have hs_29 := (hs.2.2.2.2.2.2.2.1).2.2.2.2.2.2.2.2.2.1; have hs_30 := (hs.2.2.2.2.2.2.2.1).2.2.2.2.2.2.2.2.2.2.1; have hs_31 := (hs.2.2.2.2.2.2.2.1).2.2.2.2.2.2.2.2.2.2.2.1; have hs_32 := (hs.2.2.2.2.2.2.2.1).2.2.2.2.2.2.2.2.2.2.2.2; have hs_33 := hs.2.2.2.2.2.2.2.2.1; have hs_34 := hs.2.2.2.2.2.2.2.2.2.2
  have step : ∀ p, p < hP h → ex (d + 1) mX2_agrees 2 [.val (.ref s), .val (.ref a), .val (.int (nI p))] [] G I = if sn p = none ∨ sn p = some (qP q p) then ex (d + 1) mX2_agrees 2 [.val (.ref s), .val (.ref a), .val (.int (nI (p + 1)))] [] G I else some (some (.int (nI 0)), G, I) := by
    intro p hp
    have his := rn_isSeen (d := d) hs ho hS hp
    obtain ⟨e1, e2⟩ := hS p hp
    have e3 := hq.2.1 p hp
    have e4 := hqo.2.1 p hp
    have e5 := hold99 ho hp
    have e6 := encM_eq (o := sn p) (b := qP q p) (by omega) (fun k hk => by have := e2 k hk; omega)
    have e7 : (encM (sn p) = nI (qP q p)) = (sn p = some (qP q p)) := by rw [← e6]; exact propext ⟨Eq.symm, Eq.symm⟩
    rw [xX2_agrees_2]
    by_cases c : sn p = none
    · rw [if_pos c] at his
      rw [if_pos (Or.inl c)]
      simp (disch := first | assumption | (simp (disch := omega) only [cK_some, ofR_some, ofR_none, Option.toList_some, Option.toList_none, List.cons_append, List.nil_append, isL_i, isL_r, isL_u, isL_2, cs_0, cs_i, cs_r, cs_l, cs_ii, cs_ir, cs_ri, cs_rr, cs_iir, cs_irr, ha_1, ha_2, ha_3, ha_4, ha_5, ha_6, ha_7, hs_1, hs_2, hs_3, hs_4, hs_5, hs_6, hs_7, hs_8, hs_9, hs_10, hs_11, hs_12, hs_13, hs_14, hs_15, hs_16, hs_17, hs_18, hs_19, hs_20, hs_21, hs_22, hs_23, hs_24, hs_25, hs_26, hs_27, hs_28, hs_29, hs_30, hs_31, hs_32, hs_33, hs_34, inb_n, bq4, bq5, n100, not_false_eq_true, isB_0, isB_1, nI_clamp, nI_nneg, Nat.zero_add, Nat.le_refl]; done) | omega | (simp (disch := omega) only [cK_some, ofR_some, ofR_none, Option.toList_some, Option.toList_none, List.cons_append, List.nil_append, isL_i, isL_r, isL_u, isL_2, cs_0, cs_i, cs_r, cs_l, cs_ii, cs_ir, cs_ri, cs_rr, cs_iir, cs_irr, ha_1, ha_2, ha_3, ha_4, ha_5, ha_6, ha_7, hs_1, hs_2, hs_3, hs_4, hs_5, hs_6, hs_7, hs_8, hs_9, hs_10, hs_11, hs_12, hs_13, hs_14, hs_15, hs_16, hs_17, hs_18, hs_19, hs_20, hs_21, hs_22, hs_23, hs_24, hs_25, hs_26, hs_27, hs_28, hs_29, hs_30, hs_31, hs_32, hs_33, hs_34, inb_n, bq4, bq5, n100, not_false_eq_true, isB_0, isB_1, nI_clamp, nI_nneg, Nat.zero_add, Nat.le_refl]; omega)) only [xX2_agrees_0, xX2_agrees_1, xX2_agrees_3, xX2_agrees_4, xX2_agrees_7, xX2_agrees_10, xX2_agrees_13, xX2_agrees_14, xX2_agrees_17, xX2_agrees_18, xX2_agrees_21, xX2_agrees_24, xX2_agrees_25, xX2_agrees_28, xX2_agrees_31, xX2_agrees_32, xX2_agrees_33, xX2_agrees_34, xX2_agrees_37, xX2_agrees_38, xX2_agrees_39, xX2_agrees_42, xX2_agrees_43, xX2_agrees_44, xX2_agrees_47, xX2_agrees_50, xX2_agrees_51, cK_some, ofR_some, ofR_none, Option.toList_some, Option.toList_none, List.cons_append, List.nil_append, isL_i, isL_r, isL_u, isL_2, cs_0, cs_i, cs_r, cs_l, cs_ii, cs_ir, cs_ri, cs_rr, cs_iir, cs_irr, ha_1, ha_2, ha_3, ha_4, ha_5, ha_6, ha_7, hs_1, hs_2, hs_3, hs_4, hs_5, hs_6, hs_7, hs_8, hs_9, hs_10, hs_11, hs_12, hs_13, hs_14, hs_15, hs_16, hs_17, hs_18, hs_19, hs_20, hs_21, hs_22, hs_23, hs_24, hs_25, hs_26, hs_27, hs_28, hs_29, hs_30, hs_31, hs_32, hs_33, hs_34, en, his, Nat.add_sub_cancel, nI_lt, nI_nlt, nI_le, nI_ge, nI_pos, pk_sub, nI_clamp, s2_ne, s2_o, s2_s, nI_add, inb_n, nI_nn, zq0, zq1, ↓reduceIte]
    · rw [if_neg c] at his
      by_cases c2 : sn p = some (qP q p)
      · rw [if_pos (Or.inr c2)]
        have e8 : (encM (sn p) = nI (qP q p)) = True := e7.trans (eq_true c2)
        simp (disch := first | assumption | (simp (disch := omega) only [cK_some, ofR_some, ofR_none, Option.toList_some, Option.toList_none, List.cons_append, List.nil_append, isL_i, isL_r, isL_u, isL_2, cs_0, cs_i, cs_r, cs_l, cs_ii, cs_ir, cs_ri, cs_rr, cs_iir, cs_irr, ha_1, ha_2, ha_3, ha_4, ha_5, ha_6, ha_7, hs_1, hs_2, hs_3, hs_4, hs_5, hs_6, hs_7, hs_8, hs_9, hs_10, hs_11, hs_12, hs_13, hs_14, hs_15, hs_16, hs_17, hs_18, hs_19, hs_20, hs_21, hs_22, hs_23, hs_24, hs_25, hs_26, hs_27, hs_28, hs_29, hs_30, hs_31, hs_32, hs_33, hs_34, inb_n, bq4, bq5, n100, not_false_eq_true, isB_0, isB_1, nI_clamp, nI_nneg, Nat.zero_add, Nat.le_refl]; done) | omega | (simp (disch := omega) only [cK_some, ofR_some, ofR_none, Option.toList_some, Option.toList_none, List.cons_append, List.nil_append, isL_i, isL_r, isL_u, isL_2, cs_0, cs_i, cs_r, cs_l, cs_ii, cs_ir, cs_ri, cs_rr, cs_iir, cs_irr, ha_1, ha_2, ha_3, ha_4, ha_5, ha_6, ha_7, hs_1, hs_2, hs_3, hs_4, hs_5, hs_6, hs_7, hs_8, hs_9, hs_10, hs_11, hs_12, hs_13, hs_14, hs_15, hs_16, hs_17, hs_18, hs_19, hs_20, hs_21, hs_22, hs_23, hs_24, hs_25, hs_26, hs_27, hs_28, hs_29, hs_30, hs_31, hs_32, hs_33, hs_34, inb_n, bq4, bq5, n100, not_false_eq_true, isB_0, isB_1, nI_clamp, nI_nneg, Nat.zero_add, Nat.le_refl]; omega)) only [xX2_agrees_0, xX2_agrees_1, xX2_agrees_3, xX2_agrees_4, xX2_agrees_7, xX2_agrees_10, xX2_agrees_13, xX2_agrees_14, xX2_agrees_17, xX2_agrees_18, xX2_agrees_21, xX2_agrees_24, xX2_agrees_25, xX2_agrees_28, xX2_agrees_31, xX2_agrees_32, xX2_agrees_33, xX2_agrees_34, xX2_agrees_37, xX2_agrees_38, xX2_agrees_39, xX2_agrees_42, xX2_agrees_43, xX2_agrees_44, xX2_agrees_47, xX2_agrees_50, xX2_agrees_51, cK_some, ofR_some, ofR_none, Option.toList_some, Option.toList_none, List.cons_append, List.nil_append, isL_i, isL_r, isL_u, isL_2, cs_0, cs_i, cs_r, cs_l, cs_ii, cs_ir, cs_ri, cs_rr, cs_iir, cs_irr, ha_1, ha_2, ha_3, ha_4, ha_5, ha_6, ha_7, hs_1, hs_2, hs_3, hs_4, hs_5, hs_6, hs_7, hs_8, hs_9, hs_10, hs_11, hs_12, hs_13, hs_14, hs_15, hs_16, hs_17, hs_18, hs_19, hs_20, hs_21, hs_22, hs_23, hs_24, hs_25, hs_26, hs_27, hs_28, hs_29, hs_30, hs_31, hs_32, hs_33, hs_34, en, his, e1, e3, e8, Nat.add_sub_cancel, nI_lt, nI_nlt, nI_le, nI_ge, nI_pos, pk_sub, nI_clamp, s2_ne, s2_o, s2_s, nI_add, inb_n, nI_nn, zq0, zq1, ↓reduceIte]
      · rw [if_neg (fun z => z.elim c c2)]
        have e8 : (encM (sn p) = nI (qP q p)) = False := e7.trans (eq_false c2)
        simp (disch := first | assumption | (simp (disch := omega) only [cK_some, ofR_some, ofR_none, Option.toList_some, Option.toList_none, List.cons_append, List.nil_append, isL_i, isL_r, isL_u, isL_2, cs_0, cs_i, cs_r, cs_l, cs_ii, cs_ir, cs_ri, cs_rr, cs_iir, cs_irr, ha_1, ha_2, ha_3, ha_4, ha_5, ha_6, ha_7, hs_1, hs_2, hs_3, hs_4, hs_5, hs_6, hs_7, hs_8, hs_9, hs_10, hs_11, hs_12, hs_13, hs_14, hs_15, hs_16, hs_17, hs_18, hs_19, hs_20, hs_21, hs_22, hs_23, hs_24, hs_25, hs_26, hs_27, hs_28, hs_29, hs_30, hs_31, hs_32, hs_33, hs_34, inb_n, bq4, bq5, n100, not_false_eq_true, isB_0, isB_1, nI_clamp, nI_nneg, Nat.zero_add, Nat.le_refl]; done) | omega | (simp (disch := omega) only [cK_some, ofR_some, ofR_none, Option.toList_some, Option.toList_none, List.cons_append, List.nil_append, isL_i, isL_r, isL_u, isL_2, cs_0, cs_i, cs_r, cs_l, cs_ii, cs_ir, cs_ri, cs_rr, cs_iir, cs_irr, ha_1, ha_2, ha_3, ha_4, ha_5, ha_6, ha_7, hs_1, hs_2, hs_3, hs_4, hs_5, hs_6, hs_7, hs_8, hs_9, hs_10, hs_11, hs_12, hs_13, hs_14, hs_15, hs_16, hs_17, hs_18, hs_19, hs_20, hs_21, hs_22, hs_23, hs_24, hs_25, hs_26, hs_27, hs_28, hs_29, hs_30, hs_31, hs_32, hs_33, hs_34, inb_n, bq4, bq5, n100, not_false_eq_true, isB_0, isB_1, nI_clamp, nI_nneg, Nat.zero_add, Nat.le_refl]; omega)) only [xX2_agrees_0, xX2_agrees_1, xX2_agrees_3, xX2_agrees_4, xX2_agrees_7, xX2_agrees_10, xX2_agrees_13, xX2_agrees_14, xX2_agrees_17, xX2_agrees_18, xX2_agrees_21, xX2_agrees_24, xX2_agrees_25, xX2_agrees_28, xX2_agrees_31, xX2_agrees_32, xX2_agrees_33, xX2_agrees_34, xX2_agrees_37, xX2_agrees_38, xX2_agrees_39, xX2_agrees_42, xX2_agrees_43, xX2_agrees_44, xX2_agrees_47, xX2_agrees_50, xX2_agrees_51, cK_some, ofR_some, ofR_none, Option.toList_some, Option.toList_none, List.cons_append, List.nil_append, isL_i, isL_r, isL_u, isL_2, cs_0, cs_i, cs_r, cs_l, cs_ii, cs_ir, cs_ri, cs_rr, cs_iir, cs_irr, ha_1, ha_2, ha_3, ha_4, ha_5, ha_6, ha_7, hs_1, hs_2, hs_3, hs_4, hs_5, hs_6, hs_7, hs_8, hs_9, hs_10, hs_11, hs_12, hs_13, hs_14, hs_15, hs_16, hs_17, hs_18, hs_19, hs_20, hs_21, hs_22, hs_23, hs_24, hs_25, hs_26, hs_27, hs_28, hs_29, hs_30, hs_31, hs_32, hs_33, hs_34, en, his, e1, e3, e8, Nat.add_sub_cancel, nI_lt, nI_nlt, nI_le, nI_ge, nI_pos, pk_sub, nI_clamp, s2_ne, s2_o, s2_s, nI_add, inb_n, nI_nn, zq0, zq1, ↓reduceIte]
  simp (disch := first | assumption | (simp (disch := omega) only [cK_some, ofR_some, ofR_none, Option.toList_some, Option.toList_none, List.cons_append, List.nil_append, isL_i, isL_r, isL_u, isL_2, cs_0, cs_i, cs_r, cs_l, cs_ii, cs_ir, cs_ri, cs_rr, cs_iir, cs_irr, ha_1, ha_2, ha_3, ha_4, ha_5, ha_6, ha_7, hs_1, hs_2, hs_3, hs_4, hs_5, hs_6, hs_7, hs_8, hs_9, hs_10, hs_11, hs_12, hs_13, hs_14, hs_15, hs_16, hs_17, hs_18, hs_19, hs_20, hs_21, hs_22, hs_23, hs_24, hs_25, hs_26, hs_27, hs_28, hs_29, hs_30, hs_31, hs_32, hs_33, hs_34, inb_n, bq4, bq5, n100, not_false_eq_true, isB_0, isB_1, nI_clamp, nI_nneg, Nat.zero_add, Nat.le_refl]; done) | omega | (simp (disch := omega) only [cK_some, ofR_some, ofR_none, Option.toList_some, Option.toList_none, List.cons_append, List.nil_append, isL_i, isL_r, isL_u, isL_2, cs_0, cs_i, cs_r, cs_l, cs_ii, cs_ir, cs_ri, cs_rr, cs_iir, cs_irr, ha_1, ha_2, ha_3, ha_4, ha_5, ha_6, ha_7, hs_1, hs_2, hs_3, hs_4, hs_5, hs_6, hs_7, hs_8, hs_9, hs_10, hs_11, hs_12, hs_13, hs_14, hs_15, hs_16, hs_17, hs_18, hs_19, hs_20, hs_21, hs_22, hs_23, hs_24, hs_25, hs_26, hs_27, hs_28, hs_29, hs_30, hs_31, hs_32, hs_33, hs_34, inb_n, bq4, bq5, n100, not_false_eq_true, isB_0, isB_1, nI_clamp, nI_nneg, Nat.zero_add, Nat.le_refl]; omega)) only [xX2_agrees_0, xX2_agrees_1, cK_some, ofR_some, ofR_none, Option.toList_some, Option.toList_none, List.cons_append, List.nil_append, isL_i, isL_r, isL_u, isL_2, cs_0, cs_i, cs_r, cs_l, cs_ii, cs_ir, cs_ri, cs_rr, cs_iir, cs_irr, ha_1, ha_2, ha_3, ha_4, ha_5, ha_6, ha_7, hs_1, hs_2, hs_3, hs_4, hs_5, hs_6, hs_7, hs_8, hs_9, hs_10, hs_11, hs_12, hs_13, hs_14, hs_15, hs_16, hs_17, hs_18, hs_19, hs_20, hs_21, hs_22, hs_23, hs_24, hs_25, hs_26, hs_27, hs_28, hs_29, hs_30, hs_31, hs_32, hs_33, hs_34, rX2_agrees, Nat.add_sub_cancel, nI_lt, nI_nlt, nI_le, nI_ge, nI_pos, pk_sub, nI_clamp, s2_ne, s2_o, s2_s, nI_add, inb_n, nI_nn, zq0, zq1, ↓reduceIte]
  by_cases hall : ∀ p, p < hP h → (sn p = none ∨ sn p = some (qP q p))
  · have hch := chain (fun k => ex (d + 1) mX2_agrees 2 [.val (.ref s), .val (.ref a), .val (.int (nI k))] [] G I) (hP h) (fun k hk => by
      try dsimp only
      rw [step k hk, if_pos (hall k hk)])
    refine Eq.trans hch ?_
    have eb : agQ h sn q = true := decide_eq_true hall
    rw [eb]
    try dsimp only
    rw [xX2_agrees_2]
    simp (disch := first | assumption | (simp (disch := omega) only [cK_some, ofR_some, ofR_none, Option.toList_some, Option.toList_none, List.cons_append, List.nil_append, isL_i, isL_r, isL_u, isL_2, cs_0, cs_i, cs_r, cs_l, cs_ii, cs_ir, cs_ri, cs_rr, cs_iir, cs_irr, ha_1, ha_2, ha_3, ha_4, ha_5, ha_6, ha_7, hs_1, hs_2, hs_3, hs_4, hs_5, hs_6, hs_7, hs_8, hs_9, hs_10, hs_11, hs_12, hs_13, hs_14, hs_15, hs_16, hs_17, hs_18, hs_19, hs_20, hs_21, hs_22, hs_23, hs_24, hs_25, hs_26, hs_27, hs_28, hs_29, hs_30, hs_31, hs_32, hs_33, hs_34, inb_n, bq4, bq5, n100, not_false_eq_true, isB_0, isB_1, nI_clamp, nI_nneg, Nat.zero_add, Nat.le_refl]; done) | omega | (simp (disch := omega) only [cK_some, ofR_some, ofR_none, Option.toList_some, Option.toList_none, List.cons_append, List.nil_append, isL_i, isL_r, isL_u, isL_2, cs_0, cs_i, cs_r, cs_l, cs_ii, cs_ir, cs_ri, cs_rr, cs_iir, cs_irr, ha_1, ha_2, ha_3, ha_4, ha_5, ha_6, ha_7, hs_1, hs_2, hs_3, hs_4, hs_5, hs_6, hs_7, hs_8, hs_9, hs_10, hs_11, hs_12, hs_13, hs_14, hs_15, hs_16, hs_17, hs_18, hs_19, hs_20, hs_21, hs_22, hs_23, hs_24, hs_25, hs_26, hs_27, hs_28, hs_29, hs_30, hs_31, hs_32, hs_33, hs_34, inb_n, bq4, bq5, n100, not_false_eq_true, isB_0, isB_1, nI_clamp, nI_nneg, Nat.zero_add, Nat.le_refl]; omega)) only [xX2_agrees_0, xX2_agrees_1, xX2_agrees_3, xX2_agrees_4, xX2_agrees_7, xX2_agrees_10, xX2_agrees_13, xX2_agrees_14, xX2_agrees_17, xX2_agrees_18, xX2_agrees_21, xX2_agrees_24, xX2_agrees_25, xX2_agrees_28, xX2_agrees_31, xX2_agrees_32, xX2_agrees_33, xX2_agrees_34, xX2_agrees_37, xX2_agrees_38, xX2_agrees_39, xX2_agrees_42, xX2_agrees_43, xX2_agrees_44, xX2_agrees_47, xX2_agrees_50, xX2_agrees_51, cK_some, ofR_some, ofR_none, Option.toList_some, Option.toList_none, List.cons_append, List.nil_append, isL_i, isL_r, isL_u, isL_2, cs_0, cs_i, cs_r, cs_l, cs_ii, cs_ir, cs_ri, cs_rr, cs_iir, cs_irr, ha_1, ha_2, ha_3, ha_4, ha_5, ha_6, ha_7, hs_1, hs_2, hs_3, hs_4, hs_5, hs_6, hs_7, hs_8, hs_9, hs_10, hs_11, hs_12, hs_13, hs_14, hs_15, hs_16, hs_17, hs_18, hs_19, hs_20, hs_21, hs_22, hs_23, hs_24, hs_25, hs_26, hs_27, hs_28, hs_29, hs_30, hs_31, hs_32, hs_33, hs_34, en, bI, Nat.add_sub_cancel, nI_lt, nI_nlt, nI_le, nI_ge, nI_pos, pk_sub, nI_clamp, s2_ne, s2_o, s2_s, nI_add, inb_n, nI_nn, zq0, zq1, ↓reduceIte]
  · have hx : ∃ p, p < hP h ∧ ¬ (sn p = none ∨ sn p = some (qP q p)) := by
      by_cases hy : ∃ p, p < hP h ∧ ¬ (sn p = none ∨ sn p = some (qP q p))
      · exact hy
      · exact absurd (fun p hp => by
          by_cases c : sn p = none ∨ sn p = some (qP q p)
          · exact c
          · exact absurd ⟨p, hp, c⟩ hy) hall
    obtain ⟨p, ⟨hp, hn⟩, hmin⟩ := pk_least _ hx
    have hlow : ∀ k, k < p → (sn k = none ∨ sn k = some (qP q k)) := by
      intro k hk
      by_cases c : sn k = none ∨ sn k = some (qP q k)
      · exact c
      · exact absurd ⟨by omega, c⟩ (hmin k hk)
    have hch := chain (fun k => ex (d + 1) mX2_agrees 2 [.val (.ref s), .val (.ref a), .val (.int (nI k))] [] G I) p (fun k hk => by
      try dsimp only
      rw [step k (by omega), if_pos (hlow k hk)])
    refine Eq.trans hch ?_
    have eb : agQ h sn q = false := decide_eq_false hall
    rw [eb]
    try dsimp only
    rw [step p hp, if_neg hn]
    rfl
/-- an order in one number, three bits a place -/
def pko (o : Nat → Nat) (n : Nat) : Nat := fo 0 (fun m k => m + o k * 8 ^ k) n
theorem pko_lt {o : Nat → Nat} : ∀ n, (∀ k, k < n → o k < 8) → pko o n < 8 ^ n
  | 0, _ => by show 0 < 1; omega
  | n + 1, h => by
    have ih := pko_lt (o := o) n (fun k hk => h k (by omega))
    have h1 := h n (by omega)
    show pko o n + o n * 8 ^ n < 8 ^ (n + 1)
    rw [Nat.pow_succ]
    have : o n * 8 ^ n ≤ 7 * 8 ^ n := Nat.mul_le_mul_right _ (by omega)
    omega
theorem nI_or (a b : Nat) : nI a ||| nI b = nI (a ||| b) := by
  apply Int32.toBitVec_inj.mp
  show BitVec.ofNat 32 a ||| BitVec.ofNat 32 b = BitVec.ofNat 32 (a ||| b)
  apply BitVec.eq_of_toNat_eq
  rw [BitVec.toNat_or, BitVec.toNat_ofNat, BitVec.toNat_ofNat, BitVec.toNat_ofNat, Nat.or_mod_two_pow]
theorem pko_or {m x k : Nat} (hm : m < 8 ^ k) : m ||| x * 8 ^ k = m + x * 8 ^ k := by
  have e : (8 : Nat) ^ k = 2 ^ (3 * k) := by rw [Nat.pow_mul]
  rw [e] at hm ⊢
  have h1 := Nat.shiftLeft_add_eq_or_of_lt hm x
  rw [Nat.shiftLeft_eq] at h1
  rw [Nat.or_comm, ← h1, Nat.add_comm]
theorem pko_step {m x k : Nat} (hm : m < 8 ^ k) (hx : x < 8) (hk : k < 6) : nI m ||| (nI x <<< (nI (3 * k) &&& 31)) = nI (m + x * 8 ^ k) := by
  have hsm : ∀ k, k < 6 → ((nI (3 * k) &&& 31).toBitVec.smod 32).toNat = 3 * k := by decide
  have e : (8 : Nat) ^ k = 2 ^ (3 * k) := by rw [Nat.pow_mul]
  have hp : ∀ k, k < 6 → 2 ^ (3 * k) ≤ 2 ^ 15 := by decide
  have h1 := hp k hk
  have h2 : x * 2 ^ (3 * k) ≤ 7 * 2 ^ 15 := Nat.mul_le_mul (by omega) h1
  rw [pk_shlN (n := x) _ (3 * k) (hsm k hk) (by omega), nI_or, ← e, pko_or hm]
theorem pko_get {o : Nat → Nat} {n k : Nat} (h : ∀ k, k < n → o k < 8) (hk : k < n) : pko o n / 8 ^ k % 8 = o k := by
  induction n with
  | zero => omega
  | succ n ih =>
    show (pko o n + o n * 8 ^ n) / 8 ^ k % 8 = o k
    by_cases e : k = n
    · subst e
      have h1 := pko_lt (o := o) k (fun j hj => h j (by omega))
      rw [Nat.add_mul_div_right _ _ (Nat.pow_pos (by omega)), Nat.div_eq_of_lt h1, Nat.zero_add]
      exact Nat.mod_eq_of_lt (h k (by omega))
    · have hk2 : k < n := by omega
      obtain ⟨j, rfl⟩ := Nat.le.dest (show k + 1 ≤ n from hk2)
      rw [show o (k + 1 + j) * 8 ^ (k + 1 + j) = (o (k + 1 + j) * 8 ^ j * 8) * 8 ^ k by rw [Nat.pow_add, Nat.pow_succ]; ac_rfl, Nat.add_mul_div_right _ _ (Nat.pow_pos (by omega)), Nat.add_mul_mod_self_right]
      exact ih (fun j hj => h j (by omega)) hk2
theorem rn_whoAt {d f i k n : Nat} {o : Nat → Nat} {G : Gm} {I : Im} (hf : FiL G f) (hi : i < 720) (hn : n ≤ 6) (hI : I (f + 1) i = nI (pko o n)) (ho : ∀ k, k < n → o k < 8) (hk : k < n) : run d mX2_whoAt [.ref f, .int (nI i), .int (nI k)] G I = some (some (.int (nI (o k))), G, I) := by
  obtain ⟨f1, f2, f3, f4, f5, f6, -⟩ := hf
  have := True.intro
  have hlt := pko_lt (o := o) n ho
  have h8 : ∀ n, n ≤ 6 → 8 ^ n ≤ 8 ^ 6 := fun n hn => Nat.pow_le_pow_right (by omega) hn
  have h9 := h8 n hn
  have hsm : ∀ k, k < 6 → ((nI (3 * k) &&& 31).toBitVec.smod 32).toNat = 3 * k := by decide
  have e1 : nI (pko o n) >>> (nI (3 * k) &&& 31) = nI (pko o n / 8 ^ k) := by
    rw [pk_shrN (by omega) _ (3 * k) (hsm k (by omega)), Nat.pow_mul]
  have hdl : pko o n / 8 ^ k ≤ pko o n := Nat.div_le_self _ _
  have e2 := pk_andN (n := pko o n / 8 ^ k) (by omega) (m := nI 7) 3 (by decide)
  rw [show (2 : Nat) ^ 3 = 8 from rfl, pko_get ho hk] at e2
  simp (disch := first | assumption | (simp (disch := omega) only [cK_some, ofR_some, ofR_none, Option.toList_some, Option.toList_none, List.cons_append, List.nil_append, isL_i, isL_r, isL_u, isL_2, cs_0, cs_i, cs_r, cs_l, cs_ii, cs_ir, cs_ri, cs_rr, cs_iir, cs_irr, f1, f6, inb_n, bq4, bq5, n100, not_false_eq_true, isB_0, isB_1, nI_clamp, nI_nneg, Nat.zero_add, Nat.le_refl]; done) | omega | (simp (disch := omega) only [cK_some, ofR_some, ofR_none, Option.toList_some, Option.toList_none, List.cons_append, List.nil_append, isL_i, isL_r, isL_u, isL_2, cs_0, cs_i, cs_r, cs_l, cs_ii, cs_ir, cs_ri, cs_rr, cs_iir, cs_irr, f1, f6, inb_n, bq4, bq5, n100, not_false_eq_true, isB_0, isB_1, nI_clamp, nI_nneg, Nat.zero_add, Nat.le_refl]; omega)) only [xX2_whoAt_0, xX2_whoAt_1, xX2_whoAt_4, xX2_whoAt_5, xX2_whoAt_6, xX2_whoAt_7, xX2_whoAt_8, xX2_whoAt_9, xX2_whoAt_10, xX2_whoAt_12, xX2_whoAt_13, cK_some, ofR_some, ofR_none, Option.toList_some, Option.toList_none, List.cons_append, List.nil_append, isL_i, isL_r, isL_u, isL_2, cs_0, cs_i, cs_r, cs_l, cs_ii, cs_ir, cs_ri, cs_rr, cs_iir, cs_irr, rX2_whoAt, f2, hI, pk_mul, e1, e2, Nat.add_sub_cancel, nI_lt, nI_nlt, nI_le, nI_ge, nI_pos, pk_sub, nI_clamp, s2_ne, s2_o, s2_s, nI_add, inb_n, nI_nn, zq0, zq1, ↓reduceIte]
