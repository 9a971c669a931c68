/-! the class' scenes: acts -/
theorem zq0 : (nI 0 = 0) = True := by decide
theorem zq1 : (nI 1 = 0) = False := by decide
theorem nI_nneg {n : Nat} (h : n < 2 ^ 31) : ¬ nI n < 0 := by rw [← nI_0]; exact nI_nlt (Nat.zero_le _) h
/-- how wet all are at the beginning -/
def BgV (I : Im) (s : Nat) (h : Sp) (q : Qp) : Prop := (∀ b, b < hN h → I (s + 8 + 2) b = nI (qD q b) ∧ qC q b = 0) ∧ (∀ p, p < hP h → I (s + 1 + 5) p = nI (qP q p)) ∧ qS q = 0 ∧ qM q = 0 ∧ qL q = 0
theorem rn_begin {d a s : Nat} {h : Sp} {q : Qp} {G : Gm} {I : Im} (ha : Sc G a) (hs : Sh G s) (hd : offS a s) (hv : ShV I s h) (ho : SpOk h) (hg : BgV I s h q) :
    ∃ I', run d mX6_begin [.ref a, .ref s] G I = some (none, G, I') ∧ ScV I' a h q ∧ Fr (inSc a) I I' := by
  have hN6 := ho.1
  have hP6 := ho.2.1
  unfold offS at hd
  have ha_1 := ha.1; have ha_2 := ha.2.1; have ha_3 := ha.2.2.1; have ha_4 := ha.2.2.2.1; have ha_5 := ha.2.2.2.2.1; have ha_6 := ha.2.2.2.2.2.1; have ha_7 := ha.2.2.2.2.2.2; have hs_1 := hs.1; have hs_2 := hs.2.1; have hs_3 := hs.2.2.1; have hs_4 := hs.2.2.2.1; have hs_5 := hs.2.2.2.2.1; have hs_6 := hs.2.2.2.2.2.1; have hs_7 := (hs.2.2.2.2.2.2.1).1; have hs_8 := (hs.2.2.2.2.2.2.1).2.1; have hs_9 := (hs.2.2.2.2.2.2.1).2.2.1; have hs_10 := (hs.2.2.2.2.2.2.1).2.2.2.1; have hs_11 := (hs.2.2.2.2.2.2.1).2.2.2.2.1; have hs_12 := (hs.2.2.2.2.2.2.1).2.2.2.2.2.1; have hs_13 := (hs.2.2.2.2.2.2.1).2.2.2.2.2.2.1; have hs_14 := (hs.2.2.2.2.2.2.1).2.2.2.2.2.2.2.1; have hs_15 := (hs.2.2.2.2.2.2.1).2.2.2.2.2.2.2.2.1; have hs_16 := (hs.2.2.2.2.2.2.1).2.2.2.2.2.2.2.2.2.1; have hs_17 := (hs.2.2.2.2.2.2.1).2.2.2.2.2.2.2.2.2.2.1; have hs_18 := (hs.2.2.2.2.2.2.1).2.2.2.2.2.2.2.2.2.2.2.1; have hs_19 := (hs.2.2.2.2.2.2.1).2.2.2.2.2.2.2.2.2.2.2.2; have hs_20 := (hs.2.2.2.2.2.2.2.1).1; have hs_21 := (hs.2.2.2.2.2.2.2.1).2.1; have hs_22 := (hs.2.2.2.2.2.2.2.1).2.2.1; have hs_23 := (hs.2.2.2.2.2.2.2.1).2.2.2.1; have hs_24 := (hs.2.2.2.2.2.2.2.1).2.2.2.2.1; have hs_25 := (hs.2.2.2.2.2.2.2.1).2.2.2.2.2.1; have hs_26 := (hs.2.2.2.2.2.2.2.1).2.2.2.2.2.2.1; have hs_27 := (hs.2.2.2.2.2.2.2.1).2.2.2.2.2.2.2.1; have hs_28 := (hs.2.2.2.2.2.2.2.1).2.2.2.2.2.2.2.2.1; have hs_29 := (hs.2.2.2.2.2.2.2.1).2.2.2.2.2.2.2.2.2.1; have hs_30 := (hs.2.2.2.2.2.2.2.1).2.2.2.2.2.2.2.2.2.2.1; have hs_31 := (hs.2.2.2.2.2.2.2.1).2.2.2.2.2.2.2.2.2.2.2.1; have hs_32 := (hs.2.2.2.2.2.2.2.1).2.2.2.2.2.2.2.2.2.2.2.2; have hs_33 := hs.2.2.2.2.2.2.2.2.1; have hs_34 := hs.2.2.2.2.2.2.2.2.2.2
  obtain ⟨z, e1, p1, p2⟩ := chainE (fun k (z : Im) => ex d mX6_begin 2 [.val (.ref a), .val (.ref s), .val (.int (nI k))] [] G z) (fun k z => (∀ b, b < k → z (a + 1) b = nI (qD q b) ∧ z (a + 2) b = nI (qC q b)) ∧ Fr (inSc a) I z) (hN h) (fun b hb z hz => by
    obtain ⟨p1, p2⟩ := hz
    refine ⟨s2 (s2 z (a + 1) b (nI (qD q b))) (a + 2) b (nI 0), ?_, fun j hj => ?_, (p2.s2 (show inSc a (a + 1) from ⟨by omega, by omega⟩)).s2 (show inSc a (a + 2) from ⟨by omega, by omega⟩)⟩
    · have f1 := p2 (s + 8) (by unfold inSc; omega)
      have f2 := p2 (s + 8 + 2) (by unfold inSc; omega)
      have g1 := hg.1
      try dsimp only
      rw [xX6_begin_2]
      simp (disch := first | assumption | (simp (disch := omega) only [cK_some, ofR_some, ofR_none, Option.toList_some, Option.toList_none, List.cons_append, List.nil_append, isL_i, isL_r, isL_u, isL_2, cs_0, cs_i, cs_r, cs_l, cs_ii, cs_ir, cs_ri, cs_rr, cs_iir, cs_irr, ha_1, ha_2, ha_3, ha_4, ha_5, ha_6, ha_7, hs_1, hs_2, hs_3, hs_4, hs_5, hs_6, hs_7, hs_8, hs_9, hs_10, hs_11, hs_12, hs_13, hs_14, hs_15, hs_16, hs_17, hs_18, hs_19, hs_20, hs_21, hs_22, hs_23, hs_24, hs_25, hs_26, hs_27, hs_28, hs_29, hs_30, hs_31, hs_32, hs_33, hs_34, inb_n, n100, not_false_eq_true, isB_0, isB_1, nI_clamp, nI_nneg, Nat.zero_add, Nat.le_refl]; done) | omega) only [xX6_begin_0, xX6_begin_1, xX6_begin_3, xX6_begin_4, xX6_begin_7, xX6_begin_10, xX6_begin_13, xX6_begin_14, xX6_begin_17, xX6_begin_18, xX6_begin_19, xX6_begin_22, xX6_begin_25, xX6_begin_26, xX6_begin_27, xX6_begin_28, xX6_begin_29, xX6_begin_32, xX6_begin_33, xX6_begin_34, xX6_begin_35, xX6_begin_38, xX6_begin_41, xX6_begin_42, xX6_begin_43, xX6_begin_44, xX6_begin_45, xX6_begin_48, xX6_begin_51, xX6_begin_54, xX6_begin_55, xX6_begin_58, xX6_begin_59, xX6_begin_60, xX6_begin_63, xX6_begin_66, xX6_begin_67, xX6_begin_68, xX6_begin_69, xX6_begin_72, xX6_begin_75, xX6_begin_76, xX6_begin_77, xX6_begin_80, xX6_begin_81, xX6_begin_82, xX6_begin_85, xX6_begin_86, xX6_begin_87, xX6_begin_90, cK_some, ofR_some, ofR_none, Option.toList_some, Option.toList_none, List.cons_append, List.nil_append, isL_i, isL_r, isL_u, isL_2, cs_0, cs_i, cs_r, cs_l, cs_ii, cs_ir, cs_ri, cs_rr, cs_iir, cs_irr, ha_1, ha_2, ha_3, ha_4, ha_5, ha_6, ha_7, hs_1, hs_2, hs_3, hs_4, hs_5, hs_6, hs_7, hs_8, hs_9, hs_10, hs_11, hs_12, hs_13, hs_14, hs_15, hs_16, hs_17, hs_18, hs_19, hs_20, hs_21, hs_22, hs_23, hs_24, hs_25, hs_26, hs_27, hs_28, hs_29, hs_30, hs_31, hs_32, hs_33, hs_34, f1, f2, hv.1.1, g1, nI_lt, nI_clamp, s2_ne, s2_o, s2_s, nI_add, inb_n, nI_nn, zq0, zq1, ↓reduceIte]
    · have g2 := (hg.1 b hb).2
      by_cases e : j = b
      · subst e
        rw [s2_ne (show a + 1 ≠ a + 2 by omega), s2_s, s2_s, g2]
        exact ⟨rfl, rfl⟩
      · rw [s2_ne (show a + 1 ≠ a + 2 by omega), s2_o e, s2_o e, s2_ne (show a + 2 ≠ a + 1 by omega)]
        exact p1 j (by omega)) (I := I) ⟨fun j hj => absurd hj (by omega), Fr.rf⟩
  obtain ⟨y, e2, q1, q2, q3⟩ := chainE (fun k (z : Im) => ex d mX6_begin 43 [.val (.ref a), .val (.ref s), .val (.int (nI k))] [] G z) (fun k y => (∀ p, p < k → y (a + 3) p = nI (qP q p)) ∧ Fr (inSc a) I y ∧ y (a + 1) = z (a + 1) ∧ y (a + 2) = z (a + 2)) (hP h) (fun p hp y hy => by
    obtain ⟨q1, q2, q3⟩ := hy
    refine ⟨s2 y (a + 3) p (nI (qP q p)), ?_, fun j hj => ?_, q2.s2 (show inSc a (a + 3) from ⟨by omega, by omega⟩), ?_, ?_⟩
    · have f1 := q2 (s + 1) (by unfold inSc; omega)
      have f2 := q2 (s + 1 + 5) (by unfold inSc; omega)
      have g1 := hg.2.1
      try dsimp only
      rw [xX6_begin_43]
      simp (disch := first | assumption | (simp (disch := omega) only [cK_some, ofR_some, ofR_none, Option.toList_some, Option.toList_none, List.cons_append, List.nil_append, isL_i, isL_r, isL_u, isL_2, cs_0, cs_i, cs_r, cs_l, cs_ii, cs_ir, cs_ri, cs_rr, cs_iir, cs_irr, ha_1, ha_2, ha_3, ha_4, ha_5, ha_6, ha_7, hs_1, hs_2, hs_3, hs_4, hs_5, hs_6, hs_7, hs_8, hs_9, hs_10, hs_11, hs_12, hs_13, hs_14, hs_15, hs_16, hs_17, hs_18, hs_19, hs_20, hs_21, hs_22, hs_23, hs_24, hs_25, hs_26, hs_27, hs_28, hs_29, hs_30, hs_31, hs_32, hs_33, hs_34, inb_n, n100, not_false_eq_true, isB_0, isB_1, nI_clamp, nI_nneg, Nat.zero_add, Nat.le_refl]; done) | omega) only [xX6_begin_0, xX6_begin_1, xX6_begin_2, xX6_begin_3, xX6_begin_4, xX6_begin_7, xX6_begin_10, xX6_begin_13, xX6_begin_14, xX6_begin_17, xX6_begin_18, xX6_begin_19, xX6_begin_22, xX6_begin_25, xX6_begin_26, xX6_begin_27, xX6_begin_28, xX6_begin_29, xX6_begin_32, xX6_begin_33, xX6_begin_34, xX6_begin_35, xX6_begin_38, xX6_begin_41, xX6_begin_42, xX6_begin_44, xX6_begin_45, xX6_begin_48, xX6_begin_51, xX6_begin_54, xX6_begin_55, xX6_begin_58, xX6_begin_59, xX6_begin_60, xX6_begin_63, xX6_begin_66, xX6_begin_67, xX6_begin_68, xX6_begin_69, xX6_begin_72, xX6_begin_75, xX6_begin_76, xX6_begin_77, xX6_begin_80, xX6_begin_81, xX6_begin_82, xX6_begin_85, xX6_begin_86, xX6_begin_87, xX6_begin_90, cK_some, ofR_some, ofR_none, Option.toList_some, Option.toList_none, List.cons_append, List.nil_append, isL_i, isL_r, isL_u, isL_2, cs_0, cs_i, cs_r, cs_l, cs_ii, cs_ir, cs_ri, cs_rr, cs_iir, cs_irr, ha_1, ha_2, ha_3, ha_4, ha_5, ha_6, ha_7, hs_1, hs_2, hs_3, hs_4, hs_5, hs_6, hs_7, hs_8, hs_9, hs_10, hs_11, hs_12, hs_13, hs_14, hs_15, hs_16, hs_17, hs_18, hs_19, hs_20, hs_21, hs_22, hs_23, hs_24, hs_25, hs_26, hs_27, hs_28, hs_29, hs_30, hs_31, hs_32, hs_33, hs_34, f1, f2, hv.1.2.1, g1, nI_lt, nI_clamp, s2_ne, s2_o, s2_s, nI_add, inb_n, nI_nn, zq0, zq1, ↓reduceIte]
    · by_cases e : j = p
      · subst e
        rw [s2_s]
      · rw [s2_o e]
        exact q1 j (by omega)
    · rw [s2_ne (by omega)]; exact q3.1
    · rw [s2_ne (by omega)]; exact q3.2) (I := z) ⟨fun j hj => absurd hj (by omega), p2, rfl, rfl⟩
  try dsimp only at e1 e2
  have f1 := p2 (s + 8) (by unfold inSc; omega)
  have f2 := q2 (s + 1) (by unfold inSc; omega)
  refine ⟨s2 (s2 (s2 y a 3 (nI 0)) a 4 (nI 0)) a 5 (nI 0), ?_, ⟨fun b hb => ?_, fun p hp => ?_, ?_, ?_, ?_⟩, ((q2.s2 (show inSc a a from ⟨by omega, by omega⟩)).s2 (show inSc a a from ⟨by omega, by omega⟩)).s2 (show inSc a a from ⟨by omega, by omega⟩)⟩
  · simp only [rX6_begin, xX6_begin_0, xX6_begin_1, cK_some, ofR_some, ofR_none, Option.toList_some, Option.toList_none, List.cons_append, List.nil_append, isL_i, isL_r, isL_u, isL_2, cs_0, cs_i, cs_r, cs_l, cs_ii, cs_ir, cs_ri, cs_rr, cs_iir, cs_irr]
    rw [e1]
    simp only [xX6_begin_2, xX6_begin_3, xX6_begin_4, xX6_begin_7, xX6_begin_10, xX6_begin_13, xX6_begin_14, xX6_begin_17, xX6_begin_18, xX6_begin_19, xX6_begin_22, xX6_begin_25, xX6_begin_26, xX6_begin_27, xX6_begin_28, xX6_begin_29, xX6_begin_32, xX6_begin_33, xX6_begin_34, xX6_begin_35, xX6_begin_38, xX6_begin_41, xX6_begin_42, cK_some, ofR_some, ofR_none, Option.toList_some, Option.toList_none, List.cons_append, List.nil_append, isL_i, isL_r, isL_u, isL_2, cs_0, cs_i, cs_r, cs_l, cs_ii, cs_ir, cs_ri, cs_rr, cs_iir, cs_irr, hs.1, hs.2.1, hs.2.2.1, hs.2.2.2.1, hs.2.2.2.2.1, hs.2.2.2.2.2.1, (hs.2.2.2.2.2.2.1).1, (hs.2.2.2.2.2.2.1).2.1, (hs.2.2.2.2.2.2.1).2.2.1, (hs.2.2.2.2.2.2.1).2.2.2.1, (hs.2.2.2.2.2.2.1).2.2.2.2.1, (hs.2.2.2.2.2.2.1).2.2.2.2.2.1, (hs.2.2.2.2.2.2.1).2.2.2.2.2.2.1, (hs.2.2.2.2.2.2.1).2.2.2.2.2.2.2.1, (hs.2.2.2.2.2.2.1).2.2.2.2.2.2.2.2.1, (hs.2.2.2.2.2.2.1).2.2.2.2.2.2.2.2.2.1, (hs.2.2.2.2.2.2.1).2.2.2.2.2.2.2.2.2.2.1, (hs.2.2.2.2.2.2.1).2.2.2.2.2.2.2.2.2.2.2.1, (hs.2.2.2.2.2.2.1).2.2.2.2.2.2.2.2.2.2.2.2, (hs.2.2.2.2.2.2.2.1).1, (hs.2.2.2.2.2.2.2.1).2.1, (hs.2.2.2.2.2.2.2.1).2.2.1, (hs.2.2.2.2.2.2.2.1).2.2.2.1, (hs.2.2.2.2.2.2.2.1).2.2.2.2.1, (hs.2.2.2.2.2.2.2.1).2.2.2.2.2.1, (hs.2.2.2.2.2.2.2.1).2.2.2.2.2.2.1, (hs.2.2.2.2.2.2.2.1).2.2.2.2.2.2.2.1, (hs.2.2.2.2.2.2.2.1).2.2.2.2.2.2.2.2.1, (hs.2.2.2.2.2.2.2.1).2.2.2.2.2.2.2.2.2.1, (hs.2.2.2.2.2.2.2.1).2.2.2.2.2.2.2.2.2.2.1, (hs.2.2.2.2.2.2.2.1).2.2.2.2.2.2.2.2.2.2.2.1, (hs.2.2.2.2.2.2.2.1).2.2.2.2.2.2.2.2.2.2.2.2, hs.2.2.2.2.2.2.2.2.1, hs.2.2.2.2.2.2.2.2.2.2, f1, hv.1.1, nI_nn, ↓reduceIte]
    rw [e2]
    simp only [xX6_begin_43, xX6_begin_44, xX6_begin_45, xX6_begin_48, xX6_begin_51, xX6_begin_54, xX6_begin_55, xX6_begin_58, xX6_begin_59, xX6_begin_60, xX6_begin_63, xX6_begin_66, xX6_begin_67, xX6_begin_68, xX6_begin_69, xX6_begin_72, xX6_begin_75, xX6_begin_76, xX6_begin_77, xX6_begin_80, xX6_begin_81, xX6_begin_82, xX6_begin_85, xX6_begin_86, xX6_begin_87, xX6_begin_90, cK_some, ofR_some, ofR_none, Option.toList_some, Option.toList_none, List.cons_append, List.nil_append, isL_i, isL_r, isL_u, isL_2, cs_0, cs_i, cs_r, cs_l, cs_ii, cs_ir, cs_ri, cs_rr, cs_iir, cs_irr, ha.1, ha.2.1, ha.2.2.1, ha.2.2.2.1, ha.2.2.2.2.1, ha.2.2.2.2.2.1, ha.2.2.2.2.2.2, hs.1, hs.2.1, hs.2.2.1, hs.2.2.2.1, hs.2.2.2.2.1, hs.2.2.2.2.2.1, (hs.2.2.2.2.2.2.1).1, (hs.2.2.2.2.2.2.1).2.1, (hs.2.2.2.2.2.2.1).2.2.1, (hs.2.2.2.2.2.2.1).2.2.2.1, (hs.2.2.2.2.2.2.1).2.2.2.2.1, (hs.2.2.2.2.2.2.1).2.2.2.2.2.1, (hs.2.2.2.2.2.2.1).2.2.2.2.2.2.1, (hs.2.2.2.2.2.2.1).2.2.2.2.2.2.2.1, (hs.2.2.2.2.2.2.1).2.2.2.2.2.2.2.2.1, (hs.2.2.2.2.2.2.1).2.2.2.2.2.2.2.2.2.1, (hs.2.2.2.2.2.2.1).2.2.2.2.2.2.2.2.2.2.1, (hs.2.2.2.2.2.2.1).2.2.2.2.2.2.2.2.2.2.2.1, (hs.2.2.2.2.2.2.1).2.2.2.2.2.2.2.2.2.2.2.2, (hs.2.2.2.2.2.2.2.1).1, (hs.2.2.2.2.2.2.2.1).2.1, (hs.2.2.2.2.2.2.2.1).2.2.1, (hs.2.2.2.2.2.2.2.1).2.2.2.1, (hs.2.2.2.2.2.2.2.1).2.2.2.2.1, (hs.2.2.2.2.2.2.2.1).2.2.2.2.2.1, (hs.2.2.2.2.2.2.2.1).2.2.2.2.2.2.1, (hs.2.2.2.2.2.2.2.1).2.2.2.2.2.2.2.1, (hs.2.2.2.2.2.2.2.1).2.2.2.2.2.2.2.2.1, (hs.2.2.2.2.2.2.2.1).2.2.2.2.2.2.2.2.2.1, (hs.2.2.2.2.2.2.2.1).2.2.2.2.2.2.2.2.2.2.1, (hs.2.2.2.2.2.2.2.1).2.2.2.2.2.2.2.2.2.2.2.1, (hs.2.2.2.2.2.2.2.1).2.2.2.2.2.2.2.2.2.2.2.2, hs.2.2.2.2.2.2.2.2.1, hs.2.2.2.2.2.2.2.2.2.2, f2, hv.1.2.1, nI_nn, ↓reduceIte]
  · rw [s2_ne (by omega), s2_ne (by omega), s2_ne (by omega), s2_ne (by omega), s2_ne (by omega), s2_ne (by omega), q3.1, q3.2]
    exact p1 b hb
  · rw [s2_ne (by omega), s2_ne (by omega), s2_ne (by omega)]
    exact q1 p hp
  · rw [s2_o (by decide), s2_o (by decide), s2_s, hg.2.2.1]
  · rw [s2_o (by decide), s2_s, hg.2.2.2.1]
  · rw [s2_s, hg.2.2.2.2]; rfl
theorem Fr.to {S : Nat → Prop} {I I' : Im} (h : Fr S I I') {c : Nat} (hc : ¬ S c) : I' c = I c := h c hc
/-- the patches of a towel, the first k of them changed by f -/
def onT (h : Sp) (f : Nat → Nat) (P : Nat → Nat) (t k : Nat) : Nat → Nat := fun p => if hFirst h t ≤ p ∧ p < hFirst h t + k then f (P p) else P p
theorem onT_0 {h : Sp} {f P : Nat → Nat} {t : Nat} : onT h f P t 0 = P := by
  funext p
  unfold onT
  rw [if_neg (by omega)]
theorem onT_s {h : Sp} {f P : Nat → Nat} {t k : Nat} : onT h f P t (k + 1) = up (onT h f P t k) (hFirst h t + k) (f (P (hFirst h t + k))) := by
  funext p
  unfold onT up
  by_cases e : p = hFirst h t + k
  · subst e
    rw [if_pos ⟨by omega, by omega⟩, if_pos rfl]
  · rw [if_neg e]
    try dsimp only
    by_cases c : hFirst h t ≤ p ∧ p < hFirst h t + k
    · rw [if_pos ⟨c.1, by omega⟩, if_pos c]
    · rw [if_neg (by omega), if_neg c]
theorem onT_k {h : Sp} {f P : Nat → Nat} {t k : Nat} : onT h f P t k (hFirst h t + k) = P (hFirst h t + k) := by
  unfold onT
  rw [if_neg (by omega)]
theorem onT_ok {h : Sp} {f P : Nat → Nat} {t k : Nat} (hf : ∀ x, f x ≤ x) (p : Nat) : onT h f P t k p ≤ P p := by
  unfold onT
  split
  · exact hf _
  · exact Nat.le_refl _
def sunF (h : Sp) (x : Nat) : Nat := x - x * hSun h / 100
def wrgF (h : Sp) (x : Nat) : Nat := min x (hLeft h)
def goneT (h : Sp) (q : Qp) (t n : Nat) : Nat := fo 0 (fun m k => m + qP q (hFirst h t + k) * hSun h / 100) n
def shineP (h : Sp) (q : Qp) (t : Nat) : Qp := (qD q, qC q, onT h (sunF h) (qP q) t (hSize h t), qS q, qM q, qL q + nI (goneT h q t (hSize h t)))
theorem shineP_ok {h : Sp} {q : Qp} {t : Nat} (hq : QpOk h q) : QpOk h (shineP h q t) :=
  ⟨hq.1, fun p hp => Nat.le_trans (onT_ok (fun x => Nat.sub_le _ _) p) (hq.2.1 p hp), hq.2.2⟩
theorem rn_shine {d a s t : Nat} {h : Sp} {q : Qp} {G : Gm} {I : Im} (K : CT G I a s h q) (ht : t < hT h) :
    ∃ I', run (d + 1) mX6_shine [.ref a, .ref s, .int (nI t)] G I = some (some (.int (nI (goneT h q t (hSize h t)))), G, I') ∧ CT G I' a s h (shineP h q t) ∧ Fr (inSc a) I I' := by
  obtain ⟨ha, hs, hd, hv, ho, hq, hqo⟩ := id K
  have hP6 := ho.2.1
  have hT3 := ho.2.2.1
  have hSu : hSun h ≤ 50 := ho.2.2.2.2.2.2.2.1
  have ha_1 := ha.1; have ha_2 := ha.2.1; have ha_3 := ha.2.2.1; have ha_4 := ha.2.2.2.1; have ha_5 := ha.2.2.2.2.1; have ha_6 := ha.2.2.2.2.2.1; have ha_7 := ha.2.2.2.2.2.2; have hs_1 := hs.1; have hs_2 := hs.2.1; have hs_3 := hs.2.2.1; have hs_4 := hs.2.2.2.1; have hs_5 := hs.2.2.2.2.1; have hs_6 := hs.2.2.2.2.2.1; have hs_7 := (hs.2.2.2.2.2.2.1).1; have hs_8 := (hs.2.2.2.2.2.2.1).2.1; have hs_9 := (hs.2.2.2.2.2.2.1).2.2.1; have hs_10 := (hs.2.2.2.2.2.2.1).2.2.2.1; have hs_11 := (hs.2.2.2.2.2.2.1).2.2.2.2.1; have hs_12 := (hs.2.2.2.2.2.2.1).2.2.2.2.2.1; have hs_13 := (hs.2.2.2.2.2.2.1).2.2.2.2.2.2.1; have hs_14 := (hs.2.2.2.2.2.2.1).2.2.2.2.2.2.2.1; have hs_15 := (hs.2.2.2.2.2.2.1).2.2.2.2.2.2.2.2.1; have hs_16 := (hs.2.2.2.2.2.2.1).2.2.2.2.2.2.2.2.2.1; have hs_17 := (hs.2.2.2.2.2.2.1).2.2.2.2.2.2.2.2.2.2.1; have hs_18 := (hs.2.2.2.2.2.2.1).2.2.2.2.2.2.2.2.2.2.2.1; have hs_19 := (hs.2.2.2.2.2.2.1).2.2.2.2.2.2.2.2.2.2.2.2; have hs_20 := (hs.2.2.2.2.2.2.2.1).1; have hs_21 := (hs.2.2.2.2.2.2.2.1).2.1; have hs_22 := (hs.2.2.2.2.2.2.2.1).2.2.1; have hs_23 := (hs.2.2.2.2.2.2.2.1).2.2.2.1; have hs_24 := (hs.2.2.2.2.2.2.2.1).2.2.2.2.1; have hs_25 := (hs.2.2.2.2.2.2.2.1).2.2.2.2.2.1; have hs_26 := (hs.2.2.2.2.2.2.2.1).2.2.2.2.2.2.1; have hs_27 := (hs.2.2.2.2.2.2.2.1).2.2.2.2.2.2.2.1; have hs_28 := (hs.2.2.2.2.2.2.2.1).2.2.2.2.2.2.2.2.1; have hs_29 := (hs.2.2.2.2.2.2.2.1).2.2.2.2.2.2.2.2.2.1; have hs_30 := (hs.2.2.2.2.2.2.2.1).2.2.2.2.2.2.2.2.2.2.1; have hs_31 := (hs.2.2.2.2.2.2.2.1).2.2.2.2.2.2.2.2.2.2.2.1; have hs_32 := (hs.2.2.2.2.2.2.2.1).2.2.2.2.2.2.2.2.2.2.2.2; have hs_33 := hs.2.2.2.2.2.2.2.2.1; have hs_34 := hs.2.2.2.2.2.2.2.2.2.2
  obtain ⟨e1, e2, -⟩ := hv.2.2.2.1 t ht
  have hfs := (ho.2.2.2.2.2.2.2.2.2.2.1 t ht).1
  obtain ⟨z, f1, p1, p2⟩ := chainE (fun k (z : Im × Slot) => ex (d + 1) mX6_shine 13 [.val (.ref a), .val (.ref s), .val (.int (nI t)), .val (.int (nI (goneT h q t k))), .val (.int (nI (hFirst h t + k))), z.2] [] G z.1) (fun k (z : Im × Slot) => ScV z.1 a h (qD q, qC q, onT h (sunF h) (qP q) t k, qS q, qM q, qL q) ∧ Fr (inSc a) I z.1) (hSize h t) (fun k hk z hz => by
    obtain ⟨z1, z2⟩ := z
    obtain ⟨p1, p2⟩ := hz
    try dsimp only at p1 p2 ⊢
    have hvz := hv.sc p2 hd
    have hend := rn_endOf (d := d) hs hvz ho ht
    have b2 := hqo.2.1 (hFirst h t + k) (by omega)
    have b3 := hold99 ho (show hFirst h t + k < hP h by omega)
    have e3 := p1.2.1 (hFirst h t + k) (by omega)
    have e4 : qP (qD q, qC q, onT h (sunF h) (qP q) t k, qS q, qM q, qL q) (hFirst h t + k) = qP q (hFirst h t + k) := onT_k
    rw [e4] at e3
    have eS := hvz.2.1.2.2.2.2.1
    have fr := frac (D := qP q (hFirst h t + k)) (w := hSun h) (by omega) (by omega)
    have frl := frac_le (D := qP q (hFirst h t + k)) (w := hSun h) (by omega)
    have es : goneT h q t (k + 1) = goneT h q t k + qP q (hFirst h t + k) * hSun h / 100 := rfl
    refine ⟨(s2 z1 (a + 3) (hFirst h t + k) (nI (qP q (hFirst h t + k) - qP q (hFirst h t + k) * hSun h / 100)), .val (.int (nI (qP q (hFirst h t + k) * hSun h / 100)))), ?_, ?_, p2.s2 (show inSc a (a + 3) from ⟨by omega, by omega⟩)⟩
    · rw [xX6_shine_13, es]
      have hlt := nI_lt (show hFirst h t + k < hFirst h t + hSize h t by omega) (show hFirst h t + hSize h t < 2 ^ 31 by omega)
      have hsu := pk_sub frl
      simp (disch := first | assumption | (simp (disch := omega) only [cK_some, ofR_some, ofR_none, Option.toList_some, Option.toList_none, List.cons_append, List.nil_append, isL_i, isL_r, isL_u, isL_2, cs_0, cs_i, cs_r, cs_l, cs_ii, cs_ir, cs_ri, cs_rr, cs_iir, cs_irr, ha_1, ha_2, ha_3, ha_4, ha_5, ha_6, ha_7, hs_1, hs_2, hs_3, hs_4, hs_5, hs_6, hs_7, hs_8, hs_9, hs_10, hs_11, hs_12, hs_13, hs_14, hs_15, hs_16, hs_17, hs_18, hs_19, hs_20, hs_21, hs_22, hs_23, hs_24, hs_25, hs_26, hs_27, hs_28, hs_29, hs_30, hs_31, hs_32, hs_33, hs_34, inb_n, n100, not_false_eq_true, isB_0, isB_1, nI_clamp, nI_nneg, Nat.zero_add, Nat.le_refl]; done) | omega) only [xX6_shine_0, xX6_shine_1, xX6_shine_2, xX6_shine_3, xX6_shine_6, xX6_shine_9, xX6_shine_10, xX6_shine_11, xX6_shine_15, xX6_shine_16, xX6_shine_19, xX6_shine_20, xX6_shine_23, xX6_shine_26, xX6_shine_27, xX6_shine_30, xX6_shine_32, xX6_shine_33, xX6_shine_34, xX6_shine_37, xX6_shine_38, xX6_shine_40, xX6_shine_41, xX6_shine_43, xX6_shine_44, xX6_shine_47, xX6_shine_49, xX6_shine_50, xX6_shine_51, xX6_shine_53, xX6_shine_54, xX6_shine_55, xX6_shine_56, xX6_shine_58, xX6_shine_59, xX6_shine_60, xX6_shine_63, xX6_shine_66, xX6_shine_67i, xX6_shine_67r, xX6_shine_68, xX6_shine_71, xX6_shine_72, xX6_shine_73, xX6_shine_76, xX6_shine_77, cK_some, ofR_some, ofR_none, Option.toList_some, Option.toList_none, List.cons_append, List.nil_append, isL_i, isL_r, isL_u, isL_2, cs_0, cs_i, cs_r, cs_l, cs_ii, cs_ir, cs_ri, cs_rr, cs_iir, cs_irr, ha_1, ha_2, ha_3, ha_4, ha_5, ha_6, ha_7, hs_1, hs_2, hs_3, hs_4, hs_5, hs_6, hs_7, hs_8, hs_9, hs_10, hs_11, hs_12, hs_13, hs_14, hs_15, hs_16, hs_17, hs_18, hs_19, hs_20, hs_21, hs_22, hs_23, hs_24, hs_25, hs_26, hs_27, hs_28, hs_29, hs_30, hs_31, hs_32, hs_33, hs_34, hend, e3, eS, fr, hlt, hsu, Nat.add_assoc, nI_lt, nI_clamp, s2_ne, s2_o, s2_s, nI_add, inb_n, nI_nn, zq0, zq1, ↓reduceIte]
    · rw [onT_s]
      exact p1.setP) (I := (I, .unset)) ⟨by rw [onT_0]; exact hq, Fr.rf⟩
  try dsimp only at f1 p1 p2
  have hvz := hv.sc p2 hd
  have hend := rn_endOf (d := d) hs hvz ho ht
  have eL : z.1 a 5 = qL q := p1.2.2.2.2
  refine ⟨s2 z.1 a 5 (qL q + nI (goneT h q t (hSize h t))), ?_, K.to p1.setL (shineP_ok hqo) (p2.s2 (show inSc a a from ⟨by omega, by omega⟩)), p2.s2 (show inSc a a from ⟨by omega, by omega⟩)⟩
  simp (disch := first | assumption | (simp (disch := omega) only [cK_some, ofR_some, ofR_none, Option.toList_some, Option.toList_none, List.cons_append, List.nil_append, isL_i, isL_r, isL_u, isL_2, cs_0, cs_i, cs_r, cs_l, cs_ii, cs_ir, cs_ri, cs_rr, cs_iir, cs_irr, ha_1, ha_2, ha_3, ha_4, ha_5, ha_6, ha_7, hs_1, hs_2, hs_3, hs_4, hs_5, hs_6, hs_7, hs_8, hs_9, hs_10, hs_11, hs_12, hs_13, hs_14, hs_15, hs_16, hs_17, hs_18, hs_19, hs_20, hs_21, hs_22, hs_23, hs_24, hs_25, hs_26, hs_27, hs_28, hs_29, hs_30, hs_31, hs_32, hs_33, hs_34, inb_n, n100, not_false_eq_true, isB_0, isB_1, nI_clamp, nI_nneg, Nat.zero_add, Nat.le_refl]; done) | omega) only [xX6_shine_0, xX6_shine_1, xX6_shine_2, xX6_shine_3, xX6_shine_6, xX6_shine_9, xX6_shine_10, xX6_shine_11, cK_some, ofR_some, ofR_none, Option.toList_some, Option.toList_none, List.cons_append, List.nil_append, isL_i, isL_r, isL_u, isL_2, cs_0, cs_i, cs_r, cs_l, cs_ii, cs_ir, cs_ri, cs_rr, cs_iir, cs_irr, ha_1, ha_2, ha_3, ha_4, ha_5, ha_6, ha_7, hs_1, hs_2, hs_3, hs_4, hs_5, hs_6, hs_7, hs_8, hs_9, hs_10, hs_11, hs_12, hs_13, hs_14, hs_15, hs_16, hs_17, hs_18, hs_19, hs_20, hs_21, hs_22, hs_23, hs_24, hs_25, hs_26, hs_27, hs_28, hs_29, hs_30, hs_31, hs_32, hs_33, hs_34, rX6_shine, e2, nI_lt, nI_clamp, s2_ne, s2_o, s2_s, nI_add, inb_n, nI_nn, zq0, zq1, ↓reduceIte]
  refine Eq.trans f1 ?_
  rw [xX6_shine_13]
  simp (disch := first | assumption | (simp (disch := omega) only [cK_some, ofR_some, ofR_none, Option.toList_some, Option.toList_none, List.cons_append, List.nil_append, isL_i, isL_r, isL_u, isL_2, cs_0, cs_i, cs_r, cs_l, cs_ii, cs_ir, cs_ri, cs_rr, cs_iir, cs_irr, ha_1, ha_2, ha_3, ha_4, ha_5, ha_6, ha_7, hs_1, hs_2, hs_3, hs_4, hs_5, hs_6, hs_7, hs_8, hs_9, hs_10, hs_11, hs_12, hs_13, hs_14, hs_15, hs_16, hs_17, hs_18, hs_19, hs_20, hs_21, hs_22, hs_23, hs_24, hs_25, hs_26, hs_27, hs_28, hs_29, hs_30, hs_31, hs_32, hs_33, hs_34, inb_n, n100, not_false_eq_true, isB_0, isB_1, nI_clamp, nI_nneg, Nat.zero_add, Nat.le_refl]; done) | omega) only [xX6_shine_0, xX6_shine_1, xX6_shine_2, xX6_shine_3, xX6_shine_6, xX6_shine_9, xX6_shine_10, xX6_shine_11, xX6_shine_15, xX6_shine_16, xX6_shine_19, xX6_shine_20, xX6_shine_23, xX6_shine_26, xX6_shine_27, xX6_shine_30, xX6_shine_32, xX6_shine_33, xX6_shine_34, xX6_shine_37, xX6_shine_38, xX6_shine_40, xX6_shine_41, xX6_shine_43, xX6_shine_44, xX6_shine_47, xX6_shine_49, xX6_shine_50, xX6_shine_51, xX6_shine_53, xX6_shine_54, xX6_shine_55, xX6_shine_56, xX6_shine_58, xX6_shine_59, xX6_shine_60, xX6_shine_63, xX6_shine_66, xX6_shine_67i, xX6_shine_67r, xX6_shine_68, xX6_shine_71, xX6_shine_72, xX6_shine_73, xX6_shine_76, xX6_shine_77, cK_some, ofR_some, ofR_none, Option.toList_some, Option.toList_none, List.cons_append, List.nil_append, isL_i, isL_r, isL_u, isL_2, cs_0, cs_i, cs_r, cs_l, cs_ii, cs_ir, cs_ri, cs_rr, cs_iir, cs_irr, ha_1, ha_2, ha_3, ha_4, ha_5, ha_6, ha_7, hs_1, hs_2, hs_3, hs_4, hs_5, hs_6, hs_7, hs_8, hs_9, hs_10, hs_11, hs_12, hs_13, hs_14, hs_15, hs_16, hs_17, hs_18, hs_19, hs_20, hs_21, hs_22, hs_23, hs_24, hs_25, hs_26, hs_27, hs_28, hs_29, hs_30, hs_31, hs_32, hs_33, hs_34, hend, eL, nI_lt, nI_clamp, s2_ne, s2_o, s2_s, nI_add, inb_n, nI_nn, zq0, zq1, ↓reduceIte]
def wringP (h : Sp) (q : Qp) (t : Nat) : Qp := mins h (qD q, qC q, onT h (wrgF h) (qP q) t (hSize h t), qS q, qM q, qL q + nI (wrgT h q t (hSize h t))) (hWring h)
theorem wring_ok {h : Sp} {q : Qp} {t : Nat} {x : Int32} (hq : QpOk h q) : QpOk h (qD q, qC q, onT h (wrgF h) (qP q) t (hSize h t), qS q, qM q, x) :=
  ⟨hq.1, fun p hp => Nat.le_trans (onT_ok (fun x => Nat.min_le_left _ _) p) (hq.2.1 p hp), hq.2.2⟩
theorem wringP_ok {h : Sp} {q : Qp} {t : Nat} (hq : QpOk h q) : QpOk h (wringP h q t) := mins_ok _ (wring_ok hq)
theorem rn_doWring {d a s t : Nat} {h : Sp} {q : Qp} {G : Gm} {I : Im} (K : CT G I a s h q) (ht : t < hT h) :
    ∃ I', run (d + 2) mX6_doWring [.ref a, .ref s, .int (nI t)] G I = some (some (.int (nI (wrgT h q t (hSize h t)))), G, I') ∧ CT G I' a s h (wringP h q t) ∧ Fr (inSc a) I I' := by
  obtain ⟨ha, hs, hd, hv, ho, hq, hqo⟩ := id K
  have hP6 := ho.2.1
  have hT3 := ho.2.2.1
  have hL := ho.2.2.2.2.2.1
  have ha_1 := ha.1; have ha_2 := ha.2.1; have ha_3 := ha.2.2.1; have ha_4 := ha.2.2.2.1; have ha_5 := ha.2.2.2.2.1; have ha_6 := ha.2.2.2.2.2.1; have ha_7 := ha.2.2.2.2.2.2; have hs_1 := hs.1; have hs_2 := hs.2.1; have hs_3 := hs.2.2.1; have hs_4 := hs.2.2.2.1; have hs_5 := hs.2.2.2.2.1; have hs_6 := hs.2.2.2.2.2.1; have hs_7 := (hs.2.2.2.2.2.2.1).1; have hs_8 := (hs.2.2.2.2.2.2.1).2.1; have hs_9 := (hs.2.2.2.2.2.2.1).2.2.1; have hs_10 := (hs.2.2.2.2.2.2.1).2.2.2.1; have hs_11 := (hs.2.2.2.2.2.2.1).2.2.2.2.1; have hs_12 := (hs.2.2.2.2.2.2.1).2.2.2.2.2.1; have hs_13 := (hs.2.2.2.2.2.2.1).2.2.2.2.2.2.1; have hs_14 := (hs.2.2.2.2.2.2.1).2.2.2.2.2.2.2.1; have hs_15 := (hs.2.2.2.2.2.2.1).2.2.2.2.2.2.2.2.1; have hs_16 := (hs.2.2.2.2.2.2.1).2.2.2.2.2.2.2.2.2.1; have hs_17 := (hs.2.2.2.2.2.2.1).2.2.2.2.2.2.2.2.2.2.1; have hs_18 := (hs.2.2.2.2.2.2.1).2.2.2.2.2.2.2.2.2.2.2.1; have hs_19 := (hs.2.2.2.2.2.2.1).2.2.2.2.2.2.2.2.2.2.2.2; have hs_20 := (hs.2.2.2.2.2.2.2.1).1; have hs_21 := (hs.2.2.2.2.2.2.2.1).2.1; have hs_22 := (hs.2.2.2.2.2.2.2.1).2.2.1; have hs_23 := (hs.2.2.2.2.2.2.2.1).2.2.2.1; have hs_24 := (hs.2.2.2.2.2.2.2.1).2.2.2.2.1; have hs_25 := (hs.2.2.2.2.2.2.2.1).2.2.2.2.2.1; have hs_26 := (hs.2.2.2.2.2.2.2.1).2.2.2.2.2.2.1; have hs_27 := (hs.2.2.2.2.2.2.2.1).2.2.2.2.2.2.2.1; have hs_28 := (hs.2.2.2.2.2.2.2.1).2.2.2.2.2.2.2.2.1; have hs_29 := (hs.2.2.2.2.2.2.2.1).2.2.2.2.2.2.2.2.2.1; have hs_30 := (hs.2.2.2.2.2.2.2.1).2.2.2.2.2.2.2.2.2.2.1; have hs_31 := (hs.2.2.2.2.2.2.2.1).2.2.2.2.2.2.2.2.2.2.2.1; have hs_32 := (hs.2.2.2.2.2.2.2.1).2.2.2.2.2.2.2.2.2.2.2.2; have hs_33 := hs.2.2.2.2.2.2.2.2.1; have hs_34 := hs.2.2.2.2.2.2.2.2.2.2
  obtain ⟨e1, e2, -⟩ := hv.2.2.2.1 t ht
  have hfs := (ho.2.2.2.2.2.2.2.2.2.2.1 t ht).1
  have hwr := rn_wringable (d := d) K ht
  obtain ⟨z, f1, p1, p2⟩ := chainE (fun k (z : Im) => ex (d + 2) mX6_doWring 18 [.val (.ref a), .val (.ref s), .val (.int (nI t)), .val (.int (nI (wrgT h q t (hSize h t)))), .val (.int (nI (hFirst h t + k)))] [] G z) (fun k z => ScV z a h (qD q, qC q, onT h (wrgF h) (qP q) t k, qS q, qM q, qL q) ∧ Fr (inSc a) I z) (hSize h t) (fun k hk z hz => by
    obtain ⟨p1, p2⟩ := hz
    try dsimp only at p1 p2 ⊢
    have hvz := hv.sc p2 hd
    have hend := rn_endOf (d := d + 1) hs hvz ho ht
    have b2 := hqo.2.1 (hFirst h t + k) (by omega)
    have b3 := hold99 ho (show hFirst h t + k < hP h by omega)
    have e3 := p1.2.1 (hFirst h t + k) (by omega)
    have e4 : qP (qD q, qC q, onT h (wrgF h) (qP q) t k, qS q, qM q, qL q) (hFirst h t + k) = qP q (hFirst h t + k) := onT_k
    rw [e4] at e3
    have eS := hvz.2.1.2.2.1
    have em := nI_mn (y := hLeft h) (z := qP q (hFirst h t + k)) (by omega) (by omega)
    refine ⟨s2 z (a + 3) (hFirst h t + k) (nI (wrgF h (qP q (hFirst h t + k)))), ?_, ?_, p2.s2 (show inSc a (a + 3) from ⟨by omega, by omega⟩)⟩
    · rw [xX6_doWring_18]
      have hlt := nI_lt (show hFirst h t + k < hFirst h t + hSize h t by omega) (show hFirst h t + hSize h t < 2 ^ 31 by omega)
      simp (disch := first | assumption | (simp (disch := omega) only [cK_some, ofR_some, ofR_none, Option.toList_some, Option.toList_none, List.cons_append, List.nil_append, isL_i, isL_r, isL_u, isL_2, cs_0, cs_i, cs_r, cs_l, cs_ii, cs_ir, cs_ri, cs_rr, cs_iir, cs_irr, ha_1, ha_2, ha_3, ha_4, ha_5, ha_6, ha_7, hs_1, hs_2, hs_3, hs_4, hs_5, hs_6, hs_7, hs_8, hs_9, hs_10, hs_11, hs_12, hs_13, hs_14, hs_15, hs_16, hs_17, hs_18, hs_19, hs_20, hs_21, hs_22, hs_23, hs_24, hs_25, hs_26, hs_27, hs_28, hs_29, hs_30, hs_31, hs_32, hs_33, hs_34, inb_n, n100, not_false_eq_true, isB_0, isB_1, nI_clamp, nI_nneg, Nat.zero_add, Nat.le_refl]; done) | omega) only [xX6_doWring_0, xX6_doWring_1, xX6_doWring_2, xX6_doWring_3, xX6_doWring_6, xX6_doWring_7, xX6_doWring_8, xX6_doWring_11, xX6_doWring_14, xX6_doWring_15, xX6_doWring_16, xX6_doWring_20, xX6_doWring_21, xX6_doWring_24, xX6_doWring_25, xX6_doWring_28, xX6_doWring_31, xX6_doWring_32, xX6_doWring_35, xX6_doWring_37, xX6_doWring_38, xX6_doWring_41, xX6_doWring_43, xX6_doWring_44, xX6_doWring_45, xX6_doWring_48, xX6_doWring_51, xX6_doWring_52, xX6_doWring_55, xX6_doWring_58, xX6_doWring_59i, xX6_doWring_59r, xX6_doWring_60, xX6_doWring_63, xX6_doWring_64, xX6_doWring_65, xX6_doWring_68, xX6_doWring_69, xX6_doWring_70, xX6_doWring_71, xX6_doWring_74, xX6_doWring_77, xX6_doWring_78, cK_some, ofR_some, ofR_none, Option.toList_some, Option.toList_none, List.cons_append, List.nil_append, isL_i, isL_r, isL_u, isL_2, cs_0, cs_i, cs_r, cs_l, cs_ii, cs_ir, cs_ri, cs_rr, cs_iir, cs_irr, ha_1, ha_2, ha_3, ha_4, ha_5, ha_6, ha_7, hs_1, hs_2, hs_3, hs_4, hs_5, hs_6, hs_7, hs_8, hs_9, hs_10, hs_11, hs_12, hs_13, hs_14, hs_15, hs_16, hs_17, hs_18, hs_19, hs_20, hs_21, hs_22, hs_23, hs_24, hs_25, hs_26, hs_27, hs_28, hs_29, hs_30, hs_31, hs_32, hs_33, hs_34, hend, e3, eS, em, hlt, wrgF, Nat.add_assoc, nI_lt, nI_clamp, s2_ne, s2_o, s2_s, nI_add, inb_n, nI_nn, zq0, zq1, ↓reduceIte]
    · rw [onT_s]
      exact p1.setP) (I := I) ⟨by rw [onT_0]; exact hq, Fr.rf⟩
  try dsimp only at f1 p1 p2
  have hvz := hv.sc p2 hd
  have hend := rn_endOf (d := d + 1) hs hvz ho ht
  have eL : z a 5 = qL q := p1.2.2.2.2
  have hf2 : Fr (inSc a) I (s2 z a 5 (qL q + nI (wrgT h q t (hSize h t)))) := p2.s2 (show inSc a a from ⟨by omega, by omega⟩)
  have eW := (hv.sc hf2 hd).2.1.2.2.2.1
  obtain ⟨I', g1, g2, g3⟩ := rn_letPass (d := d) (n := hWring h) ha hs hd (hv.sc hf2 hd) ho p1.setL (wring_ok hqo) (by have := ho.2.2.2.2.2.2.1; omega)
  refine ⟨I', ?_, K.to g2 (wringP_ok hqo) (hf2.tr g3), hf2.tr g3⟩
  simp (disch := first | assumption | (simp (disch := omega) only [cK_some, ofR_some, ofR_none, Option.toList_some, Option.toList_none, List.cons_append, List.nil_append, isL_i, isL_r, isL_u, isL_2, cs_0, cs_i, cs_r, cs_l, cs_ii, cs_ir, cs_ri, cs_rr, cs_iir, cs_irr, ha_1, ha_2, ha_3, ha_4, ha_5, ha_6, ha_7, hs_1, hs_2, hs_3, hs_4, hs_5, hs_6, hs_7, hs_8, hs_9, hs_10, hs_11, hs_12, hs_13, hs_14, hs_15, hs_16, hs_17, hs_18, hs_19, hs_20, hs_21, hs_22, hs_23, hs_24, hs_25, hs_26, hs_27, hs_28, hs_29, hs_30, hs_31, hs_32, hs_33, hs_34, inb_n, n100, not_false_eq_true, isB_0, isB_1, nI_clamp, nI_nneg, Nat.zero_add, Nat.le_refl]; done) | omega) only [xX6_doWring_0, xX6_doWring_1, xX6_doWring_2, xX6_doWring_3, xX6_doWring_6, xX6_doWring_7, xX6_doWring_8, xX6_doWring_11, xX6_doWring_14, xX6_doWring_15, xX6_doWring_16, cK_some, ofR_some, ofR_none, Option.toList_some, Option.toList_none, List.cons_append, List.nil_append, isL_i, isL_r, isL_u, isL_2, cs_0, cs_i, cs_r, cs_l, cs_ii, cs_ir, cs_ri, cs_rr, cs_iir, cs_irr, ha_1, ha_2, ha_3, ha_4, ha_5, ha_6, ha_7, hs_1, hs_2, hs_3, hs_4, hs_5, hs_6, hs_7, hs_8, hs_9, hs_10, hs_11, hs_12, hs_13, hs_14, hs_15, hs_16, hs_17, hs_18, hs_19, hs_20, hs_21, hs_22, hs_23, hs_24, hs_25, hs_26, hs_27, hs_28, hs_29, hs_30, hs_31, hs_32, hs_33, hs_34, rX6_doWring, hwr, e2, nI_lt, nI_clamp, s2_ne, s2_o, s2_s, nI_add, inb_n, nI_nn, zq0, zq1, ↓reduceIte]
  refine Eq.trans f1 ?_
  rw [xX6_doWring_18]
  simp (disch := first | assumption | (simp (disch := omega) only [cK_some, ofR_some, ofR_none, Option.toList_some, Option.toList_none, List.cons_append, List.nil_append, isL_i, isL_r, isL_u, isL_2, cs_0, cs_i, cs_r, cs_l, cs_ii, cs_ir, cs_ri, cs_rr, cs_iir, cs_irr, ha_1, ha_2, ha_3, ha_4, ha_5, ha_6, ha_7, hs_1, hs_2, hs_3, hs_4, hs_5, hs_6, hs_7, hs_8, hs_9, hs_10, hs_11, hs_12, hs_13, hs_14, hs_15, hs_16, hs_17, hs_18, hs_19, hs_20, hs_21, hs_22, hs_23, hs_24, hs_25, hs_26, hs_27, hs_28, hs_29, hs_30, hs_31, hs_32, hs_33, hs_34, inb_n, n100, not_false_eq_true, isB_0, isB_1, nI_clamp, nI_nneg, Nat.zero_add, Nat.le_refl]; done) | omega) only [xX6_doWring_0, xX6_doWring_1, xX6_doWring_2, xX6_doWring_3, xX6_doWring_6, xX6_doWring_7, xX6_doWring_8, xX6_doWring_11, xX6_doWring_14, xX6_doWring_15, xX6_doWring_16, xX6_doWring_20, xX6_doWring_21, xX6_doWring_24, xX6_doWring_25, xX6_doWring_28, xX6_doWring_31, xX6_doWring_32, xX6_doWring_35, xX6_doWring_37, xX6_doWring_38, xX6_doWring_41, xX6_doWring_43, xX6_doWring_44, xX6_doWring_45, xX6_doWring_48, xX6_doWring_51, xX6_doWring_52, xX6_doWring_55, xX6_doWring_58, xX6_doWring_59i, xX6_doWring_59r, xX6_doWring_60, xX6_doWring_63, xX6_doWring_64, xX6_doWring_65, xX6_doWring_68, xX6_doWring_69, xX6_doWring_70, xX6_doWring_71, xX6_doWring_74, xX6_doWring_77, xX6_doWring_78, cK_some, ofR_some, ofR_none, Option.toList_some, Option.toList_none, List.cons_append, List.nil_append, isL_i, isL_r, isL_u, isL_2, cs_0, cs_i, cs_r, cs_l, cs_ii, cs_ir, cs_ri, cs_rr, cs_iir, cs_irr, ha_1, ha_2, ha_3, ha_4, ha_5, ha_6, ha_7, hs_1, hs_2, hs_3, hs_4, hs_5, hs_6, hs_7, hs_8, hs_9, hs_10, hs_11, hs_12, hs_13, hs_14, hs_15, hs_16, hs_17, hs_18, hs_19, hs_20, hs_21, hs_22, hs_23, hs_24, hs_25, hs_26, hs_27, hs_28, hs_29, hs_30, hs_31, hs_32, hs_33, hs_34, hend, eL, eW, g1, nI_lt, nI_clamp, s2_ne, s2_o, s2_s, nI_add, inb_n, nI_nn, zq0, zq1, ↓reduceIte]
def goneN (h : Sp) (q : Qp) (t n : Nat) : Nat × Qp := fo (0, q) (fun z _ => (z.1 + goneT h z.2 t (hSize h t), mins h (shineP h z.2 t) 1)) n
def hangP (h : Sp) (q : Qp) (t n : Nat) : Qp := (goneN h q t n).2
theorem hangP_ok {h : Sp} {q : Qp} {t n : Nat} (hq : QpOk h q) : QpOk h (hangP h q t n) := by
  induction n with
  | zero => exact hq
  | succ n ih => exact mins_ok _ (shineP_ok ih)
theorem rn_doHang {d a s t n : Nat} {h : Sp} {q : Qp} {G : Gm} {I : Im} (K : CT G I a s h q) (ht : t < hT h) (hn : n < 2 ^ 31) :
    ∃ I', run (d + 2) mX6_doHang [.ref a, .ref s, .int (nI t), .int (nI n)] G I = some (some (.int (nI (goneN h q t n).1)), G, I') ∧ CT G I' a s h (hangP h q t n) ∧ Fr (inSc a) I I' := by
  obtain ⟨ha, hs, hd, hv, ho, hq, hqo⟩ := id K
  have ha_1 := ha.1; have ha_2 := ha.2.1; have ha_3 := ha.2.2.1; have ha_4 := ha.2.2.2.1; have ha_5 := ha.2.2.2.2.1; have ha_6 := ha.2.2.2.2.2.1; have ha_7 := ha.2.2.2.2.2.2; have hs_1 := hs.1; have hs_2 := hs.2.1; have hs_3 := hs.2.2.1; have hs_4 := hs.2.2.2.1; have hs_5 := hs.2.2.2.2.1; have hs_6 := hs.2.2.2.2.2.1; have hs_7 := (hs.2.2.2.2.2.2.1).1; have hs_8 := (hs.2.2.2.2.2.2.1).2.1; have hs_9 := (hs.2.2.2.2.2.2.1).2.2.1; have hs_10 := (hs.2.2.2.2.2.2.1).2.2.2.1; have hs_11 := (hs.2.2.2.2.2.2.1).2.2.2.2.1; have hs_12 := (hs.2.2.2.2.2.2.1).2.2.2.2.2.1; have hs_13 := (hs.2.2.2.2.2.2.1).2.2.2.2.2.2.1; have hs_14 := (hs.2.2.2.2.2.2.1).2.2.2.2.2.2.2.1; have hs_15 := (hs.2.2.2.2.2.2.1).2.2.2.2.2.2.2.2.1; have hs_16 := (hs.2.2.2.2.2.2.1).2.2.2.2.2.2.2.2.2.1; have hs_17 := (hs.2.2.2.2.2.2.1).2.2.2.2.2.2.2.2.2.2.1; have hs_18 := (hs.2.2.2.2.2.2.1).2.2.2.2.2.2.2.2.2.2.2.1; have hs_19 := (hs.2.2.2.2.2.2.1).2.2.2.2.2.2.2.2.2.2.2.2; have hs_20 := (hs.2.2.2.2.2.2.2.1).1; have hs_21 := (hs.2.2.2.2.2.2.2.1).2.1; have hs_22 := (hs.2.2.2.2.2.2.2.1).2.2.1; have hs_23 := (hs.2.2.2.2.2.2.2.1).2.2.2.1; have hs_24 := (hs.2.2.2.2.2.2.2.1).2.2.2.2.1; have hs_25 := (hs.2.2.2.2.2.2.2.1).2.2.2.2.2.1; have hs_26 := (hs.2.2.2.2.2.2.2.1).2.2.2.2.2.2.1; have hs_27 := (hs.2.2.2.2.2.2.2.1).2.2.2.2.2.2.2.1; have hs_28 := (hs.2.2.2.2.2.2.2.1).2.2.2.2.2.2.2.2.1; have hs_29 := (hs.2.2.2.2.2.2.2.1).2.2.2.2.2.2.2.2.2.1; have hs_30 := (hs.2.2.2.2.2.2.2.1).2.2.2.2.2.2.2.2.2.2.1; have hs_31 := (hs.2.2.2.2.2.2.2.1).2.2.2.2.2.2.2.2.2.2.2.1; have hs_32 := (hs.2.2.2.2.2.2.2.1).2.2.2.2.2.2.2.2.2.2.2.2; have hs_33 := hs.2.2.2.2.2.2.2.2.1; have hs_34 := hs.2.2.2.2.2.2.2.2.2.2
  obtain ⟨z, f1, p1, p2⟩ := chainE (fun k (z : Im) => ex (d + 2) mX6_doHang 6 [.val (.ref a), .val (.ref s), .val (.int (nI t)), .val (.int (nI n)), .val (.int (nI (goneN h q t k).1)), .val (.int (nI k))] [] G z) (fun k z => CT G z a s h (hangP h q t k) ∧ Fr (inSc a) I z) n (fun k hk z hz => by
    obtain ⟨p1, p2⟩ := hz
    obtain ⟨y, g1, g2, g3⟩ := rn_shine (d := d) p1 ht
    obtain ⟨-, -, -, hvy, -, hqy, hqoy⟩ := id g2
    obtain ⟨x, i1, i2, i3⟩ := rn_letPass (d := d) (n := 1) ha hs hd hvy ho hqy hqoy (by omega)
    refine ⟨x, ?_, g2.to i2 (mins_ok _ hqoy) i3, p2.tr (g3.tr i3)⟩
    have es : (goneN h q t (k + 1)).1 = (goneN h q t k).1 + goneT h (hangP h q t k) t (hSize h t) := rfl
    try dsimp only
    rw [xX6_doHang_6, es]
    simp (disch := first | assumption | (simp (disch := omega) only [cK_some, ofR_some, ofR_none, Option.toList_some, Option.toList_none, List.cons_append, List.nil_append, isL_i, isL_r, isL_u, isL_2, cs_0, cs_i, cs_r, cs_l, cs_ii, cs_ir, cs_ri, cs_rr, cs_iir, cs_irr, ha_1, ha_2, ha_3, ha_4, ha_5, ha_6, ha_7, hs_1, hs_2, hs_3, hs_4, hs_5, hs_6, hs_7, hs_8, hs_9, hs_10, hs_11, hs_12, hs_13, hs_14, hs_15, hs_16, hs_17, hs_18, hs_19, hs_20, hs_21, hs_22, hs_23, hs_24, hs_25, hs_26, hs_27, hs_28, hs_29, hs_30, hs_31, hs_32, hs_33, hs_34, inb_n, n100, not_false_eq_true, isB_0, isB_1, nI_clamp, nI_nneg, Nat.zero_add, Nat.le_refl]; done) | omega) only [xX6_doHang_0, xX6_doHang_1, xX6_doHang_3, xX6_doHang_4, xX6_doHang_8, xX6_doHang_9, xX6_doHang_12, xX6_doHang_14, xX6_doHang_15, xX6_doHang_16, xX6_doHang_17, xX6_doHang_20, xX6_doHang_21, xX6_doHang_23, xX6_doHang_24, xX6_doHang_25, xX6_doHang_26, xX6_doHang_29, xX6_doHang_32, xX6_doHang_35, xX6_doHang_37, cK_some, ofR_some, ofR_none, Option.toList_some, Option.toList_none, List.cons_append, List.nil_append, isL_i, isL_r, isL_u, isL_2, cs_0, cs_i, cs_r, cs_l, cs_ii, cs_ir, cs_ri, cs_rr, cs_iir, cs_irr, ha_1, ha_2, ha_3, ha_4, ha_5, ha_6, ha_7, hs_1, hs_2, hs_3, hs_4, hs_5, hs_6, hs_7, hs_8, hs_9, hs_10, hs_11, hs_12, hs_13, hs_14, hs_15, hs_16, hs_17, hs_18, hs_19, hs_20, hs_21, hs_22, hs_23, hs_24, hs_25, hs_26, hs_27, hs_28, hs_29, hs_30, hs_31, hs_32, hs_33, hs_34, g1, i1, nI_lt, nI_clamp, s2_ne, s2_o, s2_s, nI_add, inb_n, nI_nn, zq0, zq1, ↓reduceIte]) (I := I) ⟨K, Fr.rf⟩
  refine ⟨z, ?_, p1, p2⟩
  simp (disch := first | assumption | (simp (disch := omega) only [cK_some, ofR_some, ofR_none, Option.toList_some, Option.toList_none, List.cons_append, List.nil_append, isL_i, isL_r, isL_u, isL_2, cs_0, cs_i, cs_r, cs_l, cs_ii, cs_ir, cs_ri, cs_rr, cs_iir, cs_irr, ha_1, ha_2, ha_3, ha_4, ha_5, ha_6, ha_7, hs_1, hs_2, hs_3, hs_4, hs_5, hs_6, hs_7, hs_8, hs_9, hs_10, hs_11, hs_12, hs_13, hs_14, hs_15, hs_16, hs_17, hs_18, hs_19, hs_20, hs_21, hs_22, hs_23, hs_24, hs_25, hs_26, hs_27, hs_28, hs_29, hs_30, hs_31, hs_32, hs_33, hs_34, inb_n, n100, not_false_eq_true, isB_0, isB_1, nI_clamp, nI_nneg, Nat.zero_add, Nat.le_refl]; done) | omega) only [xX6_doHang_0, xX6_doHang_1, xX6_doHang_3, xX6_doHang_4, cK_some, ofR_some, ofR_none, Option.toList_some, Option.toList_none, List.cons_append, List.nil_append, isL_i, isL_r, isL_u, isL_2, cs_0, cs_i, cs_r, cs_l, cs_ii, cs_ir, cs_ri, cs_rr, cs_iir, cs_irr, ha_1, ha_2, ha_3, ha_4, ha_5, ha_6, ha_7, hs_1, hs_2, hs_3, hs_4, hs_5, hs_6, hs_7, hs_8, hs_9, hs_10, hs_11, hs_12, hs_13, hs_14, hs_15, hs_16, hs_17, hs_18, hs_19, hs_20, hs_21, hs_22, hs_23, hs_24, hs_25, hs_26, hs_27, hs_28, hs_29, hs_30, hs_31, hs_32, hs_33, hs_34, rX6_doHang, nI_lt, nI_clamp, s2_ne, s2_o, s2_s, nI_add, inb_n, nI_nn, zq0, zq1, ↓reduceIte]
  refine Eq.trans f1 ?_
  rw [xX6_doHang_6]
  simp (disch := first | assumption | (simp (disch := omega) only [cK_some, ofR_some, ofR_none, Option.toList_some, Option.toList_none, List.cons_append, List.nil_append, isL_i, isL_r, isL_u, isL_2, cs_0, cs_i, cs_r, cs_l, cs_ii, cs_ir, cs_ri, cs_rr, cs_iir, cs_irr, ha_1, ha_2, ha_3, ha_4, ha_5, ha_6, ha_7, hs_1, hs_2, hs_3, hs_4, hs_5, hs_6, hs_7, hs_8, hs_9, hs_10, hs_11, hs_12, hs_13, hs_14, hs_15, hs_16, hs_17, hs_18, hs_19, hs_20, hs_21, hs_22, hs_23, hs_24, hs_25, hs_26, hs_27, hs_28, hs_29, hs_30, hs_31, hs_32, hs_33, hs_34, inb_n, n100, not_false_eq_true, isB_0, isB_1, nI_clamp, nI_nneg, Nat.zero_add, Nat.le_refl]; done) | omega) only [xX6_doHang_0, xX6_doHang_1, xX6_doHang_3, xX6_doHang_4, xX6_doHang_8, xX6_doHang_9, xX6_doHang_12, xX6_doHang_14, xX6_doHang_15, xX6_doHang_16, xX6_doHang_17, xX6_doHang_20, xX6_doHang_21, xX6_doHang_23, xX6_doHang_24, xX6_doHang_25, xX6_doHang_26, xX6_doHang_29, xX6_doHang_32, xX6_doHang_35, xX6_doHang_37, cK_some, ofR_some, ofR_none, Option.toList_some, Option.toList_none, List.cons_append, List.nil_append, isL_i, isL_r, isL_u, isL_2, cs_0, cs_i, cs_r, cs_l, cs_ii, cs_ir, cs_ri, cs_rr, cs_iir, cs_irr, ha_1, ha_2, ha_3, ha_4, ha_5, ha_6, ha_7, hs_1, hs_2, hs_3, hs_4, hs_5, hs_6, hs_7, hs_8, hs_9, hs_10, hs_11, hs_12, hs_13, hs_14, hs_15, hs_16, hs_17, hs_18, hs_19, hs_20, hs_21, hs_22, hs_23, hs_24, hs_25, hs_26, hs_27, hs_28, hs_29, hs_30, hs_31, hs_32, hs_33, hs_34, nI_lt, nI_clamp, s2_ne, s2_o, s2_s, nI_add, inb_n, nI_nn, zq0, zq1, ↓reduceIte]
def offSc (a c : Nat) : Prop := a + 3 < c ∨ c + 3 < a
theorem cpy6 {f g : Nat → Int32} {j : Nat} (h : j < 6) : va_cpy f g (nI 0).toNatClampNeg (nI 0).toNatClampNeg (nI 6).toNatClampNeg j = f j := by
  rw [nI_clamp (by omega), nI_clamp (by omega)]
  unfold va_cpy
  rw [if_pos ⟨by omega, by omega⟩]
  congr 1
  omega
theorem rn_copy {d a c s : Nat} {h : Sp} {q : Qp} {G : Gm} {I : Im} (K : CT G I c s h q) (ha : Sc G a) (hd : offS a s) (hac : offSc a c) :
    ∃ I', run d mX6_copy [.ref a, .ref c] G I = some (none, G, I') ∧ CT G I' a s h q ∧ Fr (inSc a) I I' := by
  obtain ⟨hc, hs, hdc, hv, ho, hq, hqo⟩ := id K
  have hN6 := ho.1
  have hP6 := ho.2.1
  unfold offSc at hac
  have ha_1 := ha.1; have ha_2 := ha.2.1; have ha_3 := ha.2.2.1; have ha_4 := ha.2.2.2.1; have ha_5 := ha.2.2.2.2.1; have ha_6 := ha.2.2.2.2.2.1; have ha_7 := ha.2.2.2.2.2.2; have hc_1 := hc.1; have hc_2 := hc.2.1; have hc_3 := hc.2.2.1; have hc_4 := hc.2.2.2.1; have hc_5 := hc.2.2.2.2.1; have hc_6 := hc.2.2.2.2.2.1; have hc_7 := hc.2.2.2.2.2.2
  have hf : Fr (inSc a) I (s2 (s2 (s2 (s1 (s1 (s1 I (a + 1) (va_cpy (I (c + 1)) (I (a + 1)) (nI 0).toNatClampNeg (nI 0).toNatClampNeg (nI 6).toNatClampNeg)) (a + 2) (va_cpy (I (c + 2)) (I (a + 2)) (nI 0).toNatClampNeg (nI 0).toNatClampNeg (nI 6).toNatClampNeg)) (a + 3) (va_cpy (I (c + 3)) (I (a + 3)) (nI 0).toNatClampNeg (nI 0).toNatClampNeg (nI 6).toNatClampNeg)) a 3 (I c 3)) a 4 (I c 4)) a 5 (I c 5)) :=
    (((((Fr.rf.s1 (show inSc a (a + 1) from ⟨by omega, by omega⟩)).s1 (show inSc a (a + 2) from ⟨by omega, by omega⟩)).s1 (show inSc a (a + 3) from ⟨by omega, by omega⟩)).s2 (show inSc a a from ⟨by omega, by omega⟩)).s2 (show inSc a a from ⟨by omega, by omega⟩)).s2 (show inSc a a from ⟨by omega, by omega⟩)
  refine ⟨_, ?_, ⟨ha, hs, hd, hv.sc hf hd, ho, ⟨fun b hb => ⟨?_, ?_⟩, fun p hp => ?_, ?_, ?_, ?_⟩, hqo⟩, hf⟩
  · rw [rX6_copy]
    simp (disch := first | assumption | (simp (disch := omega) only [cK_some, ofR_some, ofR_none, Option.toList_some, Option.toList_none, List.cons_append, List.nil_append, isL_i, isL_r, isL_u, isL_2, cs_0, cs_i, cs_r, cs_l, cs_ii, cs_ir, cs_ri, cs_rr, cs_iir, cs_irr, ha_1, ha_2, ha_3, ha_4, ha_5, ha_6, ha_7, hc_1, hc_2, hc_3, hc_4, hc_5, hc_6, hc_7, inb_n, n100, not_false_eq_true, isB_0, isB_1, nI_clamp, nI_nneg, Nat.zero_add, Nat.le_refl]; done) | omega) only [xX6_copy_0, xX6_copy_1, xX6_copy_4, xX6_copy_5, xX6_copy_6, xX6_copy_9, xX6_copy_10, xX6_copy_12, xX6_copy_15, xX6_copy_16, xX6_copy_19, xX6_copy_20, xX6_copy_21, xX6_copy_24, xX6_copy_25, xX6_copy_27, xX6_copy_30, xX6_copy_31, xX6_copy_34, xX6_copy_35, xX6_copy_36, xX6_copy_39, xX6_copy_40, xX6_copy_42, xX6_copy_45, xX6_copy_46, xX6_copy_47, xX6_copy_50, xX6_copy_53, xX6_copy_54, xX6_copy_55, xX6_copy_58, xX6_copy_61, xX6_copy_62, xX6_copy_63, xX6_copy_66, xX6_copy_69, cK_some, ofR_some, ofR_none, Option.toList_some, Option.toList_none, List.cons_append, List.nil_append, isL_i, isL_r, isL_u, isL_2, cs_0, cs_i, cs_r, cs_l, cs_ii, cs_ir, cs_ri, cs_rr, cs_iir, cs_irr, ha_1, ha_2, ha_3, ha_4, ha_5, ha_6, ha_7, hc_1, hc_2, hc_3, hc_4, hc_5, hc_6, hc_7, s1_o, nI_lt, nI_clamp, s2_ne, s2_o, s2_s, nI_add, inb_n, nI_nn, zq0, zq1, ↓reduceIte]
  · simp (disch := omega) only [s2_ne, s1_o, s1_s, cpy6]
    exact (hq.1 b hb).1
  · simp (disch := omega) only [s2_ne, s1_o, s1_s, cpy6]
    exact (hq.1 b hb).2
  · simp (disch := omega) only [s2_ne, s1_o, s1_s, cpy6]
    exact hq.2.1 p hp
  · rw [s2_o (by decide), s2_o (by decide), s2_s]; exact hq.2.2.1
  · rw [s2_o (by decide), s2_s]; exact hq.2.2.2.1
  · rw [s2_s]; exact hq.2.2.2.2
theorem shk : ∀ S : Fin 64, ∀ b : Fin 6, nI S ||| (nI 1 <<< (nI b &&& 31)) = nI (S ||| 2 ^ (b : Nat)) ∧ (S : Nat) ||| 2 ^ (b : Nat) < 64 := by decide +kernel
/-- behind a shake -/
def shakeD (h : Sp) (q : Qp) (b : Nat) : Nat → Nat := if hKind h b = 2 then (fun j => if j = b then qD q b / 2 else min 99 (qD q j + 1)) else up (qD q) b (qD q b - 1)
def shakeP (h : Sp) (q : Qp) (b : Nat) : Qp := if qS q / 2 ^ b % 2 = 1 then q else
  (shakeD h q b, qC q, qP q, qS q ||| 2 ^ b, qM q, qL q + (nI (sumD q (hN h)) - nI (fo 0 (fun m k => m + shakeD h q b k) (hN h))))
theorem shakeD_le {h : Sp} {q : Qp} {b : Nat} (hq : QpOk h q) (hb : b < hN h) : ∀ j, j < hN h → shakeD h q b j ≤ 99 := by
  intro j hj
  have h1 := hq.1 b hb
  have h2 := hq.1 j hj
  unfold shakeD
  split
  · try dsimp only
    split
    · omega
    · omega
  · unfold up
    split
    · omega
    · omega
theorem shakeP_ok {h : Sp} {q : Qp} {b : Nat} (ho : SpOk h) (hq : QpOk h q) (hb : b < hN h) : QpOk h (shakeP h q b) := by
  have hN6 := ho.1
  unfold shakeP
  split
  · exact hq
  · exact ⟨shakeD_le hq hb, hq.2.1, (shk ⟨qS q, hq.2.2⟩ ⟨b, by omega⟩).2⟩
theorem fo_eq {α : Type} {a0 : α} {f g : α → Nat → α} : ∀ {n : Nat}, (∀ m k, k < n → f m k = g m k) → fo a0 f n = fo a0 g n
  | 0, _ => rfl
  | n + 1, h => by
    show f (fo a0 f n) n = g (fo a0 g n) n
    rw [fo_eq (fun m k hk => h m k (Nat.lt_succ_of_lt hk)), h _ _ (Nat.lt_succ_self n)]
theorem sumD_eq {q q' : Qp} {n : Nat} (h : ∀ k, k < n → qD q k = qD q' k) : sumD q n = sumD q' n := fo_eq (fun m k hk => by rw [h k hk])
theorem rn_doShake {d a s b : Nat} {h : Sp} {q : Qp} {G : Gm} {I : Im} (K : CT G I a s h q) (hb : b < hN h) :
    ∃ I', run (d + 1) mX6_doShake [.ref a, .ref s, .int (nI b)] G I = some (none, G, I') ∧ CT G I' a s h (shakeP h q b) ∧ Fr (inSc a) I I' := by
  obtain ⟨ha, hs, hd, hv, ho, hq, hqo⟩ := id K
  have hN6 := ho.1
  have ha_1 := ha.1; have ha_2 := ha.2.1; have ha_3 := ha.2.2.1; have ha_4 := ha.2.2.2.1; have ha_5 := ha.2.2.2.2.1; have ha_6 := ha.2.2.2.2.2.1; have ha_7 := ha.2.2.2.2.2.2; have hs_1 := hs.1; have hs_2 := hs.2.1; have hs_3 := hs.2.2.1; have hs_4 := hs.2.2.2.1; have hs_5 := hs.2.2.2.2.1; have hs_6 := hs.2.2.2.2.2.1; have hs_7 := (hs.2.2.2.2.2.2.1).1; have hs_8 := (hs.2.2.2.2.2.2.1).2.1; have hs_9 := (hs.2.2.2.2.2.2.1).2.2.1; have hs_10 := (hs.2.2.2.2.2.2.1).2.2.2.1; have hs_11 := (hs.2.2.2.2.2.2.1).2.2.2.2.1; have hs_12 := (hs.2.2.2.2.2.2.1).2.2.2.2.2.1; have hs_13 := (hs.2.2.2.2.2.2.1).2.2.2.2.2.2.1; have hs_14 := (hs.2.2.2.2.2.2.1).2.2.2.2.2.2.2.1; have hs_15 := (hs.2.2.2.2.2.2.1).2.2.2.2.2.2.2.2.1; have hs_16 := (hs.2.2.2.2.2.2.1).2.2.2.2.2.2.2.2.2.1; have hs_17 := (hs.2.2.2.2.2.2.1).2.2.2.2.2.2.2.2.2.2.1; have hs_18 := (hs.2.2.2.2.2.2.1).2.2.2.2.2.2.2.2.2.2.2.1; have hs_19 := (hs.2.2.2.2.2.2.1).2.2.2.2.2.2.2.2.2.2.2.2; have hs_20 := (hs.2.2.2.2.2.2.2.1).1; have hs_21 := (hs.2.2.2.2.2.2.2.1).2.1; have hs_22 := (hs.2.2.2.2.2.2.2.1).2.2.1; have hs_23 := (hs.2.2.2.2.2.2.2.1).2.2.2.1; have hs_24 := (hs.2.2.2.2.2.2.2.1).2.2.2.2.1; have hs_25 := (hs.2.2.2.2.2.2.2.1).2.2.2.2.2.1; have hs_26 := (hs.2.2.2.2.2.2.2.1).2.2.2.2.2.2.1; have hs_27 := (hs.2.2.2.2.2.2.2.1).2.2.2.2.2.2.2.1; have hs_28 := (hs.2.2.2.2.2.2.2.1).2.2.2.2.2.2.2.2.1; have hs_29 := (hs.2.2.2.2.2.2.2.1).2.2.2.2.2.2.2.2.2.1; have hs_30 := (hs.2.2.2.2.2.2.2.1).2.2.2.2.2.2.2.2.2.2.1; have hs_31 := (hs.2.2.2.2.2.2.2.1).2.2.2.2.2.2.2.2.2.2.2.1; have hs_32 := (hs.2.2.2.2.2.2.2.1).2.2.2.2.2.2.2.2.2.2.2.2; have hs_33 := hs.2.2.2.2.2.2.2.2.1; have hs_34 := hs.2.2.2.2.2.2.2.2.2.2
  have hsk := rn_hasShaken (d := d) K (show b < 6 by omega)
  by_cases c : qS q / 2 ^ b % 2 = 1
  · rw [if_pos c] at hsk
    refine ⟨I, ?_, ?_, Fr.rf⟩
    · have n1 : ¬ nI 1 = 0 := by decide
      simp (disch := first | assumption | (simp (disch := omega) only [cK_some, ofR_some, ofR_none, Option.toList_some, Option.toList_none, List.cons_append, List.nil_append, isL_i, isL_r, isL_u, isL_2, cs_0, cs_i, cs_r, cs_l, cs_ii, cs_ir, cs_ri, cs_rr, cs_iir, cs_irr, ha_1, ha_2, ha_3, ha_4, ha_5, ha_6, ha_7, hs_1, hs_2, hs_3, hs_4, hs_5, hs_6, hs_7, hs_8, hs_9, hs_10, hs_11, hs_12, hs_13, hs_14, hs_15, hs_16, hs_17, hs_18, hs_19, hs_20, hs_21, hs_22, hs_23, hs_24, hs_25, hs_26, hs_27, hs_28, hs_29, hs_30, hs_31, hs_32, hs_33, hs_34, inb_n, n100, not_false_eq_true, isB_0, isB_1, nI_clamp, nI_nneg, Nat.zero_add, Nat.le_refl]; done) | omega) only [xX6_doShake_0, xX6_doShake_1, xX6_doShake_2, xX6_doShake_5, xX6_doShake_8, xX6_doShake_9, xX6_doShake_10i, xX6_doShake_10r, xX6_doShake_11, xX6_doShake_14, xX6_doShake_15, xX6_doShake_16, xX6_doShake_17, xX6_doShake_18, xX6_doShake_21, xX6_doShake_22, xX6_doShake_23, xX6_doShake_26, xX6_doShake_27, xX6_doShake_28, xX6_doShake_31, xX6_doShake_34, xX6_doShake_35, xX6_doShake_36, xX6_doShake_37, xX6_doShake_40, xX6_doShake_41, xX6_doShake_44, xX6_doShake_45, xX6_doShake_46, xX6_doShake_47, xX6_doShake_48, xX6_doShake_49, xX6_doShake_50, xX6_doShake_51, xX6_doShake_53, xX6_doShake_55, xX6_doShake_56, xX6_doShake_59, xX6_doShake_62, xX6_doShake_65, xX6_doShake_67, xX6_doShake_68, xX6_doShake_71, xX6_doShake_72, xX6_doShake_75, xX6_doShake_77, xX6_doShake_79, xX6_doShake_80, xX6_doShake_83, xX6_doShake_85, xX6_doShake_86, xX6_doShake_87, xX6_doShake_88, xX6_doShake_91, xX6_doShake_92, xX6_doShake_95, xX6_doShake_98, xX6_doShake_101, xX6_doShake_102, xX6_doShake_105, xX6_doShake_106, xX6_doShake_107, xX6_doShake_108, xX6_doShake_111, xX6_doShake_112, xX6_doShake_113, xX6_doShake_114, xX6_doShake_115, xX6_doShake_118, xX6_doShake_119, xX6_doShake_120i, xX6_doShake_120r, xX6_doShake_121, xX6_doShake_124, xX6_doShake_125, xX6_doShake_126, xX6_doShake_127, xX6_doShake_130, xX6_doShake_131, xX6_doShake_132, xX6_doShake_135, cK_some, ofR_some, ofR_none, Option.toList_some, Option.toList_none, List.cons_append, List.nil_append, isL_i, isL_r, isL_u, isL_2, cs_0, cs_i, cs_r, cs_l, cs_ii, cs_ir, cs_ri, cs_rr, cs_iir, cs_irr, ha_1, ha_2, ha_3, ha_4, ha_5, ha_6, ha_7, hs_1, hs_2, hs_3, hs_4, hs_5, hs_6, hs_7, hs_8, hs_9, hs_10, hs_11, hs_12, hs_13, hs_14, hs_15, hs_16, hs_17, hs_18, hs_19, hs_20, hs_21, hs_22, hs_23, hs_24, hs_25, hs_26, hs_27, hs_28, hs_29, hs_30, hs_31, hs_32, hs_33, hs_34, rX6_doShake, hsk, nI_lt, nI_clamp, s2_ne, s2_o, s2_s, nI_add, inb_n, nI_nn, zq0, zq1, ↓reduceIte]
    · unfold shakeP
      rw [if_pos c]
      exact K
  · rw [if_neg c] at hsk
    have e1 := (shk ⟨qS q, hqo.2.2⟩ ⟨b, by omega⟩).1
    dsimp only at e1
    have hS2 := (shk ⟨qS q, hqo.2.2⟩ ⟨b, by omega⟩).2
    dsimp only at hS2
    have eS := hq.2.2.1
    have K1 : CT G (s2 I a 3 (nI (qS q ||| 2 ^ b))) a s h (qD q, qC q, qP q, qS q ||| 2 ^ b, qM q, qL q) := K.to hq.setS ⟨hqo.1, hqo.2.1, hS2⟩ (Fr.rf.s2 (show inSc a a from ⟨by omega, by omega⟩))
    have hall := rn_dropsOfAll (d := d) K1
    have eall : sumD (qD q, qC q, qP q, qS q ||| 2 ^ b, qM q, qL q) (hN h) = sumD q (hN h) := rfl
    rw [eall] at hall
    have hv1 := K1.2.2.2.1
    have hk := (ho.2.2.2.2.2.2.2.2.2.1 b hb).1
    have eK := (hv1.2.2.1 b hb).1
    have eD : s2 I a 3 (nI (qS q ||| 2 ^ b)) (a + 1) b = nI (qD q b) := (K1.2.2.2.2.2.1.1 b hb).1
    have hD := hqo.1 b hb
    have hkd := nI_eq (a := hKind h b) (b := 2) (by omega) (by omega)
    have e2 : ∀ j, j < hN h → shakeD h q b j ≤ 99 := shakeD_le hqo hb
    -- what is behind the change of drops
    have fin : ∀ (z : Im) (w3 w4 : Slot) (l4 : Slot), ScV z a h (shakeD h q b, qC q, qP q, qS q ||| 2 ^ b, qM q, qL q) → Fr (inSc a) I z → ∃ I', ex (d + 1) mX6_doShake 119 [.val (.ref a), .val (.ref s), .val (.int (nI b)), .val (.int (nI (sumD q (hN h)))), l4] [] G z = some (none, G, I') ∧ CT G I' a s h (shakeP h q b) ∧ Fr (inSc a) I I' := by
      intro z w3 w4 l4 hz hf
      have Kz : CT G z a s h (shakeD h q b, qC q, qP q, qS q ||| 2 ^ b, qM q, qL q) := K.to hz ⟨e2, hqo.2.1, hS2⟩ hf
      have ha2 := rn_dropsOfAll (d := d) Kz
      have es : sumD (shakeD h q b, qC q, qP q, qS q ||| 2 ^ b, qM q, qL q) (hN h) = fo 0 (fun m k => m + shakeD h q b k) (hN h) := rfl
      rw [es] at ha2
      have eL : z a 5 = qL q := hz.2.2.2.2
      have hf2 : Fr (inSc a) I (s2 z a 5 (qL q + (nI (sumD q (hN h)) - nI (fo 0 (fun m k => m + shakeD h q b k) (hN h))))) := hf.s2 (show inSc a a from ⟨by omega, by omega⟩)
      refine ⟨_, ?_, ?_, hf2⟩
      · simp (disch := first | assumption | (simp (disch := omega) only [cK_some, ofR_some, ofR_none, Option.toList_some, Option.toList_none, List.cons_append, List.nil_append, isL_i, isL_r, isL_u, isL_2, cs_0, cs_i, cs_r, cs_l, cs_ii, cs_ir, cs_ri, cs_rr, cs_iir, cs_irr, ha_1, ha_2, ha_3, ha_4, ha_5, ha_6, ha_7, hs_1, hs_2, hs_3, hs_4, hs_5, hs_6, hs_7, hs_8, hs_9, hs_10, hs_11, hs_12, hs_13, hs_14, hs_15, hs_16, hs_17, hs_18, hs_19, hs_20, hs_21, hs_22, hs_23, hs_24, hs_25, hs_26, hs_27, hs_28, hs_29, hs_30, hs_31, hs_32, hs_33, hs_34, inb_n, n100, not_false_eq_true, isB_0, isB_1, nI_clamp, nI_nneg, Nat.zero_add, Nat.le_refl]; done) | omega) only [xX6_doShake_119, xX6_doShake_120i, xX6_doShake_120r, xX6_doShake_121, xX6_doShake_124, xX6_doShake_125, xX6_doShake_126, xX6_doShake_127, xX6_doShake_130, xX6_doShake_131, xX6_doShake_132, xX6_doShake_135, cK_some, ofR_some, ofR_none, Option.toList_some, Option.toList_none, List.cons_append, List.nil_append, isL_i, isL_r, isL_u, isL_2, cs_0, cs_i, cs_r, cs_l, cs_ii, cs_ir, cs_ri, cs_rr, cs_iir, cs_irr, ha_1, ha_2, ha_3, ha_4, ha_5, ha_6, ha_7, hs_1, hs_2, hs_3, hs_4, hs_5, hs_6, hs_7, hs_8, hs_9, hs_10, hs_11, hs_12, hs_13, hs_14, hs_15, hs_16, hs_17, hs_18, hs_19, hs_20, hs_21, hs_22, hs_23, hs_24, hs_25, hs_26, hs_27, hs_28, hs_29, hs_30, hs_31, hs_32, hs_33, hs_34, ha2, eL, nI_lt, nI_clamp, s2_ne, s2_o, s2_s, nI_add, inb_n, nI_nn, zq0, zq1, ↓reduceIte]
      · have e : shakeP h q b = (shakeD h q b, qC q, qP q, qS q ||| 2 ^ b, qM q, qL q + (nI (sumD q (hN h)) - nI (fo 0 (fun m k => m + shakeD h q b k) (hN h)))) := by unfold shakeP; rw [if_neg c]
        rw [e]
        exact K.to hz.setL ⟨e2, hqo.2.1, hS2⟩ hf2
    by_cases k2 : hKind h b = 2
    · have hdv := pk_div (a := qD q b) (d := 2) (by omega) (by omega) (by omega)
      obtain ⟨z, f1, p1, p2⟩ := chainE (fun k (z : Im) => ex (d + 1) mX6_doShake 53 [.val (.ref a), .val (.ref s), .val (.int (nI b)), .val (.int (nI (sumD q (hN h)))), .val (.int (nI k))] [] G z) (fun k z => ScV z a h ((fun j => if j = b then qD q b / 2 else if j < k then min 99 (qD q j + 1) else qD q j), qC q, qP q, qS q ||| 2 ^ b, qM q, qL q) ∧ Fr (inSc a) I z) (hN h) (fun k hk z hz => by
        obtain ⟨p1, p2⟩ := hz
        have hvz := hv.sc p2 hd
        have en := hvz.1.1
        have hkb := nI_eq (a := k) (b := b) (by omega) (by omega)
        try dsimp only
        rw [xX6_doShake_53]
        by_cases ek : k = b
        · refine ⟨z, ?_, ?_, p2⟩
          · simp (disch := first | assumption | (simp (disch := omega) only [cK_some, ofR_some, ofR_none, Option.toList_some, Option.toList_none, List.cons_append, List.nil_append, isL_i, isL_r, isL_u, isL_2, cs_0, cs_i, cs_r, cs_l, cs_ii, cs_ir, cs_ri, cs_rr, cs_iir, cs_irr, ha_1, ha_2, ha_3, ha_4, ha_5, ha_6, ha_7, hs_1, hs_2, hs_3, hs_4, hs_5, hs_6, hs_7, hs_8, hs_9, hs_10, hs_11, hs_12, hs_13, hs_14, hs_15, hs_16, hs_17, hs_18, hs_19, hs_20, hs_21, hs_22, hs_23, hs_24, hs_25, hs_26, hs_27, hs_28, hs_29, hs_30, hs_31, hs_32, hs_33, hs_34, inb_n, n100, not_false_eq_true, isB_0, isB_1, nI_clamp, nI_nneg, Nat.zero_add, Nat.le_refl]; done) | omega) only [xX6_doShake_0, xX6_doShake_1, xX6_doShake_2, xX6_doShake_5, xX6_doShake_8, xX6_doShake_9, xX6_doShake_10i, xX6_doShake_10r, xX6_doShake_11, xX6_doShake_14, xX6_doShake_15, xX6_doShake_16, xX6_doShake_17, xX6_doShake_18, xX6_doShake_21, xX6_doShake_22, xX6_doShake_23, xX6_doShake_26, xX6_doShake_27, xX6_doShake_28, xX6_doShake_31, xX6_doShake_34, xX6_doShake_35, xX6_doShake_36, xX6_doShake_37, xX6_doShake_40, xX6_doShake_41, xX6_doShake_44, xX6_doShake_45, xX6_doShake_46, xX6_doShake_47, xX6_doShake_48, xX6_doShake_49, xX6_doShake_50, xX6_doShake_51, xX6_doShake_55, xX6_doShake_56, xX6_doShake_59, xX6_doShake_62, xX6_doShake_65, xX6_doShake_67, xX6_doShake_68, xX6_doShake_71, xX6_doShake_72, xX6_doShake_75, xX6_doShake_77, xX6_doShake_79, xX6_doShake_80, xX6_doShake_83, xX6_doShake_85, xX6_doShake_86, xX6_doShake_87, xX6_doShake_88, xX6_doShake_91, xX6_doShake_92, xX6_doShake_95, xX6_doShake_98, xX6_doShake_101, xX6_doShake_102, xX6_doShake_105, xX6_doShake_106, xX6_doShake_107, xX6_doShake_108, xX6_doShake_111, xX6_doShake_112, xX6_doShake_113, xX6_doShake_114, xX6_doShake_115, xX6_doShake_118, xX6_doShake_119, xX6_doShake_120i, xX6_doShake_120r, xX6_doShake_121, xX6_doShake_124, xX6_doShake_125, xX6_doShake_126, xX6_doShake_127, xX6_doShake_130, xX6_doShake_131, xX6_doShake_132, xX6_doShake_135, cK_some, ofR_some, ofR_none, Option.toList_some, Option.toList_none, List.cons_append, List.nil_append, isL_i, isL_r, isL_u, isL_2, cs_0, cs_i, cs_r, cs_l, cs_ii, cs_ir, cs_ri, cs_rr, cs_iir, cs_irr, ha_1, ha_2, ha_3, ha_4, ha_5, ha_6, ha_7, hs_1, hs_2, hs_3, hs_4, hs_5, hs_6, hs_7, hs_8, hs_9, hs_10, hs_11, hs_12, hs_13, hs_14, hs_15, hs_16, hs_17, hs_18, hs_19, hs_20, hs_21, hs_22, hs_23, hs_24, hs_25, hs_26, hs_27, hs_28, hs_29, hs_30, hs_31, hs_32, hs_33, hs_34, en, hkb, ek, nI_lt, nI_clamp, s2_ne, s2_o, s2_s, nI_add, inb_n, nI_nn, zq0, zq1, ↓reduceIte]
          · have e : (fun j => if j = b then qD q b / 2 else if j < k + 1 then min 99 (qD q j + 1) else qD q j) = (fun j => if j = b then qD q b / 2 else if j < k then min 99 (qD q j + 1) else qD q j) := by
              funext j
              by_cases e1 : j = b
              · rw [if_pos e1, if_pos e1]
              · rw [if_neg e1, if_neg e1]
                by_cases e2 : j < k
                · rw [if_pos e2, if_pos (by omega)]
                · rw [if_neg e2, if_neg (by omega)]
            rw [e]
            exact p1
        · have eDk := (p1.1 k hk).1
          have e3 : qD ((fun j => if j = b then qD q b / 2 else if j < k then min 99 (qD q j + 1) else qD q j), qC q, qP q, qS q ||| 2 ^ b, qM q, qL q) k = qD q k := by
            show (if k = b then qD q b / 2 else if k < k then min 99 (qD q k + 1) else qD q k) = _
            rw [if_neg ek, if_neg (by omega)]
          rw [e3] at eDk
          have hDk := hqo.1 k hk
          have em := nI_mn (y := qD q k + 1) (z := 99) (by omega) (by omega)
          refine ⟨s2 z (a + 1) k (nI (min 99 (qD q k + 1))), ?_, ?_, p2.s2 (show inSc a (a + 1) from ⟨by omega, by omega⟩)⟩
          · simp (disch := first | assumption | (simp (disch := omega) only [cK_some, ofR_some, ofR_none, Option.toList_some, Option.toList_none, List.cons_append, List.nil_append, isL_i, isL_r, isL_u, isL_2, cs_0, cs_i, cs_r, cs_l, cs_ii, cs_ir, cs_ri, cs_rr, cs_iir, cs_irr, ha_1, ha_2, ha_3, ha_4, ha_5, ha_6, ha_7, hs_1, hs_2, hs_3, hs_4, hs_5, hs_6, hs_7, hs_8, hs_9, hs_10, hs_11, hs_12, hs_13, hs_14, hs_15, hs_16, hs_17, hs_18, hs_19, hs_20, hs_21, hs_22, hs_23, hs_24, hs_25, hs_26, hs_27, hs_28, hs_29, hs_30, hs_31, hs_32, hs_33, hs_34, inb_n, n100, not_false_eq_true, isB_0, isB_1, nI_clamp, nI_nneg, Nat.zero_add, Nat.le_refl]; done) | omega) only [xX6_doShake_0, xX6_doShake_1, xX6_doShake_2, xX6_doShake_5, xX6_doShake_8, xX6_doShake_9, xX6_doShake_10i, xX6_doShake_10r, xX6_doShake_11, xX6_doShake_14, xX6_doShake_15, xX6_doShake_16, xX6_doShake_17, xX6_doShake_18, xX6_doShake_21, xX6_doShake_22, xX6_doShake_23, xX6_doShake_26, xX6_doShake_27, xX6_doShake_28, xX6_doShake_31, xX6_doShake_34, xX6_doShake_35, xX6_doShake_36, xX6_doShake_37, xX6_doShake_40, xX6_doShake_41, xX6_doShake_44, xX6_doShake_45, xX6_doShake_46, xX6_doShake_47, xX6_doShake_48, xX6_doShake_49, xX6_doShake_50, xX6_doShake_51, xX6_doShake_55, xX6_doShake_56, xX6_doShake_59, xX6_doShake_62, xX6_doShake_65, xX6_doShake_67, xX6_doShake_68, xX6_doShake_71, xX6_doShake_72, xX6_doShake_75, xX6_doShake_77, xX6_doShake_79, xX6_doShake_80, xX6_doShake_83, xX6_doShake_85, xX6_doShake_86, xX6_doShake_87, xX6_doShake_88, xX6_doShake_91, xX6_doShake_92, xX6_doShake_95, xX6_doShake_98, xX6_doShake_101, xX6_doShake_102, xX6_doShake_105, xX6_doShake_106, xX6_doShake_107, xX6_doShake_108, xX6_doShake_111, xX6_doShake_112, xX6_doShake_113, xX6_doShake_114, xX6_doShake_115, xX6_doShake_118, xX6_doShake_119, xX6_doShake_120i, xX6_doShake_120r, xX6_doShake_121, xX6_doShake_124, xX6_doShake_125, xX6_doShake_126, xX6_doShake_127, xX6_doShake_130, xX6_doShake_131, xX6_doShake_132, xX6_doShake_135, cK_some, ofR_some, ofR_none, Option.toList_some, Option.toList_none, List.cons_append, List.nil_append, isL_i, isL_r, isL_u, isL_2, cs_0, cs_i, cs_r, cs_l, cs_ii, cs_ir, cs_ri, cs_rr, cs_iir, cs_irr, ha_1, ha_2, ha_3, ha_4, ha_5, ha_6, ha_7, hs_1, hs_2, hs_3, hs_4, hs_5, hs_6, hs_7, hs_8, hs_9, hs_10, hs_11, hs_12, hs_13, hs_14, hs_15, hs_16, hs_17, hs_18, hs_19, hs_20, hs_21, hs_22, hs_23, hs_24, hs_25, hs_26, hs_27, hs_28, hs_29, hs_30, hs_31, hs_32, hs_33, hs_34, en, hkb, ek, eDk, em, nI_lt, nI_clamp, s2_ne, s2_o, s2_s, nI_add, inb_n, nI_nn, zq0, zq1, ↓reduceIte]
          · have e : (fun j => if j = b then qD q b / 2 else if j < k + 1 then min 99 (qD q j + 1) else qD q j) = up (fun j => if j = b then qD q b / 2 else if j < k then min 99 (qD q j + 1) else qD q j) k (min 99 (qD q k + 1)) := by
              funext j
              unfold up
              by_cases e0 : j = k
              · rw [if_pos e0, e0, if_neg ek, if_pos (by omega)]
              · rw [if_neg e0]
                try dsimp only
                by_cases e1 : j = b
                · rw [if_pos e1, if_pos e1]
                · rw [if_neg e1, if_neg e1]
                  by_cases e2 : j < k
                  · rw [if_pos e2, if_pos (by omega)]
                  · rw [if_neg e2, if_neg (by omega)]
            rw [e]
            exact p1.setD) (I := s2 (s2 I a 3 (nI (qS q ||| 2 ^ b))) (a + 1) b (nI (qD q b / 2))) ⟨by
              have e : (fun j => if j = b then qD q b / 2 else if j < 0 then min 99 (qD q j + 1) else qD q j) = up (qD q) b (qD q b / 2) := by
                funext j
                unfold up
                by_cases e1 : j = b
                · rw [if_pos e1, if_pos e1]
                · rw [if_neg e1, if_neg e1, if_neg (by omega)]
              rw [e]
              exact (K1.2.2.2.2.2.1).setD, (Fr.rf.s2 (show inSc a a from ⟨by omega, by omega⟩)).s2 (show inSc a (a + 1) from ⟨by omega, by omega⟩)⟩
      try dsimp only at f1 p1 p2
      have hz : ScV z a h (shakeD h q b, qC q, qP q, qS q ||| 2 ^ b, qM q, qL q) := by
        refine ⟨fun j hj => ⟨?_, (p1.1 j hj).2⟩, p1.2.1, p1.2.2.1, p1.2.2.2.1, p1.2.2.2.2⟩
        rw [(p1.1 j hj).1]
        show nI (if j = b then qD q b / 2 else if j < hN h then min 99 (qD q j + 1) else qD q j) = nI (shakeD h q b j)
        unfold shakeD
        rw [if_pos k2, if_pos hj]
      have en := (hv.sc p2 hd).1.1
      obtain ⟨I', g1, g2, g3⟩ := fin z .unset .unset (.val (.int (nI (hN h)))) hz p2
      refine ⟨I', ?_, g2, g3⟩
      have n2 : ¬ nI 2 = 0 := by decide
      simp (disch := first | assumption | (simp (disch := omega) only [cK_some, ofR_some, ofR_none, Option.toList_some, Option.toList_none, List.cons_append, List.nil_append, isL_i, isL_r, isL_u, isL_2, cs_0, cs_i, cs_r, cs_l, cs_ii, cs_ir, cs_ri, cs_rr, cs_iir, cs_irr, ha_1, ha_2, ha_3, ha_4, ha_5, ha_6, ha_7, hs_1, hs_2, hs_3, hs_4, hs_5, hs_6, hs_7, hs_8, hs_9, hs_10, hs_11, hs_12, hs_13, hs_14, hs_15, hs_16, hs_17, hs_18, hs_19, hs_20, hs_21, hs_22, hs_23, hs_24, hs_25, hs_26, hs_27, hs_28, hs_29, hs_30, hs_31, hs_32, hs_33, hs_34, inb_n, n100, not_false_eq_true, isB_0, isB_1, nI_clamp, nI_nneg, Nat.zero_add, Nat.le_refl]; done) | omega) only [xX6_doShake_0, xX6_doShake_1, xX6_doShake_2, xX6_doShake_5, xX6_doShake_8, xX6_doShake_9, xX6_doShake_10i, xX6_doShake_10r, xX6_doShake_11, xX6_doShake_14, xX6_doShake_15, xX6_doShake_16, xX6_doShake_17, xX6_doShake_18, xX6_doShake_21, xX6_doShake_22, xX6_doShake_23, xX6_doShake_26, xX6_doShake_27, xX6_doShake_28, xX6_doShake_31, xX6_doShake_34, xX6_doShake_35, xX6_doShake_36, xX6_doShake_37, xX6_doShake_40, xX6_doShake_41, xX6_doShake_44, xX6_doShake_45, xX6_doShake_46, xX6_doShake_47, xX6_doShake_48, xX6_doShake_49, xX6_doShake_50, xX6_doShake_51, cK_some, ofR_some, ofR_none, Option.toList_some, Option.toList_none, List.cons_append, List.nil_append, isL_i, isL_r, isL_u, isL_2, cs_0, cs_i, cs_r, cs_l, cs_ii, cs_ir, cs_ri, cs_rr, cs_iir, cs_irr, ha_1, ha_2, ha_3, ha_4, ha_5, ha_6, ha_7, hs_1, hs_2, hs_3, hs_4, hs_5, hs_6, hs_7, hs_8, hs_9, hs_10, hs_11, hs_12, hs_13, hs_14, hs_15, hs_16, hs_17, hs_18, hs_19, hs_20, hs_21, hs_22, hs_23, hs_24, hs_25, hs_26, hs_27, hs_28, hs_29, hs_30, hs_31, hs_32, hs_33, hs_34, rX6_doShake, hsk, e1, eS, hall, eK, eD, hkd, k2, hdv, n2, nI_lt, nI_clamp, s2_ne, s2_o, s2_s, nI_add, inb_n, nI_nn, zq0, zq1, ↓reduceIte]
      refine Eq.trans f1 ?_
      rw [xX6_doShake_53]
      simp (disch := first | assumption | (simp (disch := omega) only [cK_some, ofR_some, ofR_none, Option.toList_some, Option.toList_none, List.cons_append, List.nil_append, isL_i, isL_r, isL_u, isL_2, cs_0, cs_i, cs_r, cs_l, cs_ii, cs_ir, cs_ri, cs_rr, cs_iir, cs_irr, ha_1, ha_2, ha_3, ha_4, ha_5, ha_6, ha_7, hs_1, hs_2, hs_3, hs_4, hs_5, hs_6, hs_7, hs_8, hs_9, hs_10, hs_11, hs_12, hs_13, hs_14, hs_15, hs_16, hs_17, hs_18, hs_19, hs_20, hs_21, hs_22, hs_23, hs_24, hs_25, hs_26, hs_27, hs_28, hs_29, hs_30, hs_31, hs_32, hs_33, hs_34, inb_n, n100, not_false_eq_true, isB_0, isB_1, nI_clamp, nI_nneg, Nat.zero_add, Nat.le_refl]; done) | omega) only [xX6_doShake_55, xX6_doShake_56, xX6_doShake_59, xX6_doShake_62, xX6_doShake_65, xX6_doShake_67, xX6_doShake_68, xX6_doShake_71, xX6_doShake_72, xX6_doShake_75, xX6_doShake_77, xX6_doShake_79, xX6_doShake_80, xX6_doShake_83, xX6_doShake_85, xX6_doShake_86, xX6_doShake_87, xX6_doShake_88, xX6_doShake_91, xX6_doShake_92, xX6_doShake_95, xX6_doShake_98, cK_some, ofR_some, ofR_none, Option.toList_some, Option.toList_none, List.cons_append, List.nil_append, isL_i, isL_r, isL_u, isL_2, cs_0, cs_i, cs_r, cs_l, cs_ii, cs_ir, cs_ri, cs_rr, cs_iir, cs_irr, ha_1, ha_2, ha_3, ha_4, ha_5, ha_6, ha_7, hs_1, hs_2, hs_3, hs_4, hs_5, hs_6, hs_7, hs_8, hs_9, hs_10, hs_11, hs_12, hs_13, hs_14, hs_15, hs_16, hs_17, hs_18, hs_19, hs_20, hs_21, hs_22, hs_23, hs_24, hs_25, hs_26, hs_27, hs_28, hs_29, hs_30, hs_31, hs_32, hs_33, hs_34, en, nI_lt, nI_clamp, s2_ne, s2_o, s2_s, nI_add, inb_n, nI_nn, zq0, zq1, ↓reduceIte]
      exact g1
    · have e3 : shakeD h q b = up (qD q) b (qD q b - 1) := by unfold shakeD; rw [if_neg k2]
      have hz : ScV (s2 (s2 I a 3 (nI (qS q ||| 2 ^ b))) (a + 1) b (nI (qD q b - 1))) a h (shakeD h q b, qC q, qP q, qS q ||| 2 ^ b, qM q, qL q) := by
        rw [e3]
        exact (K1.2.2.2.2.2.1).setD
      obtain ⟨I', g1, g2, g3⟩ := fin _ .unset .unset .unset hz ((Fr.rf.s2 (show inSc a a from ⟨by omega, by omega⟩)).s2 (show inSc a (a + 1) from ⟨by omega, by omega⟩))
      refine ⟨I', ?_, g2, g3⟩
      have em : (if nI 0 < nI (qD q b) - nI 1 then nI (qD q b) - nI 1 else nI 0) = nI (qD q b - 1) := by
        by_cases c0 : qD q b = 0
        · rw [c0]; decide
        · rw [pk_sub (by omega)]
          by_cases c1 : qD q b = 1
          · rw [c1]; decide
          · rw [if_pos ((nI_ltI (by omega) (by omega)).mpr (by omega))]
      simp (disch := first | assumption | (simp (disch := omega) only [cK_some, ofR_some, ofR_none, Option.toList_some, Option.toList_none, List.cons_append, List.nil_append, isL_i, isL_r, isL_u, isL_2, cs_0, cs_i, cs_r, cs_l, cs_ii, cs_ir, cs_ri, cs_rr, cs_iir, cs_irr, ha_1, ha_2, ha_3, ha_4, ha_5, ha_6, ha_7, hs_1, hs_2, hs_3, hs_4, hs_5, hs_6, hs_7, hs_8, hs_9, hs_10, hs_11, hs_12, hs_13, hs_14, hs_15, hs_16, hs_17, hs_18, hs_19, hs_20, hs_21, hs_22, hs_23, hs_24, hs_25, hs_26, hs_27, hs_28, hs_29, hs_30, hs_31, hs_32, hs_33, hs_34, inb_n, n100, not_false_eq_true, isB_0, isB_1, nI_clamp, nI_nneg, Nat.zero_add, Nat.le_refl]; done) | omega) only [xX6_doShake_0, xX6_doShake_1, xX6_doShake_2, xX6_doShake_5, xX6_doShake_8, xX6_doShake_9, xX6_doShake_10i, xX6_doShake_10r, xX6_doShake_11, xX6_doShake_14, xX6_doShake_15, xX6_doShake_16, xX6_doShake_17, xX6_doShake_18, xX6_doShake_21, xX6_doShake_22, xX6_doShake_23, xX6_doShake_26, xX6_doShake_27, xX6_doShake_28, xX6_doShake_31, xX6_doShake_34, xX6_doShake_35, xX6_doShake_36, xX6_doShake_37, xX6_doShake_40, xX6_doShake_41, xX6_doShake_44, xX6_doShake_45, xX6_doShake_46, xX6_doShake_47, xX6_doShake_48, xX6_doShake_49, xX6_doShake_50, xX6_doShake_51, xX6_doShake_53, xX6_doShake_55, xX6_doShake_56, xX6_doShake_59, xX6_doShake_62, xX6_doShake_65, xX6_doShake_67, xX6_doShake_68, xX6_doShake_71, xX6_doShake_72, xX6_doShake_75, xX6_doShake_77, xX6_doShake_79, xX6_doShake_80, xX6_doShake_83, xX6_doShake_85, xX6_doShake_86, xX6_doShake_87, xX6_doShake_88, xX6_doShake_91, xX6_doShake_92, xX6_doShake_95, xX6_doShake_98, xX6_doShake_101, xX6_doShake_102, xX6_doShake_105, xX6_doShake_106, xX6_doShake_107, xX6_doShake_108, xX6_doShake_111, xX6_doShake_112, xX6_doShake_113, xX6_doShake_114, xX6_doShake_115, xX6_doShake_118, cK_some, ofR_some, ofR_none, Option.toList_some, Option.toList_none, List.cons_append, List.nil_append, isL_i, isL_r, isL_u, isL_2, cs_0, cs_i, cs_r, cs_l, cs_ii, cs_ir, cs_ri, cs_rr, cs_iir, cs_irr, ha_1, ha_2, ha_3, ha_4, ha_5, ha_6, ha_7, hs_1, hs_2, hs_3, hs_4, hs_5, hs_6, hs_7, hs_8, hs_9, hs_10, hs_11, hs_12, hs_13, hs_14, hs_15, hs_16, hs_17, hs_18, hs_19, hs_20, hs_21, hs_22, hs_23, hs_24, hs_25, hs_26, hs_27, hs_28, hs_29, hs_30, hs_31, hs_32, hs_33, hs_34, rX6_doShake, hsk, e1, eS, hall, eK, eD, hkd, k2, em, nI_lt, nI_clamp, s2_ne, s2_o, s2_s, nI_add, inb_n, nI_nn, zq0, zq1, ↓reduceIte]
      exact g1
