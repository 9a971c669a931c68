/-! walks: arranged, walked -/
theorem rn_arrange {d a s w r : Nat} {h : Sp} {q : Qp} {bz : Nat → Nat} {G : Gm} {I : Im} (hw : Wk G w) (K : CT G I a s h q) (hz : SzV I s h bz) (hr : r < 5) (hwa : w + 1 < a ∨ a + 3 < w + 1) (hws : w + 1 < s ∨ s + 81 < w + 1) :
    ∃ I', run (d + 1) mX10_arrange [.ref w, .ref s, .ref a, .int (nI r)] G I = some (none, G, I') ∧ OrV I' w (hN h) (arrO (rk h bz q r) (hN h)) ∧ Fr (fun c => c = w + 1) I I' := by
  obtain ⟨ha, hs, hd, hv, ho, hq, hqo⟩ := id K
  obtain ⟨w1, w2, w3, w4, w5, w6⟩ := hw
  have hN6 := ho.1
  have ha_1 := ha.1; have ha_2 := ha.2.1; have ha_3 := ha.2.2.1; have ha_4 := ha.2.2.2.1; have ha_5 := ha.2.2.2.2.1; have ha_6 := ha.2.2.2.2.2.1; have ha_7 := ha.2.2.2.2.2.2; have hs_1 := hs.1; have hs_2 := hs.2.1; have hs_3 := hs.2.2.1; have hs_4 := hs.2.2.2.1; have hs_5 := hs.2.2.2.2.1; have hs_6 := hs.2.2.2.2.2.1; have hs_7 := (hs.2.2.2.2.2.2.1).1; have hs_8 := (hs.2.2.2.2.2.2.1).2.1; have hs_9 := (hs.2.2.2.2.2.2.1).2.2.1; have hs_10 := (hs.2.2.2.2.2.2.1).2.2.2.1; have hs_11 := (hs.2.2.2.2.2.2.1).2.2.2.2.1; have hs_12 := (hs.2.2.2.2.2.2.1).2.2.2.2.2.1; have hs_13 := (hs.2.2.2.2.2.2.1).2.2.2.2.2.2.1; have hs_14 := (hs.2.2.2.2.2.2.1).2.2.2.2.2.2.2.1; have hs_15 := (hs.2.2.2.2.2.2.1).2.2.2.2.2.2.2.2.1; have hs_16 := (hs.2.2.2.2.2.2.1).2.2.2.2.2.2.2.2.2.1; have hs_17 := (hs.2.2.2.2.2.2.1).2.2.2.2.2.2.2.2.2.2.1; have hs_18 := (hs.2.2.2.2.2.2.1).2.2.2.2.2.2.2.2.2.2.2.1; have hs_19 := (hs.2.2.2.2.2.2.1).2.2.2.2.2.2.2.2.2.2.2.2; have hs_20 := (hs.2.2.2.2.2.2.2.1).1; have hs_21 := (hs.2.2.2.2.2.2.2.1).2.1; have hs_22 := (hs.2.2.2.2.2.2.2.1).2.2.1; have hs_23 := (hs.2.2.2.2.2.2.2.1).2.2.2.1; have hs_24 := (hs.2.2.2.2.2.2.2.1).2.2.2.2.1; have hs_25 := (hs.2.2.2.2.2.2.2.1).2.2.2.2.2.1; have hs_26 := (hs.2.2.2.2.2.2.2.1).2.2.2.2.2.2.1; have hs_27 := (hs.2.2.2.2.2.2.2.1).2.2.2.2.2.2.2.1; have hs_28 := (hs.2.2.2.2.2.2.2.1).2.2.2.2.2.2.2.2.1; have hs_29 := (hs.2.2.2.2.2.2.2.1).2.2.2.2.2.2.2.2.2.1; have hs_30 := (hs.2.2.2.2.2.2.2.1).2.2.2.2.2.2.2.2.2.2.1; have hs_31 := (hs.2.2.2.2.2.2.2.1).2.2.2.2.2.2.2.2.2.2.2.1; have hs_32 := (hs.2.2.2.2.2.2.2.1).2.2.2.2.2.2.2.2.2.2.2.2; have hs_33 := hs.2.2.2.2.2.2.2.2.1; have hs_34 := hs.2.2.2.2.2.2.2.2.2.2
  have hbnd : ∀ b, b < hN h → bz b ≤ 9 ∧ qD q b ≤ 99 ∧ hChill h b ≤ 18 := fun b hb => ⟨(hz b hb).2, hqo.1 b hb, (ho.2.2.2.2.2.2.2.2.2.1 b hb).2.2⟩
  have hwe : ∀ (z : Im), Fr (fun c => c = w + 1) I z → ∀ b, b < hN h → run d mX10_weigh [.ref s, .ref a, .int (nI r), .int (nI b)] G z = some (some (.int (wI h bz q r b)), G, z) := by
    intro z hz2 b hb
    refine rn_weigh (K.fr (fun c hc => hz2 c (by unfold inSc at hc; omega))) (fun b hb => ?_) hb hr
    rw [hz2 _ (by omega)]
    exact hz b hb
  obtain ⟨z, f1, p1, p2⟩ := chainE (fun n (z : Im × Slot × Slot) => ex (d + 1) mX10_arrange 3 [.val (.ref w), .val (.ref s), .val (.ref a), .val (.int (nI r)), .val (.int (nI n)), z.2.1, z.2.2] [] G z.1) (fun n z => OrV z.1 w n (arrO (rk h bz q r) n) ∧ Fr (fun c => c = w + 1) I z.1) (hN h) (fun n hn z hz => by
    obtain ⟨z1, z5, z6⟩ := z
    obtain ⟨p1, p2⟩ := hz
    try dsimp only at p1 p2 ⊢
    have en : z1 (s + 8) 0 = nI (hN h) := by rw [p2 _ (by omega)]; exact hv.1.1
    have hwn := hwe z1 p2 n hn
    generalize ho2 : arrO (rk h bz q r) n = o at p1
    have holt : ∀ k, k < n → o k < n := by rw [← ho2]; exact arrO_lt n
    -- the place
    have inner : ∀ k, k ≤ n → ∀ y : Im, Fr (fun c => c = w + 1) I y → (∀ j, j < k → y (w + 1) j = nI (o j)) → (∀ j, k < j → j ≤ n → y (w + 1) j = nI (o (j - 1))) →
        ∃ y' : Im, ex (d + 1) mX10_arrange 29 [.val (.ref w), .val (.ref s), .val (.ref a), .val (.int (nI r)), .val (.int (nI n)), .val (.int (nI k)), .val (.int (wI h bz q r n))] [] G y = ex (d + 1) mX10_arrange 3 [.val (.ref w), .val (.ref s), .val (.ref a), .val (.int (nI r)), .val (.int (nI (n + 1))), .val (.int (nI (plc (rk h bz q r) o n k))), .val (.int (wI h bz q r n))] [] G y' ∧ (∀ j, j ≤ n → y' (w + 1) j = nI (insO o n (plc (rk h bz q r) o n k) j)) ∧ Fr (fun c => c = w + 1) I y' := by
      intro k
      have put : ∀ k, k ≤ n → ∀ y : Im, Fr (fun c => c = w + 1) I y → (∀ j, j < k → y (w + 1) j = nI (o j)) → (∀ j, k < j → j ≤ n → y (w + 1) j = nI (o (j - 1))) → (∀ j, j ≤ n → (s2 y (w + 1) k (nI n)) (w + 1) j = nI (insO o n k j)) ∧ Fr (fun c => c = w + 1) I (s2 y (w + 1) k (nI n)) := by
        intro k hk y hy h1 h2
        refine ⟨fun j hj => ?_, hy.s2 rfl⟩
        unfold insO
        by_cases e : j = k
        · rw [e, s2_s, if_neg (by omega), if_pos rfl]
        · rw [s2_o e]
          by_cases e2 : j < k
          · rw [if_pos e2]; exact h1 j e2
          · rw [if_neg e2, if_neg e]; exact h2 j (by omega) hj
      induction k with
      | zero =>
        intro hk y hy h1 h2
        obtain ⟨g1, g2⟩ := put 0 (by omega) y hy h1 h2
        refine ⟨s2 y (w + 1) 0 (nI n), ?_, g1, g2⟩
        have n0 : nI 0 ≤ 0 := by decide
        rw [xX10_arrange_29]
        simp (disch := first | assumption | (simp (disch := omega) only [cK_some, ofR_some, ofR_none, Option.toList_some, Option.toList_none, List.cons_append, List.nil_append, isL_i, isL_r, isL_u, isL_2, cs_0, cs_i, cs_r, cs_l, cs_ii, cs_ir, cs_ri, cs_rr, cs_iir, cs_irr, ha_1, ha_2, ha_3, ha_4, ha_5, ha_6, ha_7, hs_1, hs_2, hs_3, hs_4, hs_5, hs_6, hs_7, hs_8, hs_9, hs_10, hs_11, hs_12, hs_13, hs_14, hs_15, hs_16, hs_17, hs_18, hs_19, hs_20, hs_21, hs_22, hs_23, hs_24, hs_25, hs_26, hs_27, hs_28, hs_29, hs_30, hs_31, hs_32, hs_33, hs_34, w1, w4, inb_n, bq4, bq5, n100, not_false_eq_true, isB_0, isB_1, nI_clamp, nI_nneg, Nat.zero_add, Nat.le_refl]; done) | omega) only [xX10_arrange_31, xX10_arrange_34, xX10_arrange_35, xX10_arrange_36, xX10_arrange_37, xX10_arrange_38, xX10_arrange_41, xX10_arrange_43, xX10_arrange_44, xX10_arrange_45, xX10_arrange_46, xX10_arrange_49, xX10_arrange_51, xX10_arrange_54, xX10_arrange_55, xX10_arrange_58, xX10_arrange_60, xX10_arrange_61, xX10_arrange_64, xX10_arrange_66, xX10_arrange_67, xX10_arrange_68, xX10_arrange_69, xX10_arrange_70, xX10_arrange_73, xX10_arrange_76, xX10_arrange_77, xX10_arrange_80, xX10_arrange_82, xX10_arrange_84, xX10_arrange_85, xX10_arrange_88, cK_some, ofR_some, ofR_none, Option.toList_some, Option.toList_none, List.cons_append, List.nil_append, isL_i, isL_r, isL_u, isL_2, cs_0, cs_i, cs_r, cs_l, cs_ii, cs_ir, cs_ri, cs_rr, cs_iir, cs_irr, ha_1, ha_2, ha_3, ha_4, ha_5, ha_6, ha_7, hs_1, hs_2, hs_3, hs_4, hs_5, hs_6, hs_7, hs_8, hs_9, hs_10, hs_11, hs_12, hs_13, hs_14, hs_15, hs_16, hs_17, hs_18, hs_19, hs_20, hs_21, hs_22, hs_23, hs_24, hs_25, hs_26, hs_27, hs_28, hs_29, hs_30, hs_31, hs_32, hs_33, hs_34, n0, w2, plc, Nat.add_sub_cancel, nI_lt, nI_nlt, nI_le, nI_ge, nI_pos, pk_sub, nI_clamp, s2_ne, s2_o, s2_s, nI_add, inb_n, nI_nn, zq0, zq1, ↓reduceIte]
      | succ k ih =>
        intro hk y hy h1 h2
        have e1 := h1 k (by omega)
        have hok := holt k (by omega)
        have hwo := hwe y hy (o k) (by omega)
        have hlt := wI_lt (h := h) (bz := bz) (q := q) (r := r) (x := n) (y := o k) (hbnd n hn) (hbnd _ (by omega)) hr
        have npos : ¬ nI (k + 1) ≤ 0 := nI_nle (by omega) (by omega)
        have hs : nI (k + 1) + (-1) = nI k := pk_m1 k
        have es : plc (rk h bz q r) o n (k + 1) = if rk h bz q r n < rk h bz q r (o k) then plc (rk h bz q r) o n k else k + 1 := rfl
        by_cases c : rk h bz q r n < rk h bz q r (o k)
        · rw [es, if_pos c]
          have cw : wI h bz q r n < wI h bz q r (o k) := by rw [hlt]; exact c
          have cw2 : ¬ wI h bz q r (o k) ≤ wI h bz q r n := fun z => Int32.lt_irrefl (Int32.lt_of_lt_of_le cw z)
          obtain ⟨y', g1, g2, g3⟩ := ih (by omega) (s2 y (w + 1) (k + 1) (nI (o k))) (hy.s2 rfl) (fun j hj => by rw [s2_o (by omega)]; exact h1 j (by omega)) (fun j h3 h4 => by
            by_cases e : j = k + 1
            · rw [e, s2_s]; rfl
            · rw [s2_o e]; exact h2 j (by omega) h4)
          refine ⟨y', ?_, g2, g3⟩
          refine Eq.trans ?_ g1
          rw [xX10_arrange_29]
          simp (disch := first | assumption | (simp (disch := omega) only [cK_some, ofR_some, ofR_none, Option.toList_some, Option.toList_none, List.cons_append, List.nil_append, isL_i, isL_r, isL_u, isL_2, cs_0, cs_i, cs_r, cs_l, cs_ii, cs_ir, cs_ri, cs_rr, cs_iir, cs_irr, ha_1, ha_2, ha_3, ha_4, ha_5, ha_6, ha_7, hs_1, hs_2, hs_3, hs_4, hs_5, hs_6, hs_7, hs_8, hs_9, hs_10, hs_11, hs_12, hs_13, hs_14, hs_15, hs_16, hs_17, hs_18, hs_19, hs_20, hs_21, hs_22, hs_23, hs_24, hs_25, hs_26, hs_27, hs_28, hs_29, hs_30, hs_31, hs_32, hs_33, hs_34, w1, w4, inb_n, bq4, bq5, n100, not_false_eq_true, isB_0, isB_1, nI_clamp, nI_nneg, Nat.zero_add, Nat.le_refl]; done) | omega) only [xX10_arrange_31, xX10_arrange_34, xX10_arrange_35, xX10_arrange_36, xX10_arrange_37, xX10_arrange_38, xX10_arrange_41, xX10_arrange_43, xX10_arrange_44, xX10_arrange_45, xX10_arrange_46, xX10_arrange_49, xX10_arrange_51, xX10_arrange_54, xX10_arrange_55, xX10_arrange_58, xX10_arrange_60, xX10_arrange_61, xX10_arrange_64, xX10_arrange_66, xX10_arrange_67, xX10_arrange_68, xX10_arrange_69, xX10_arrange_70, xX10_arrange_73, cK_some, ofR_some, ofR_none, Option.toList_some, Option.toList_none, List.cons_append, List.nil_append, isL_i, isL_r, isL_u, isL_2, cs_0, cs_i, cs_r, cs_l, cs_ii, cs_ir, cs_ri, cs_rr, cs_iir, cs_irr, ha_1, ha_2, ha_3, ha_4, ha_5, ha_6, ha_7, hs_1, hs_2, hs_3, hs_4, hs_5, hs_6, hs_7, hs_8, hs_9, hs_10, hs_11, hs_12, hs_13, hs_14, hs_15, hs_16, hs_17, hs_18, hs_19, hs_20, hs_21, hs_22, hs_23, hs_24, hs_25, hs_26, hs_27, hs_28, hs_29, hs_30, hs_31, hs_32, hs_33, hs_34, npos, w2, e1, hwo, cw2, hs, Nat.add_sub_cancel, nI_lt, nI_nlt, nI_le, nI_ge, nI_pos, pk_sub, nI_clamp, s2_ne, s2_o, s2_s, nI_add, inb_n, nI_nn, zq0, zq1, ↓reduceIte]
        · rw [es, if_neg c]
          have cw2 : wI h bz q r (o k) ≤ wI h bz q r n := Int32.not_lt.mp (fun z => c (by rw [← hlt]; exact z))
          obtain ⟨g1, g2⟩ := put (k + 1) hk y hy h1 h2
          refine ⟨s2 y (w + 1) (k + 1) (nI n), ?_, g1, g2⟩
          rw [xX10_arrange_29]
          simp (disch := first | assumption | (simp (disch := omega) only [cK_some, ofR_some, ofR_none, Option.toList_some, Option.toList_none, List.cons_append, List.nil_append, isL_i, isL_r, isL_u, isL_2, cs_0, cs_i, cs_r, cs_l, cs_ii, cs_ir, cs_ri, cs_rr, cs_iir, cs_irr, ha_1, ha_2, ha_3, ha_4, ha_5, ha_6, ha_7, hs_1, hs_2, hs_3, hs_4, hs_5, hs_6, hs_7, hs_8, hs_9, hs_10, hs_11, hs_12, hs_13, hs_14, hs_15, hs_16, hs_17, hs_18, hs_19, hs_20, hs_21, hs_22, hs_23, hs_24, hs_25, hs_26, hs_27, hs_28, hs_29, hs_30, hs_31, hs_32, hs_33, hs_34, w1, w4, inb_n, bq4, bq5, n100, not_false_eq_true, isB_0, isB_1, nI_clamp, nI_nneg, Nat.zero_add, Nat.le_refl]; done) | omega) only [xX10_arrange_31, xX10_arrange_34, xX10_arrange_35, xX10_arrange_36, xX10_arrange_37, xX10_arrange_38, xX10_arrange_41, xX10_arrange_43, xX10_arrange_44, xX10_arrange_45, xX10_arrange_46, xX10_arrange_49, xX10_arrange_51, xX10_arrange_54, xX10_arrange_55, xX10_arrange_58, xX10_arrange_60, xX10_arrange_61, xX10_arrange_64, xX10_arrange_66, xX10_arrange_67, xX10_arrange_68, xX10_arrange_69, xX10_arrange_70, xX10_arrange_73, xX10_arrange_76, xX10_arrange_77, xX10_arrange_80, xX10_arrange_82, xX10_arrange_84, xX10_arrange_85, xX10_arrange_88, cK_some, ofR_some, ofR_none, Option.toList_some, Option.toList_none, List.cons_append, List.nil_append, isL_i, isL_r, isL_u, isL_2, cs_0, cs_i, cs_r, cs_l, cs_ii, cs_ir, cs_ri, cs_rr, cs_iir, cs_irr, ha_1, ha_2, ha_3, ha_4, ha_5, ha_6, ha_7, hs_1, hs_2, hs_3, hs_4, hs_5, hs_6, hs_7, hs_8, hs_9, hs_10, hs_11, hs_12, hs_13, hs_14, hs_15, hs_16, hs_17, hs_18, hs_19, hs_20, hs_21, hs_22, hs_23, hs_24, hs_25, hs_26, hs_27, hs_28, hs_29, hs_30, hs_31, hs_32, hs_33, hs_34, npos, w2, e1, hwo, cw2, Nat.add_sub_cancel, nI_lt, nI_nlt, nI_le, nI_ge, nI_pos, pk_sub, nI_clamp, s2_ne, s2_o, s2_s, nI_add, inb_n, nI_nn, zq0, zq1, ↓reduceIte]
    obtain ⟨y', g1, g2, g3⟩ := inner n (Nat.le_refl _) z1 p2 p1 (fun j h1 h2 => absurd h1 (by omega))
    refine ⟨(y', .val (.int (nI (plc (rk h bz q r) o n n))), .val (.int (wI h bz q r n))), ?_, fun j hj => ?_, g3⟩
    · rw [xX10_arrange_3]
      simp (disch := first | assumption | (simp (disch := omega) only [cK_some, ofR_some, ofR_none, Option.toList_some, Option.toList_none, List.cons_append, List.nil_append, isL_i, isL_r, isL_u, isL_2, cs_0, cs_i, cs_r, cs_l, cs_ii, cs_ir, cs_ri, cs_rr, cs_iir, cs_irr, ha_1, ha_2, ha_3, ha_4, ha_5, ha_6, ha_7, hs_1, hs_2, hs_3, hs_4, hs_5, hs_6, hs_7, hs_8, hs_9, hs_10, hs_11, hs_12, hs_13, hs_14, hs_15, hs_16, hs_17, hs_18, hs_19, hs_20, hs_21, hs_22, hs_23, hs_24, hs_25, hs_26, hs_27, hs_28, hs_29, hs_30, hs_31, hs_32, hs_33, hs_34, inb_n, bq4, bq5, n100, not_false_eq_true, isB_0, isB_1, nI_clamp, nI_nneg, Nat.zero_add, Nat.le_refl]; done) | omega) only [xX10_arrange_5, xX10_arrange_6, xX10_arrange_9, xX10_arrange_12, xX10_arrange_15, xX10_arrange_17, xX10_arrange_19, xX10_arrange_20, xX10_arrange_21, xX10_arrange_22, xX10_arrange_24, xX10_arrange_27, cK_some, ofR_some, ofR_none, Option.toList_some, Option.toList_none, List.cons_append, List.nil_append, isL_i, isL_r, isL_u, isL_2, cs_0, cs_i, cs_r, cs_l, cs_ii, cs_ir, cs_ri, cs_rr, cs_iir, cs_irr, ha_1, ha_2, ha_3, ha_4, ha_5, ha_6, ha_7, hs_1, hs_2, hs_3, hs_4, hs_5, hs_6, hs_7, hs_8, hs_9, hs_10, hs_11, hs_12, hs_13, hs_14, hs_15, hs_16, hs_17, hs_18, hs_19, hs_20, hs_21, hs_22, hs_23, hs_24, hs_25, hs_26, hs_27, hs_28, hs_29, hs_30, hs_31, hs_32, hs_33, hs_34, en, hwn, Nat.add_sub_cancel, nI_lt, nI_nlt, nI_le, nI_ge, nI_pos, pk_sub, nI_clamp, s2_ne, s2_o, s2_s, nI_add, inb_n, nI_nn, zq0, zq1, ↓reduceIte]
      exact g1
    · show y' (w + 1) j = nI (insO (arrO (rk h bz q r) n) n (plc (rk h bz q r) (arrO (rk h bz q r) n) n n) j)
      rw [ho2]
      exact g2 j (by omega)) (I := (I, .unset, .unset)) ⟨fun k hk => absurd hk (by omega), Fr.rf⟩
  obtain ⟨z1, z5, z6⟩ := z
  try dsimp only at f1 p1 p2
  refine ⟨z1, ?_, p1, p2⟩
  simp (disch := first | assumption | (simp (disch := omega) only [cK_some, ofR_some, ofR_none, Option.toList_some, Option.toList_none, List.cons_append, List.nil_append, isL_i, isL_r, isL_u, isL_2, cs_0, cs_i, cs_r, cs_l, cs_ii, cs_ir, cs_ri, cs_rr, cs_iir, cs_irr, ha_1, ha_2, ha_3, ha_4, ha_5, ha_6, ha_7, hs_1, hs_2, hs_3, hs_4, hs_5, hs_6, hs_7, hs_8, hs_9, hs_10, hs_11, hs_12, hs_13, hs_14, hs_15, hs_16, hs_17, hs_18, hs_19, hs_20, hs_21, hs_22, hs_23, hs_24, hs_25, hs_26, hs_27, hs_28, hs_29, hs_30, hs_31, hs_32, hs_33, hs_34, inb_n, bq4, bq5, n100, not_false_eq_true, isB_0, isB_1, nI_clamp, nI_nneg, Nat.zero_add, Nat.le_refl]; done) | omega) only [xX10_arrange_0, xX10_arrange_1, cK_some, ofR_some, ofR_none, Option.toList_some, Option.toList_none, List.cons_append, List.nil_append, isL_i, isL_r, isL_u, isL_2, cs_0, cs_i, cs_r, cs_l, cs_ii, cs_ir, cs_ri, cs_rr, cs_iir, cs_irr, ha_1, ha_2, ha_3, ha_4, ha_5, ha_6, ha_7, hs_1, hs_2, hs_3, hs_4, hs_5, hs_6, hs_7, hs_8, hs_9, hs_10, hs_11, hs_12, hs_13, hs_14, hs_15, hs_16, hs_17, hs_18, hs_19, hs_20, hs_21, hs_22, hs_23, hs_24, hs_25, hs_26, hs_27, hs_28, hs_29, hs_30, hs_31, hs_32, hs_33, hs_34, rX10_arrange, Nat.add_sub_cancel, nI_lt, nI_nlt, nI_le, nI_ge, nI_pos, pk_sub, nI_clamp, s2_ne, s2_o, s2_s, nI_add, inb_n, nI_nn, zq0, zq1, ↓reduceIte]
  refine Eq.trans f1 ?_
  have en : z1 (s + 8) 0 = nI (hN h) := by rw [p2 _ (by omega)]; exact hv.1.1
  rw [xX10_arrange_3]
  simp (disch := first | assumption | (simp (disch := omega) only [cK_some, ofR_some, ofR_none, Option.toList_some, Option.toList_none, List.cons_append, List.nil_append, isL_i, isL_r, isL_u, isL_2, cs_0, cs_i, cs_r, cs_l, cs_ii, cs_ir, cs_ri, cs_rr, cs_iir, cs_irr, ha_1, ha_2, ha_3, ha_4, ha_5, ha_6, ha_7, hs_1, hs_2, hs_3, hs_4, hs_5, hs_6, hs_7, hs_8, hs_9, hs_10, hs_11, hs_12, hs_13, hs_14, hs_15, hs_16, hs_17, hs_18, hs_19, hs_20, hs_21, hs_22, hs_23, hs_24, hs_25, hs_26, hs_27, hs_28, hs_29, hs_30, hs_31, hs_32, hs_33, hs_34, inb_n, bq4, bq5, n100, not_false_eq_true, isB_0, isB_1, nI_clamp, nI_nneg, Nat.zero_add, Nat.le_refl]; done) | omega) only [xX10_arrange_5, xX10_arrange_6, xX10_arrange_9, xX10_arrange_12, xX10_arrange_15, xX10_arrange_17, xX10_arrange_19, xX10_arrange_20, xX10_arrange_21, xX10_arrange_22, xX10_arrange_24, xX10_arrange_27, xX10_arrange_91, cK_some, ofR_some, ofR_none, Option.toList_some, Option.toList_none, List.cons_append, List.nil_append, isL_i, isL_r, isL_u, isL_2, cs_0, cs_i, cs_r, cs_l, cs_ii, cs_ir, cs_ri, cs_rr, cs_iir, cs_irr, ha_1, ha_2, ha_3, ha_4, ha_5, ha_6, ha_7, hs_1, hs_2, hs_3, hs_4, hs_5, hs_6, hs_7, hs_8, hs_9, hs_10, hs_11, hs_12, hs_13, hs_14, hs_15, hs_16, hs_17, hs_18, hs_19, hs_20, hs_21, hs_22, hs_23, hs_24, hs_25, hs_26, hs_27, hs_28, hs_29, hs_30, hs_31, hs_32, hs_33, hs_34, en, Nat.add_sub_cancel, nI_lt, nI_nlt, nI_le, nI_ge, nI_pos, pk_sub, nI_clamp, s2_ne, s2_o, s2_s, nI_add, inb_n, nI_nn, zq0, zq1, ↓reduceIte]
/-- a scene behind k wipes of an order -/
def wk (h : Sp) (q : Qp) (o : Nat → Nat) (k : Nat) : Qp := fo q (fun q k => wipeP h q (o k) (leastP q (hP h - 1))) k
def inWk (w c : Nat) : Prop := w + 3 ≤ c ∧ c ≤ w + 30
def offW (w s : Nat) : Prop := w + 30 < s ∨ s + 81 < w
theorem rn_leave {d a s w : Nat} {h : Sp} {q : Qp} {G : Gm} {I : Im} (hw : Wk G w) (K : CT G I a s h q) (hws : offW w s) (hwa : offSc (w + 3) a) :
    ∃ I', run (d + 1) mX10_leave [.ref w, .ref a] G I = some (none, G, I') ∧ CT G I' (w + 3) s h q ∧ Fr (inSc (w + 3)) I I' := by
  obtain ⟨w1, w2, w3, w4, w5, w6⟩ := hw
  obtain ⟨r0, sc0⟩ := w6 0 (by omega)
  rw [show w + 3 + 4 * 0 = w + 3 by omega] at r0 sc0
  obtain ⟨I', g1, g2, g3⟩ := rn_copy (d := d) K sc0 (by unfold offS; unfold offW at hws; omega) hwa
  refine ⟨I', ?_, g2, g3⟩
  have sc0_1 := sc0.1; have sc0_2 := sc0.2.1; have sc0_3 := sc0.2.2.1; have sc0_4 := sc0.2.2.2.1; have sc0_5 := sc0.2.2.2.2.1; have sc0_6 := sc0.2.2.2.2.2.1; have sc0_7 := sc0.2.2.2.2.2.2
  simp (disch := first | assumption | (simp (disch := omega) only [cK_some, ofR_some, ofR_none, Option.toList_some, Option.toList_none, List.cons_append, List.nil_append, isL_i, isL_r, isL_u, isL_2, cs_0, cs_i, cs_r, cs_l, cs_ii, cs_ir, cs_ri, cs_rr, cs_iir, cs_irr, sc0_1, sc0_2, sc0_3, sc0_4, sc0_5, sc0_6, sc0_7, w1, w5, inb_n, bq4, bq5, n100, not_false_eq_true, isB_0, isB_1, nI_clamp, nI_nneg, Nat.zero_add, Nat.le_refl]; done) | omega) only [xX10_leave_0, xX10_leave_1, xX10_leave_4, xX10_leave_5, xX10_leave_6, xX10_leave_7, xX10_leave_10, cK_some, ofR_some, ofR_none, Option.toList_some, Option.toList_none, List.cons_append, List.nil_append, isL_i, isL_r, isL_u, isL_2, cs_0, cs_i, cs_r, cs_l, cs_ii, cs_ir, cs_ri, cs_rr, cs_iir, cs_irr, sc0_1, sc0_2, sc0_3, sc0_4, sc0_5, sc0_6, sc0_7, rX10_leave, w3, r0, g1, Nat.add_sub_cancel, nI_lt, nI_nlt, nI_le, nI_ge, nI_pos, pk_sub, nI_clamp, s2_ne, s2_o, s2_s, nI_add, inb_n, nI_nn, zq0, zq1, ↓reduceIte]
/-- the first k scenes of a walk -/
def WkV (G : Gm) (I : Im) (w s : Nat) (h : Sp) (q : Qp) (o : Nat → Nat) (m : Nat) : Prop := ∀ k, k ≤ m → CT G I (w + 3 + 4 * k) s h (wk h q o k)
theorem rn_goOn {d s w p : Nat} {h : Sp} {q : Qp} {o : Nat → Nat} {G : Gm} {I : Im} (hw : Wk G w) (hws : offW w s) (hP0 : 0 < hP h) (ho : OrV I w (hN h) o) (hol : ∀ k, k < hN h → o k < hN h) (hp : p ≤ hN h) (hk : WkV G I w s h q o p) :
    ∃ I', run (d + 3) mX10_goOn [.ref w, .ref s, .int (nI p)] G I = some (some (.ref (w + 3 + 4 * hN h)), G, I') ∧ WkV G I' w s h q o (hN h) ∧ Fr (inWk w) I I' := by
  have hw' := hw
  obtain ⟨w1, w2, w3, w4, w5, w6⟩ := hw'
  have K0 := hk 0 (by omega)
  have hs := K0.2.1
  have hspo := K0.2.2.2.2.1
  have hN6 := hspo.1
  have hv := K0.2.2.2.1
  have hoff : ∀ k, k < 7 → offS (w + 3 + 4 * k) s := fun k hk => by unfold offS; unfold offW at hws; omega
  have hs_1 := hs.1; have hs_2 := hs.2.1; have hs_3 := hs.2.2.1; have hs_4 := hs.2.2.2.1; have hs_5 := hs.2.2.2.2.1; have hs_6 := hs.2.2.2.2.2.1; have hs_7 := (hs.2.2.2.2.2.2.1).1; have hs_8 := (hs.2.2.2.2.2.2.1).2.1; have hs_9 := (hs.2.2.2.2.2.2.1).2.2.1; have hs_10 := (hs.2.2.2.2.2.2.1).2.2.2.1; have hs_11 := (hs.2.2.2.2.2.2.1).2.2.2.2.1; have hs_12 := (hs.2.2.2.2.2.2.1).2.2.2.2.2.1; have hs_13 := (hs.2.2.2.2.2.2.1).2.2.2.2.2.2.1; have hs_14 := (hs.2.2.2.2.2.2.1).2.2.2.2.2.2.2.1; have hs_15 := (hs.2.2.2.2.2.2.1).2.2.2.2.2.2.2.2.1; have hs_16 := (hs.2.2.2.2.2.2.1).2.2.2.2.2.2.2.2.2.1; have hs_17 := (hs.2.2.2.2.2.2.1).2.2.2.2.2.2.2.2.2.2.1; have hs_18 := (hs.2.2.2.2.2.2.1).2.2.2.2.2.2.2.2.2.2.2.1; have hs_19 := (hs.2.2.2.2.2.2.1).2.2.2.2.2.2.2.2.2.2.2.2; have hs_20 := (hs.2.2.2.2.2.2.2.1).1; have hs_21 := (hs.2.2.2.2.2.2.2.1).2.1; have hs_22 := (hs.2.2.2.2.2.2.2.1).2.2.1; have hs_23 := (hs.2.2.2.2.2.2.2.1).2.2.2.1; have hs_24 := (hs.2.2.2.2.2.2.2.1).2.2.2.2.1; have hs_25 := (hs.2.2.2.2.2.2.2.1).2.2.2.2.2.1; have hs_26 := (hs.2.2.2.2.2.2.2.1).2.2.2.2.2.2.1; have hs_27 := (hs.2.2.2.2.2.2.2.1).2.2.2.2.2.2.2.1; have hs_28 := (hs.2.2.2.2.2.2.2.1).2.2.2.2.2.2.2.2.1; have hs_29 := (hs.2.2.2.2.2.2.2.1).2.2.2.2.2.2.2.2.2.1; have hs_30 := (hs.2.2.2.2.2.2.2.1).2.2.2.2.2.2.2.2.2.2.1; have hs_31 := (hs.2.2.2.2.2.2.2.1).2.2.2.2.2.2.2.2.2.2.2.1; have hs_32 := (hs.2.2.2.2.2.2.2.1).2.2.2.2.2.2.2.2.2.2.2.2; have hs_33 := hs.2.2.2.2.2.2.2.2.1; have hs_34 := hs.2.2.2.2.2.2.2.2.2.2
  have en0 := hv.1.1
  have main : ∀ m, p + m ≤ hN h → ∃ z : Im × Slot, ex (d + 3) mX10_goOn 2 [.val (.ref w), .val (.ref s), .val (.int (nI p)), .val (.int (nI p)), .unset] [] G I = ex (d + 3) mX10_goOn 2 [.val (.ref w), .val (.ref s), .val (.int (nI p)), .val (.int (nI (p + m))), z.2] [] G z.1 ∧ WkV G z.1 w s h q o (p + m) ∧ Fr (inWk w) I z.1 := by
    intro m
    induction m with
    | zero => intro _; exact ⟨(I, .unset), rfl, hk, Fr.rf⟩
    | succ m ih =>
      intro hm
      obtain ⟨⟨z, zs⟩, f1, f2, f3⟩ := ih (by omega)
      try dsimp only at f1 f2 f3
      have Kk := f2 (p + m) (Nat.le_refl _)
      obtain ⟨r1, sc1⟩ := w6 (p + m) (by omega)
      obtain ⟨r2, sc2⟩ := w6 (p + m + 1) (by omega)
      obtain ⟨x, c1, c2, c3⟩ := rn_copy (d := d + 2) Kk sc2 (hoff _ (by omega)) (by unfold offSc; omega)
      have hlp := rn_leastPatch (d := d + 2) c2 hP0
      obtain ⟨y, t1, t2, t3⟩ := rn_doWipe (d := d) (b := o (p + m)) (p := leastP (wk h q o (p + m)) (hP h - 1)) c2 (hol _ (by omega)) (leastP_lt hP0 _ (Nat.le_refl _))
      have hf : Fr (inSc (w + 3 + 4 * (p + m + 1))) z y := c3.tr t3
      have hf2 : Fr (inWk w) z y := hf.mono (fun c hc => by unfold inSc at hc; unfold inWk; omega)
      have en : z (s + 8) 0 = nI (hN h) := by rw [f3 _ (by unfold inWk; unfold offW at hws; omega)]; exact en0
      have eo : x (w + 1) (p + m) = nI (o (p + m)) := by
        rw [c3 _ (by unfold inSc; omega), f3 _ (by unfold inWk; omega)]
        exact ho _ (by omega)
      rw [show p + (m + 1) = p + m + 1 by omega]
      refine ⟨(y, .val (.ref (w + 3 + 4 * (p + m + 1)))), ?_, fun k hk2 => ?_, f3.tr hf2⟩
      · refine f1.trans ?_
        have s1 := sc1.1
        have s2' := sc2.1
        rw [xX10_goOn_2]
        simp (disch := first | assumption | (simp (disch := omega) only [cK_some, ofR_some, ofR_none, Option.toList_some, Option.toList_none, List.cons_append, List.nil_append, isL_i, isL_r, isL_u, isL_2, cs_0, cs_i, cs_r, cs_l, cs_ii, cs_ir, cs_ri, cs_rr, cs_iir, cs_irr, hs_1, hs_2, hs_3, hs_4, hs_5, hs_6, hs_7, hs_8, hs_9, hs_10, hs_11, hs_12, hs_13, hs_14, hs_15, hs_16, hs_17, hs_18, hs_19, hs_20, hs_21, hs_22, hs_23, hs_24, hs_25, hs_26, hs_27, hs_28, hs_29, hs_30, hs_31, hs_32, hs_33, hs_34, w1, w4, w5, s1, s2', inb_n, bq4, bq5, n100, not_false_eq_true, isB_0, isB_1, nI_clamp, nI_nneg, Nat.zero_add, Nat.le_refl]; done) | omega) only [xX10_goOn_3, xX10_goOn_4, xX10_goOn_7, xX10_goOn_10, xX10_goOn_13, xX10_goOn_14, xX10_goOn_17, xX10_goOn_18, xX10_goOn_19, xX10_goOn_20, xX10_goOn_21, xX10_goOn_23, xX10_goOn_25, xX10_goOn_26, xX10_goOn_29, xX10_goOn_30, xX10_goOn_31, xX10_goOn_34, xX10_goOn_36, xX10_goOn_37, xX10_goOn_38, xX10_goOn_41, xX10_goOn_42, xX10_goOn_43, xX10_goOn_45, xX10_goOn_46, xX10_goOn_49, xX10_goOn_52i, xX10_goOn_52r, xX10_goOn_53, xX10_goOn_56, cK_some, ofR_some, ofR_none, Option.toList_some, Option.toList_none, List.cons_append, List.nil_append, isL_i, isL_r, isL_u, isL_2, cs_0, cs_i, cs_r, cs_l, cs_ii, cs_ir, cs_ri, cs_rr, cs_iir, cs_irr, hs_1, hs_2, hs_3, hs_4, hs_5, hs_6, hs_7, hs_8, hs_9, hs_10, hs_11, hs_12, hs_13, hs_14, hs_15, hs_16, hs_17, hs_18, hs_19, hs_20, hs_21, hs_22, hs_23, hs_24, hs_25, hs_26, hs_27, hs_28, hs_29, hs_30, hs_31, hs_32, hs_33, hs_34, en, w2, w3, r1, r2, c1, eo, hlp, t1, Nat.add_sub_cancel, nI_lt, nI_nlt, nI_le, nI_ge, nI_pos, pk_sub, nI_clamp, s2_ne, s2_o, s2_s, nI_add, inb_n, nI_nn, zq0, zq1, ↓reduceIte]
      · by_cases e : k = p + m + 1
        · rw [e]; exact t2
        · exact (f2 k (by omega)).fr (fun c hc => hf c (by unfold inSc at hc ⊢; unfold offW at hws; omega))
  obtain ⟨⟨z, zs⟩, f1, f2, f3⟩ := main (hN h - p) (by omega)
  rw [show p + (hN h - p) = hN h by omega] at f1 f2
  try dsimp only at f1 f2 f3
  refine ⟨z, ?_, f2, f3⟩
  have en : z (s + 8) 0 = nI (hN h) := by rw [f3 _ (by unfold inWk; unfold offW at hws; omega)]; exact en0
  obtain ⟨r1, sc1⟩ := w6 (hN h) (by omega)
  simp (disch := first | assumption | (simp (disch := omega) only [cK_some, ofR_some, ofR_none, Option.toList_some, Option.toList_none, List.cons_append, List.nil_append, isL_i, isL_r, isL_u, isL_2, cs_0, cs_i, cs_r, cs_l, cs_ii, cs_ir, cs_ri, cs_rr, cs_iir, cs_irr, hs_1, hs_2, hs_3, hs_4, hs_5, hs_6, hs_7, hs_8, hs_9, hs_10, hs_11, hs_12, hs_13, hs_14, hs_15, hs_16, hs_17, hs_18, hs_19, hs_20, hs_21, hs_22, hs_23, hs_24, hs_25, hs_26, hs_27, hs_28, hs_29, hs_30, hs_31, hs_32, hs_33, hs_34, inb_n, bq4, bq5, n100, not_false_eq_true, isB_0, isB_1, nI_clamp, nI_nneg, Nat.zero_add, Nat.le_refl]; done) | omega) only [xX10_goOn_0, xX10_goOn_1, cK_some, ofR_some, ofR_none, Option.toList_some, Option.toList_none, List.cons_append, List.nil_append, isL_i, isL_r, isL_u, isL_2, cs_0, cs_i, cs_r, cs_l, cs_ii, cs_ir, cs_ri, cs_rr, cs_iir, cs_irr, hs_1, hs_2, hs_3, hs_4, hs_5, hs_6, hs_7, hs_8, hs_9, hs_10, hs_11, hs_12, hs_13, hs_14, hs_15, hs_16, hs_17, hs_18, hs_19, hs_20, hs_21, hs_22, hs_23, hs_24, hs_25, hs_26, hs_27, hs_28, hs_29, hs_30, hs_31, hs_32, hs_33, hs_34, rX10_goOn, Nat.add_sub_cancel, nI_lt, nI_nlt, nI_le, nI_ge, nI_pos, pk_sub, nI_clamp, s2_ne, s2_o, s2_s, nI_add, inb_n, nI_nn, zq0, zq1, ↓reduceIte]
  refine Eq.trans f1 ?_
  rw [xX10_goOn_2]
  simp (disch := first | assumption | (simp (disch := omega) only [cK_some, ofR_some, ofR_none, Option.toList_some, Option.toList_none, List.cons_append, List.nil_append, isL_i, isL_r, isL_u, isL_2, cs_0, cs_i, cs_r, cs_l, cs_ii, cs_ir, cs_ri, cs_rr, cs_iir, cs_irr, hs_1, hs_2, hs_3, hs_4, hs_5, hs_6, hs_7, hs_8, hs_9, hs_10, hs_11, hs_12, hs_13, hs_14, hs_15, hs_16, hs_17, hs_18, hs_19, hs_20, hs_21, hs_22, hs_23, hs_24, hs_25, hs_26, hs_27, hs_28, hs_29, hs_30, hs_31, hs_32, hs_33, hs_34, w1, w5, inb_n, bq4, bq5, n100, not_false_eq_true, isB_0, isB_1, nI_clamp, nI_nneg, Nat.zero_add, Nat.le_refl]; done) | omega) only [xX10_goOn_3, xX10_goOn_4, xX10_goOn_7, xX10_goOn_10, xX10_goOn_13, xX10_goOn_14, xX10_goOn_17, xX10_goOn_18, xX10_goOn_19, xX10_goOn_20, xX10_goOn_21, xX10_goOn_23, xX10_goOn_25, xX10_goOn_26, xX10_goOn_29, xX10_goOn_30, xX10_goOn_31, xX10_goOn_34, xX10_goOn_36, xX10_goOn_37, xX10_goOn_38, xX10_goOn_41, xX10_goOn_42, xX10_goOn_43, xX10_goOn_45, xX10_goOn_46, xX10_goOn_49, xX10_goOn_52i, xX10_goOn_52r, xX10_goOn_53, xX10_goOn_56, xX10_goOn_59, xX10_goOn_60, xX10_goOn_63, xX10_goOn_64, xX10_goOn_67, xX10_goOn_70, xX10_goOn_71, cK_some, ofR_some, ofR_none, Option.toList_some, Option.toList_none, List.cons_append, List.nil_append, isL_i, isL_r, isL_u, isL_2, cs_0, cs_i, cs_r, cs_l, cs_ii, cs_ir, cs_ri, cs_rr, cs_iir, cs_irr, hs_1, hs_2, hs_3, hs_4, hs_5, hs_6, hs_7, hs_8, hs_9, hs_10, hs_11, hs_12, hs_13, hs_14, hs_15, hs_16, hs_17, hs_18, hs_19, hs_20, hs_21, hs_22, hs_23, hs_24, hs_25, hs_26, hs_27, hs_28, hs_29, hs_30, hs_31, hs_32, hs_33, hs_34, en, w3, r1, Nat.add_sub_cancel, nI_lt, nI_nlt, nI_le, nI_ge, nI_pos, pk_sub, nI_clamp, s2_ne, s2_o, s2_s, nI_add, inb_n, nI_nn, zq0, zq1, ↓reduceIte]
