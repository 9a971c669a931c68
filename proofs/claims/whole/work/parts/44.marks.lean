/-! marks -/
def up2 (f : Nat → Qp) (k : Nat) (x : Qp) : Nat → Qp := fun j => if j = k then x else f j
theorem rn_addMark3 {d a g : Nat} {G : Gm} {I : Im} (hg : Hy G g) (h0 : I g 1 = nI 3) : run d mX3_addMark [.ref g, .ref a] G I = some (some (.int (-1)), G, I) := by
  obtain ⟨g1, -⟩ := hg
  have := True.intro
  simp (disch := first | assumption | (simp (disch := omega) only [cK_some, ofR_some, ofR_none, Option.toList_some, Option.toList_none, List.cons_append, List.nil_append, isL_i, isL_r, isL_u, isL_2, cs_0, cs_i, cs_r, cs_l, cs_ii, cs_ir, cs_ri, cs_rr, cs_iir, cs_irr, g1, inb_n, bq4, bq5, n100, not_false_eq_true, isB_0, isB_1, nI_clamp, nI_nneg, Nat.zero_add, Nat.le_refl]; done) | omega) only [xX3_addMark_0, xX3_addMark_1, xX3_addMark_4, xX3_addMark_5, xX3_addMark_8, xX3_addMark_9, xX3_addMark_10, xX3_addMark_11, xX3_addMark_14, xX3_addMark_15, xX3_addMark_18, xX3_addMark_19, xX3_addMark_20, xX3_addMark_23, xX3_addMark_24i, xX3_addMark_24r, xX3_addMark_25, xX3_addMark_28, xX3_addMark_29, xX3_addMark_30, xX3_addMark_33, xX3_addMark_34, xX3_addMark_37, xX3_addMark_38, xX3_addMark_39, cK_some, ofR_some, ofR_none, Option.toList_some, Option.toList_none, List.cons_append, List.nil_append, isL_i, isL_r, isL_u, isL_2, cs_0, cs_i, cs_r, cs_l, cs_ii, cs_ir, cs_ri, cs_rr, cs_iir, cs_irr, rX3_addMark, h0, Nat.add_sub_cancel, nI_lt, nI_nlt, nI_le, nI_ge, nI_pos, pk_sub, nI_clamp, s2_ne, s2_o, s2_s, nI_add, inb_n, nI_nn, zq0, zq1, ↓reduceIte]
theorem rn_addMark {d a g s c mk : Nat} {h : Sp} {q : Qp} {U M : Nat → Qp} {G : Gm} {I : Im} (hg : Hy G g) (H : HyV G I g s h c U mk M) (K : CT G I a s h q) (hgs : offH g s) (hga : a + 3 < g ∨ g + 78 < a) (hm : mk < 3) :
    ∃ I', run (d + 1) mX3_addMark [.ref g, .ref a] G I = some (some (.int (nI mk)), G, I') ∧ HyV G I' g s h c U (mk + 1) (up2 M mk q) ∧ Fr (inHy g) I I' := by
  obtain ⟨g1, g2, g3, g4, g5, g6, g7⟩ := hg
  obtain ⟨h1, h2, h3, h4, ⟨t, t1, t2, t3⟩, h5⟩ := id H
  obtain ⟨r0, sc0⟩ := g7 mk hm
  unfold offH at hgs
  obtain ⟨y, c1, c2, c3⟩ := rn_copy (d := d) K sc0 (by unfold offS; omega) (by unfold offSc; omega)
  have eg : y g = I g := c3 g (by unfold inSc; omega)
  have hf : Fr (inHy g) I y := c3.mono (fun x hx => by unfold inSc at hx; unfold inHy; omega)
  have hfz : ∀ x, x ≠ g → s2 y g 1 (nI (mk + 1)) x = y x := fun x hx => s2_ne hx
  have sc0_1 := sc0.1; have sc0_2 := sc0.2.1; have sc0_3 := sc0.2.2.1; have sc0_4 := sc0.2.2.2.1; have sc0_5 := sc0.2.2.2.2.1; have sc0_6 := sc0.2.2.2.2.2.1; have sc0_7 := sc0.2.2.2.2.2.2
  refine ⟨s2 y g 1 (nI (mk + 1)), ?_, ⟨?_, h2, s2_s, by omega, ⟨t, t1, ?_, fun j hj => ?_⟩, fun i hi => ?_⟩, hf.s2 (Or.inl rfl)⟩
  · have e1 : y g 1 = nI mk := by rw [eg]; exact h3
    simp (disch := first | assumption | (simp (disch := omega) only [cK_some, ofR_some, ofR_none, Option.toList_some, Option.toList_none, List.cons_append, List.nil_append, isL_i, isL_r, isL_u, isL_2, cs_0, cs_i, cs_r, cs_l, cs_ii, cs_ir, cs_ri, cs_rr, cs_iir, cs_irr, sc0_1, sc0_2, sc0_3, sc0_4, sc0_5, sc0_6, sc0_7, g1, g5, inb_n, bq4, bq5, n100, not_false_eq_true, isB_0, isB_1, nI_clamp, nI_nneg, Nat.zero_add, Nat.le_refl]; done) | omega) only [xX3_addMark_0, xX3_addMark_1, xX3_addMark_4, xX3_addMark_5, xX3_addMark_8, xX3_addMark_9, xX3_addMark_10, xX3_addMark_11, xX3_addMark_14, xX3_addMark_15, xX3_addMark_18, xX3_addMark_19, xX3_addMark_20, xX3_addMark_23, xX3_addMark_24i, xX3_addMark_24r, xX3_addMark_25, xX3_addMark_28, xX3_addMark_29, xX3_addMark_30, xX3_addMark_33, xX3_addMark_34, xX3_addMark_37, xX3_addMark_38, xX3_addMark_39, cK_some, ofR_some, ofR_none, Option.toList_some, Option.toList_none, List.cons_append, List.nil_append, isL_i, isL_r, isL_u, isL_2, cs_0, cs_i, cs_r, cs_l, cs_ii, cs_ir, cs_ri, cs_rr, cs_iir, cs_irr, sc0_1, sc0_2, sc0_3, sc0_4, sc0_5, sc0_6, sc0_7, rX3_addMark, h3, g3, r0, c1, e1, Nat.add_sub_cancel, nI_lt, nI_nlt, nI_le, nI_ge, nI_pos, pk_sub, nI_clamp, s2_ne, s2_o, s2_s, nI_add, inb_n, nI_nn, zq0, zq1, ↓reduceIte]
  · rw [s2_o (by decide), eg]; exact h1
  · rw [s2_o (by decide), eg]; exact t2
  · exact ((t3 j hj).fr (fun x hx => c3 x (by unfold inSc at hx ⊢; omega))).fr (fun x hx => hfz x (by unfold inSc at hx; omega))
  · unfold up2
    by_cases e : i = mk
    · rw [e, if_pos rfl]
      exact c2.fr (fun x hx => hfz x (by unfold inSc at hx; omega))
    · rw [if_neg e]
      exact ((h5 i (by omega)).fr (fun x hx => c3 x (by unfold inSc at hx ⊢; omega))).fr (fun x hx => hfz x (by unfold inSc at hx; omega))
theorem rn_goBackN {d a g : Nat} {mk : Nat} {x : Int32} {G : Gm} {I : Im} (hg : Hy G g) (h0 : I g 1 = nI mk) (hx : x < 0 ∨ nI mk ≤ x) : run d mX3_goBack [.ref g, .int x, .ref a] G I = some (some (.int (nI 0)), G, I) := by
  obtain ⟨g1, -⟩ := hg
  have := True.intro
  by_cases c : x < 0
  · simp (disch := first | assumption | (simp (disch := omega) only [cK_some, ofR_some, ofR_none, Option.toList_some, Option.toList_none, List.cons_append, List.nil_append, isL_i, isL_r, isL_u, isL_2, cs_0, cs_i, cs_r, cs_l, cs_ii, cs_ir, cs_ri, cs_rr, cs_iir, cs_irr, g1, inb_n, bq4, bq5, n100, not_false_eq_true, isB_0, isB_1, nI_clamp, nI_nneg, Nat.zero_add, Nat.le_refl]; done) | omega) only [xX3_goBack_0, xX3_goBack_1, xX3_goBack_4, xX3_goBack_5, xX3_goBack_6, xX3_goBack_9, xX3_goBack_12, xX3_goBack_13, xX3_goBack_14, xX3_goBack_15, xX3_goBack_16, xX3_goBack_19, xX3_goBack_20, xX3_goBack_21, xX3_goBack_24, xX3_goBack_25, xX3_goBack_26, xX3_goBack_29, xX3_goBack_30, cK_some, ofR_some, ofR_none, Option.toList_some, Option.toList_none, List.cons_append, List.nil_append, isL_i, isL_r, isL_u, isL_2, cs_0, cs_i, cs_r, cs_l, cs_ii, cs_ir, cs_ri, cs_rr, cs_iir, cs_irr, rX3_goBack, h0, c, Nat.add_sub_cancel, nI_lt, nI_nlt, nI_le, nI_ge, nI_pos, pk_sub, nI_clamp, s2_ne, s2_o, s2_s, nI_add, inb_n, nI_nn, zq0, zq1, ↓reduceIte]
  · have c2 := hx.resolve_left c
    have c3 : ¬ x < nI mk := Int32.not_lt.mpr c2
    simp (disch := first | assumption | (simp (disch := omega) only [cK_some, ofR_some, ofR_none, Option.toList_some, Option.toList_none, List.cons_append, List.nil_append, isL_i, isL_r, isL_u, isL_2, cs_0, cs_i, cs_r, cs_l, cs_ii, cs_ir, cs_ri, cs_rr, cs_iir, cs_irr, g1, inb_n, bq4, bq5, n100, not_false_eq_true, isB_0, isB_1, nI_clamp, nI_nneg, Nat.zero_add, Nat.le_refl]; done) | omega) only [xX3_goBack_0, xX3_goBack_1, xX3_goBack_4, xX3_goBack_5, xX3_goBack_6, xX3_goBack_9, xX3_goBack_12, xX3_goBack_13, xX3_goBack_14, xX3_goBack_15, xX3_goBack_16, xX3_goBack_19, xX3_goBack_20, xX3_goBack_21, xX3_goBack_24, xX3_goBack_25, xX3_goBack_26, xX3_goBack_29, xX3_goBack_30, cK_some, ofR_some, ofR_none, Option.toList_some, Option.toList_none, List.cons_append, List.nil_append, isL_i, isL_r, isL_u, isL_2, cs_0, cs_i, cs_r, cs_l, cs_ii, cs_ir, cs_ri, cs_rr, cs_iir, cs_irr, rX3_goBack, h0, c, c3, Nat.add_sub_cancel, nI_lt, nI_nlt, nI_le, nI_ge, nI_pos, pk_sub, nI_clamp, s2_ne, s2_o, s2_s, nI_add, inb_n, nI_nn, zq0, zq1, ↓reduceIte]
theorem rn_goBack {d a g s c mk i : Nat} {h : Sp} {q : Qp} {U M : Nat → Qp} {G : Gm} {I : Im} (hg : Hy G g) (H : HyV G I g s h c U mk M) (K : CT G I a s h q) (hgs : offH g s) (hga : a + 3 < g ∨ g + 78 < a) (hi : i < mk) :
    ∃ I', run (d + 1) mX3_goBack [.ref g, .int (nI i), .ref a] G I = some (some (.int (nI 1)), G, I') ∧ CT G I' a s h (M i) ∧ HyV G I' g s h 0 U mk M ∧ Fr (fun x => x = g ∨ inSc a x) I I' := by
  obtain ⟨g1, g2, g3, g4, g5, g6, g7⟩ := hg
  obtain ⟨h1, h2, h3, h4, ⟨t, t1, t2, t3⟩, h5⟩ := id H
  obtain ⟨r0, sc0⟩ := g7 i (by omega)
  unfold offH at hgs
  have hos := K.2.2.1
  unfold offS at hos
  obtain ⟨y, c1, c2, c3⟩ := rn_copy (d := d) (h5 i hi) K.1 K.2.2.1 (by unfold offSc; omega)
  have eg : y g = I g := c3 g (by unfold inSc; omega)
  have hfz : ∀ x, x ≠ g → s2 y g 0 (nI 0) x = y x := fun x hx => s2_ne hx
  have sc := K.1
  have sc_1 := sc.1; have sc_2 := sc.2.1; have sc_3 := sc.2.2.1; have sc_4 := sc.2.2.2.1; have sc_5 := sc.2.2.2.2.1; have sc_6 := sc.2.2.2.2.2.1; have sc_7 := sc.2.2.2.2.2.2
  refine ⟨s2 y g 0 (nI 0), ?_, c2.fr (fun x hx => hfz x (by unfold inSc at hx; omega)), ⟨s2_s, by omega, ?_, h4, ⟨t, t1, ?_, fun j hj => absurd hj (by omega)⟩, fun j hj => ?_⟩, (c3.mono (fun x hx => Or.inr hx)).s2 (Or.inl rfl)⟩
  · simp (disch := first | assumption | (simp (disch := omega) only [cK_some, ofR_some, ofR_none, Option.toList_some, Option.toList_none, List.cons_append, List.nil_append, isL_i, isL_r, isL_u, isL_2, cs_0, cs_i, cs_r, cs_l, cs_ii, cs_ir, cs_ri, cs_rr, cs_iir, cs_irr, sc_1, sc_2, sc_3, sc_4, sc_5, sc_6, sc_7, g1, g5, inb_n, bq4, bq5, n100, not_false_eq_true, isB_0, isB_1, nI_clamp, nI_nneg, Nat.zero_add, Nat.le_refl]; done) | omega) only [xX3_goBack_0, xX3_goBack_1, xX3_goBack_4, xX3_goBack_5, xX3_goBack_6, xX3_goBack_9, xX3_goBack_12, xX3_goBack_13, xX3_goBack_14, xX3_goBack_15, xX3_goBack_16, xX3_goBack_19, xX3_goBack_20, xX3_goBack_21, xX3_goBack_24, xX3_goBack_25, xX3_goBack_26, xX3_goBack_29, xX3_goBack_30, cK_some, ofR_some, ofR_none, Option.toList_some, Option.toList_none, List.cons_append, List.nil_append, isL_i, isL_r, isL_u, isL_2, cs_0, cs_i, cs_r, cs_l, cs_ii, cs_ir, cs_ri, cs_rr, cs_iir, cs_irr, sc_1, sc_2, sc_3, sc_4, sc_5, sc_6, sc_7, rX3_goBack, h3, g3, r0, c1, Nat.add_sub_cancel, nI_lt, nI_nlt, nI_le, nI_ge, nI_pos, pk_sub, nI_clamp, s2_ne, s2_o, s2_s, nI_add, inb_n, nI_nn, zq0, zq1, ↓reduceIte]
  · rw [s2_o (by decide), eg]; exact h3
  · rw [s2_o (by decide), eg]; exact t2
  · exact ((h5 j hj).fr (fun x hx => c3 x (by unfold inSc at hx ⊢; omega))).fr (fun x hx => hfz x (by unfold inSc at hx; omega))
