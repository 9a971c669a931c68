/-! what was done, what is marked -/
def Hy (G : Gm) (g : Nat) : Prop := gT G g = (13, 5) ∧ gR G g 3 = some (g + 1) ∧ gR G g 4 = some (g + 2) ∧ gT G (g + 1) = (4, 16) ∧ gT G (g + 2) = (4, 3) ∧ (∀ k, k < 16 → gR G (g + 1) k = some (g + 3 + 4 * k) ∧ Sc G (g + 3 + 4 * k)) ∧ (∀ k, k < 3 → gR G (g + 2) k = some (g + 67 + 4 * k) ∧ Sc G (g + 67 + 4 * k))
def inHy (g c : Nat) : Prop := c = g ∨ (g + 3 ≤ c ∧ c ≤ g + 78)
def offH (g s : Nat) : Prop := g + 78 < s ∨ s + 81 < g
/-- c acts, the latest U 0; mk marks -/
def HyV (G : Gm) (I : Im) (g s : Nat) (h : Sp) (c : Nat) (U : Nat → Qp) (mk : Nat) (M : Nat → Qp) : Prop := I g 0 = nI c ∧ c ≤ 16 ∧ I g 1 = nI mk ∧ mk ≤ 3 ∧ (∃ t, t < 16 ∧ I g 2 = nI t ∧ ∀ j, j < c → CT G I (g + 3 + 4 * ((t + 15 - j) % 16)) s h (U j)) ∧ ∀ i, i < mk → CT G I (g + 67 + 4 * i) s h (M i)
theorem HyV.fr {G : Gm} {I I' : Im} {g s c mk : Nat} {h : Sp} {U M : Nat → Qp} (H : HyV G I g s h c U mk M) (hf : ∀ x, (s ≤ x ∧ x ≤ s + 14) ∨ inHy g x → I' x = I x) : HyV G I' g s h c U mk M := by
  obtain ⟨h1, h2, h3, h4, ⟨t, t1, t2, t3⟩, h5⟩ := H
  have eg := hf g (Or.inr (Or.inl rfl))
  refine ⟨by rw [eg]; exact h1, h2, by rw [eg]; exact h3, h4, ⟨t, t1, by rw [eg]; exact t2, fun j hj => (t3 j hj).fr (fun x hx => hf x ?_)⟩, fun i hi => (h5 i hi).fr (fun x hx => hf x ?_)⟩
  · unfold inSc at hx; unfold inHy; omega
  · unfold inSc at hx; unfold inHy; omega
theorem rn_hyClear {d g s c mk : Nat} {h : Sp} {U M : Nat → Qp} {G : Gm} {I : Im} (hg : Hy G g) (ht : ∃ t, t < 16 ∧ I g 2 = nI t) :
    run d mX3_clear [.ref g] G I = some (none, G, s2 (s2 I g 0 (nI 0)) g 1 (nI 0)) ∧ HyV G (s2 (s2 I g 0 (nI 0)) g 1 (nI 0)) g s h 0 U 0 M := by
  obtain ⟨g1, -⟩ := hg
  have := True.intro
  refine ⟨?_, ?_, by omega, ?_, by omega, ?_, fun i hi => absurd hi (by omega)⟩
  · simp (disch := first | assumption | (simp (disch := omega) only [cK_some, ofR_some, ofR_none, Option.toList_some, Option.toList_none, List.cons_append, List.nil_append, isL_i, isL_r, isL_u, isL_2, cs_0, cs_i, cs_r, cs_l, cs_ii, cs_ir, cs_ri, cs_rr, cs_iir, cs_irr, g1, inb_n, bq4, bq5, n100, not_false_eq_true, isB_0, isB_1, nI_clamp, nI_nneg, Nat.zero_add, Nat.le_refl]; done) | omega) only [xX3_clear_0, xX3_clear_1, xX3_clear_2, xX3_clear_5, xX3_clear_6, xX3_clear_7, xX3_clear_10, cK_some, ofR_some, ofR_none, Option.toList_some, Option.toList_none, List.cons_append, List.nil_append, isL_i, isL_r, isL_u, isL_2, cs_0, cs_i, cs_r, cs_l, cs_ii, cs_ir, cs_ri, cs_rr, cs_iir, cs_irr, rX3_clear, Nat.add_sub_cancel, nI_lt, nI_nlt, nI_le, nI_ge, nI_pos, pk_sub, nI_clamp, s2_ne, s2_o, s2_s, nI_add, inb_n, nI_nn, zq0, zq1, ↓reduceIte]
  · rw [s2_o (by decide), s2_s]
  · rw [s2_s]
  · obtain ⟨t, h1, h2⟩ := ht
    exact ⟨t, h1, by rw [s2_o (by decide), s2_o (by decide)]; exact h2, fun j hj => absurd hj (by omega)⟩
def psh (q : Qp) (U : Nat → Qp) : Nat → Qp := fun j => match j with
  | 0 => q
  | j + 1 => U j
theorem rn_keep {d a g s c mk : Nat} {h : Sp} {q : Qp} {U M : Nat → Qp} {G : Gm} {I : Im} (hg : Hy G g) (H : HyV G I g s h c U mk M) (K : CT G I a s h q) (hgs : offH g s) (hga : a + 3 < g ∨ g + 78 < a) :
    ∃ I', run (d + 1) mX3_keep [.ref g, .ref a] G I = some (none, G, I') ∧ HyV G I' g s h (min (c + 1) 16) (psh q U) mk M ∧ Fr (inHy g) I I' := by
  obtain ⟨g1, g2, g3, g4, g5, g6, g7⟩ := hg
  obtain ⟨h1, h2, h3, h4, ⟨t, t1, t2, t3⟩, h5⟩ := id H
  obtain ⟨r0, sc0⟩ := g6 t t1
  unfold offH at hgs
  obtain ⟨y, c1, c2, c3⟩ := rn_copy (d := d) K sc0 (by unfold offS; omega) (by unfold offSc; omega)
  have eg : y g = I g := c3 g (by unfold inSc; omega)
  have sc0_1 := sc0.1; have sc0_2 := sc0.2.1; have sc0_3 := sc0.2.2.1; have sc0_4 := sc0.2.2.2.1; have sc0_5 := sc0.2.2.2.2.1; have sc0_6 := sc0.2.2.2.2.2.1; have sc0_7 := sc0.2.2.2.2.2.2
  have hmn := nI_mn (y := 16) (z := c + 1) (by omega) (by omega)
  have hf : Fr (inHy g) I y := c3.mono (fun x hx => by unfold inSc at hx; unfold inHy; omega)
  -- behind it
  have fin : ∀ t', t' < 16 → (t' + 15) % 16 = t → (∀ j, j < 15 → (t' + 15 - (j + 1)) % 16 = (t + 15 - j) % 16) → HyV G (s2 (s2 y g 2 (nI t')) g 0 (nI (min (c + 1) 16))) g s h (min (c + 1) 16) (psh q U) mk M := by
    intro t' h6 h7 h8
    have hfz : ∀ x, x ≠ g → s2 (s2 y g 2 (nI t')) g 0 (nI (min (c + 1) 16)) x = y x := fun x hx => by rw [s2_ne hx, s2_ne hx]
    refine ⟨s2_s, Nat.min_le_right _ _, ?_, h4, ⟨t', h6, ?_, fun j hj => ?_⟩, fun i hi => ?_⟩
    · rw [s2_o (by decide), s2_o (by decide), eg]; exact h3
    · rw [s2_o (by decide), s2_s]
    · cases j with
      | zero =>
        rw [show (t' + 15 - 0) % 16 = t by omega]
        exact c2.fr (fun x hx => hfz x (by unfold inSc at hx; omega))
      | succ j =>
        have hj2 : j < 15 := by have := Nat.min_le_right (c + 1) 16; omega
        have hj3 : j < c := by have := Nat.min_le_left (c + 1) 16; omega
        rw [h8 j hj2]
        refine ((t3 j hj3).fr (fun x hx => ?_)).fr (fun x hx => hfz x (by unfold inSc at hx; omega))
        have hne : (t + 15 - j) % 16 ≠ t := by omega
        exact c3 x (by unfold inSc at hx ⊢; omega)
    · refine ((h5 i hi).fr (fun x hx => c3 x (by unfold inSc at hx ⊢; omega))).fr (fun x hx => hfz x (by unfold inSc at hx; omega))
  by_cases e : t = 15
  · subst e
    refine ⟨s2 (s2 y g 2 (nI 0)) g 0 (nI (min (c + 1) 16)), ?_, fin 0 (by omega) (by omega) (fun j hj => by omega), (hf.s2 (Or.inl rfl)).s2 (Or.inl rfl)⟩
    have e2 : y g 2 = nI 15 := by rw [eg]; exact t2
    have e0 : y g 0 = nI c := by rw [eg]; exact h1
    simp (disch := first | assumption | (simp (disch := omega) only [cK_some, ofR_some, ofR_none, Option.toList_some, Option.toList_none, List.cons_append, List.nil_append, isL_i, isL_r, isL_u, isL_2, cs_0, cs_i, cs_r, cs_l, cs_ii, cs_ir, cs_ri, cs_rr, cs_iir, cs_irr, sc0_1, sc0_2, sc0_3, sc0_4, sc0_5, sc0_6, sc0_7, g1, g4, inb_n, bq4, bq5, n100, not_false_eq_true, isB_0, isB_1, nI_clamp, nI_nneg, Nat.zero_add, Nat.le_refl]; done) | omega) only [xX3_keep_0, xX3_keep_1, xX3_keep_4, xX3_keep_5, xX3_keep_8, xX3_keep_9, xX3_keep_10, xX3_keep_13, xX3_keep_14, xX3_keep_15, xX3_keep_18, xX3_keep_20, xX3_keep_23, xX3_keep_24, xX3_keep_27, xX3_keep_28, xX3_keep_31, xX3_keep_32, xX3_keep_33, xX3_keep_36, xX3_keep_37, xX3_keep_38, xX3_keep_41, xX3_keep_42, xX3_keep_43, xX3_keep_45, xX3_keep_48, xX3_keep_51, cK_some, ofR_some, ofR_none, Option.toList_some, Option.toList_none, List.cons_append, List.nil_append, isL_i, isL_r, isL_u, isL_2, cs_0, cs_i, cs_r, cs_l, cs_ii, cs_ir, cs_ri, cs_rr, cs_iir, cs_irr, sc0_1, sc0_2, sc0_3, sc0_4, sc0_5, sc0_6, sc0_7, rX3_keep, g2, t2, r0, c1, e2, e0, hmn, Nat.add_sub_cancel, nI_lt, nI_nlt, nI_le, nI_ge, nI_pos, pk_sub, nI_clamp, s2_ne, s2_o, s2_s, nI_add, inb_n, nI_nn, zq0, zq1, ↓reduceIte]
  · have ne : ¬ nI t = nI 15 := fun z => e ((nI_eq (by omega) (by omega)).mp z)
    refine ⟨s2 (s2 y g 2 (nI (t + 1))) g 0 (nI (min (c + 1) 16)), ?_, fin (t + 1) (by omega) (by omega) (fun j hj => by omega), (hf.s2 (Or.inl rfl)).s2 (Or.inl rfl)⟩
    have e2 : y g 2 = nI t := by rw [eg]; exact t2
    have e0 : y g 0 = nI c := by rw [eg]; exact h1
    simp (disch := first | assumption | (simp (disch := omega) only [cK_some, ofR_some, ofR_none, Option.toList_some, Option.toList_none, List.cons_append, List.nil_append, isL_i, isL_r, isL_u, isL_2, cs_0, cs_i, cs_r, cs_l, cs_ii, cs_ir, cs_ri, cs_rr, cs_iir, cs_irr, sc0_1, sc0_2, sc0_3, sc0_4, sc0_5, sc0_6, sc0_7, g1, g4, inb_n, bq4, bq5, n100, not_false_eq_true, isB_0, isB_1, nI_clamp, nI_nneg, Nat.zero_add, Nat.le_refl]; done) | omega) only [xX3_keep_0, xX3_keep_1, xX3_keep_4, xX3_keep_5, xX3_keep_8, xX3_keep_9, xX3_keep_10, xX3_keep_13, xX3_keep_14, xX3_keep_15, xX3_keep_18, xX3_keep_20, xX3_keep_23, xX3_keep_24, xX3_keep_27, xX3_keep_28, xX3_keep_31, xX3_keep_32, xX3_keep_33, xX3_keep_36, xX3_keep_37, xX3_keep_38, xX3_keep_41, xX3_keep_42, xX3_keep_43, xX3_keep_45, xX3_keep_48, xX3_keep_51, cK_some, ofR_some, ofR_none, Option.toList_some, Option.toList_none, List.cons_append, List.nil_append, isL_i, isL_r, isL_u, isL_2, cs_0, cs_i, cs_r, cs_l, cs_ii, cs_ir, cs_ri, cs_rr, cs_iir, cs_irr, sc0_1, sc0_2, sc0_3, sc0_4, sc0_5, sc0_6, sc0_7, rX3_keep, g2, t2, r0, c1, e2, e0, ne, hmn, Nat.add_sub_cancel, nI_lt, nI_nlt, nI_le, nI_ge, nI_pos, pk_sub, nI_clamp, s2_ne, s2_o, s2_s, nI_add, inb_n, nI_nn, zq0, zq1, ↓reduceIte]
theorem rn_takeBack0 {d a g : Nat} {G : Gm} {I : Im} (hg : Hy G g) (h0 : I g 0 = nI 0) : run d mX3_takeBack [.ref g, .ref a] G I = some (some (.int (nI 0)), G, I) := by
  obtain ⟨g1, -⟩ := hg
  have := True.intro
  simp (disch := first | assumption | (simp (disch := omega) only [cK_some, ofR_some, ofR_none, Option.toList_some, Option.toList_none, List.cons_append, List.nil_append, isL_i, isL_r, isL_u, isL_2, cs_0, cs_i, cs_r, cs_l, cs_ii, cs_ir, cs_ri, cs_rr, cs_iir, cs_irr, g1, inb_n, bq4, bq5, n100, not_false_eq_true, isB_0, isB_1, nI_clamp, nI_nneg, Nat.zero_add, Nat.le_refl]; done) | omega) only [xX3_takeBack_0, xX3_takeBack_1, xX3_takeBack_4, xX3_takeBack_7, xX3_takeBack_8, xX3_takeBack_9, xX3_takeBack_10, xX3_takeBack_11, xX3_takeBack_14, xX3_takeBack_17, xX3_takeBack_19, xX3_takeBack_22, xX3_takeBack_23, xX3_takeBack_26, xX3_takeBack_27, xX3_takeBack_28, xX3_takeBack_31, xX3_takeBack_32, xX3_takeBack_33, xX3_takeBack_36, xX3_takeBack_37, xX3_takeBack_40, xX3_takeBack_41, xX3_takeBack_44, xX3_takeBack_45i, xX3_takeBack_45r, xX3_takeBack_46, xX3_takeBack_49, xX3_takeBack_50, xX3_takeBack_51, xX3_takeBack_54, xX3_takeBack_55, cK_some, ofR_some, ofR_none, Option.toList_some, Option.toList_none, List.cons_append, List.nil_append, isL_i, isL_r, isL_u, isL_2, cs_0, cs_i, cs_r, cs_l, cs_ii, cs_ir, cs_ri, cs_rr, cs_iir, cs_irr, rX3_takeBack, h0, Nat.add_sub_cancel, nI_lt, nI_nlt, nI_le, nI_ge, nI_pos, pk_sub, nI_clamp, s2_ne, s2_o, s2_s, nI_add, inb_n, nI_nn, zq0, zq1, ↓reduceIte]
theorem rn_takeBack {d a g s c mk : Nat} {h : Sp} {q : Qp} {U M : Nat → Qp} {G : Gm} {I : Im} (hg : Hy G g) (H : HyV G I g s h c U mk M) (K : CT G I a s h q) (hgs : offH g s) (hga : a + 3 < g ∨ g + 78 < a) (hc : 0 < c) :
    ∃ I', run (d + 1) mX3_takeBack [.ref g, .ref a] G I = some (some (.int (nI 1)), G, I') ∧ CT G I' a s h (U 0) ∧ HyV G I' g s h (c - 1) (fun j => U (j + 1)) mk M ∧ Fr (fun x => x = g ∨ inSc a x) I I' := by
  obtain ⟨g1, g2, g3, g4, g5, g6, g7⟩ := hg
  obtain ⟨h1, h2, h3, h4, ⟨t, t1, t2, t3⟩, h5⟩ := id H
  unfold offH at hgs
  have nc : ¬ nI c = 0 := nI_ne0 hc (by omega)
  have key : ∀ t', t' < 16 → t' = (t + 15) % 16 → ∃ I', (run d mX6_copy [.ref a, .ref (g + 3 + 4 * t')] G (s2 I g 2 (nI t')) = some (none, G, I')) ∧ I' g 0 = nI c ∧ I' g 2 = nI t' ∧ CT G (s2 I' g 0 (nI (c - 1))) a s h (U 0) ∧ HyV G (s2 I' g 0 (nI (c - 1))) g s h (c - 1) (fun j => U (j + 1)) mk M ∧ Fr (fun x => x = g ∨ inSc a x) I (s2 I' g 0 (nI (c - 1))) := by
    intro t' h6 h7
    have K0 := t3 0 hc
    rw [show (t + 15 - 0) % 16 = t' by omega] at K0
    have K1 : CT G (s2 I g 2 (nI t')) (g + 3 + 4 * t') s h (U 0) := K0.fr (fun x hx => s2_ne (by unfold inSc at hx; omega))
    obtain ⟨y, c1, c2, c3⟩ := rn_copy (d := d) K1 K.1 K.2.2.1 (by unfold offSc; omega)
    have eg : y g = s2 I g 2 (nI t') g := c3 g (by unfold inSc; omega)
    have hz : ∀ x, x ≠ g → ¬ inSc a x → s2 y g 0 (nI (c - 1)) x = I x := fun x hx hx2 => by rw [s2_ne hx, c3 x hx2, s2_ne hx]
    refine ⟨y, c1, ?_, ?_, c2.fr (fun x hx => s2_ne (by unfold inSc at hx; omega)), ⟨s2_s, by omega, ?_, h4, ⟨t', h6, ?_, fun j hj => ?_⟩, fun i hi => ?_⟩, fun x hx => hz x (fun q => hx (Or.inl q)) (fun q => hx (Or.inr q))⟩
    · rw [eg, s2_o (by decide)]; exact h1
    · rw [eg, s2_s]
    · rw [s2_o (by decide), eg, s2_o (by decide)]; exact h3
    · rw [s2_o (by decide), eg, s2_s]
    · have K2 := t3 (j + 1) (by omega)
      rw [show (t + 15 - (j + 1)) % 16 = (t' + 15 - j) % 16 by omega] at K2
      exact K2.fr (fun x hx => hz x (by unfold inSc at hx; omega) (by unfold inSc at hx ⊢; have := K.2.2.1; unfold offS at this; omega))
    · exact (h5 i hi).fr (fun x hx => hz x (by unfold inSc at hx; omega) (by unfold inSc at hx ⊢; have := K.2.2.1; unfold offS at this; omega))
  have sc := K.1
  have sc_1 := sc.1; have sc_2 := sc.2.1; have sc_3 := sc.2.2.1; have sc_4 := sc.2.2.2.1; have sc_5 := sc.2.2.2.2.1; have sc_6 := sc.2.2.2.2.2.1; have sc_7 := sc.2.2.2.2.2.2
  by_cases e : t = 0
  · subst e
    obtain ⟨I', k1, k2, k2', k3, k4, k5⟩ := key 15 (by omega) (by omega)
    obtain ⟨r0, sc0⟩ := g6 15 (by omega)
    refine ⟨_, ?_, k3, k4, k5⟩
    simp (disch := first | assumption | (simp (disch := omega) only [cK_some, ofR_some, ofR_none, Option.toList_some, Option.toList_none, List.cons_append, List.nil_append, isL_i, isL_r, isL_u, isL_2, cs_0, cs_i, cs_r, cs_l, cs_ii, cs_ir, cs_ri, cs_rr, cs_iir, cs_irr, sc_1, sc_2, sc_3, sc_4, sc_5, sc_6, sc_7, g1, g4, inb_n, bq4, bq5, n100, not_false_eq_true, isB_0, isB_1, nI_clamp, nI_nneg, Nat.zero_add, Nat.le_refl]; done) | omega) only [xX3_takeBack_0, xX3_takeBack_1, xX3_takeBack_4, xX3_takeBack_7, xX3_takeBack_8, xX3_takeBack_9, xX3_takeBack_10, xX3_takeBack_11, xX3_takeBack_14, xX3_takeBack_17, xX3_takeBack_19, xX3_takeBack_22, xX3_takeBack_23, xX3_takeBack_26, xX3_takeBack_27, xX3_takeBack_28, xX3_takeBack_31, xX3_takeBack_32, xX3_takeBack_33, xX3_takeBack_36, xX3_takeBack_37, xX3_takeBack_40, xX3_takeBack_41, xX3_takeBack_44, xX3_takeBack_45i, xX3_takeBack_45r, xX3_takeBack_46, xX3_takeBack_49, xX3_takeBack_50, xX3_takeBack_51, xX3_takeBack_54, xX3_takeBack_55, cK_some, ofR_some, ofR_none, Option.toList_some, Option.toList_none, List.cons_append, List.nil_append, isL_i, isL_r, isL_u, isL_2, cs_0, cs_i, cs_r, cs_l, cs_ii, cs_ir, cs_ri, cs_rr, cs_iir, cs_irr, sc_1, sc_2, sc_3, sc_4, sc_5, sc_6, sc_7, rX3_takeBack, h1, nc, t2, g2, r0, k1, k2, Nat.add_sub_cancel, nI_lt, nI_nlt, nI_le, nI_ge, nI_pos, pk_sub, nI_clamp, s2_ne, s2_o, s2_s, nI_add, inb_n, nI_nn, zq0, zq1, ↓reduceIte]
  · have ne : ¬ nI t = 0 := nI_ne0 (by omega) (by omega)
    obtain ⟨I', k1, k2, k2', k3, k4, k5⟩ := key (t - 1) (by omega) (by omega)
    obtain ⟨r0, sc0⟩ := g6 (t - 1) (by omega)
    refine ⟨_, ?_, k3, k4, k5⟩
    simp (disch := first | assumption | (simp (disch := omega) only [cK_some, ofR_some, ofR_none, Option.toList_some, Option.toList_none, List.cons_append, List.nil_append, isL_i, isL_r, isL_u, isL_2, cs_0, cs_i, cs_r, cs_l, cs_ii, cs_ir, cs_ri, cs_rr, cs_iir, cs_irr, sc_1, sc_2, sc_3, sc_4, sc_5, sc_6, sc_7, g1, g4, inb_n, bq4, bq5, n100, not_false_eq_true, isB_0, isB_1, nI_clamp, nI_nneg, Nat.zero_add, Nat.le_refl]; done) | omega) only [xX3_takeBack_0, xX3_takeBack_1, xX3_takeBack_4, xX3_takeBack_7, xX3_takeBack_8, xX3_takeBack_9, xX3_takeBack_10, xX3_takeBack_11, xX3_takeBack_14, xX3_takeBack_17, xX3_takeBack_19, xX3_takeBack_22, xX3_takeBack_23, xX3_takeBack_26, xX3_takeBack_27, xX3_takeBack_28, xX3_takeBack_31, xX3_takeBack_32, xX3_takeBack_33, xX3_takeBack_36, xX3_takeBack_37, xX3_takeBack_40, xX3_takeBack_41, xX3_takeBack_44, xX3_takeBack_45i, xX3_takeBack_45r, xX3_takeBack_46, xX3_takeBack_49, xX3_takeBack_50, xX3_takeBack_51, xX3_takeBack_54, xX3_takeBack_55, cK_some, ofR_some, ofR_none, Option.toList_some, Option.toList_none, List.cons_append, List.nil_append, isL_i, isL_r, isL_u, isL_2, cs_0, cs_i, cs_r, cs_l, cs_ii, cs_ir, cs_ri, cs_rr, cs_iir, cs_irr, sc_1, sc_2, sc_3, sc_4, sc_5, sc_6, sc_7, rX3_takeBack, h1, nc, t2, ne, g2, r0, k1, k2, Nat.add_sub_cancel, nI_lt, nI_nlt, nI_le, nI_ge, nI_pos, pk_sub, nI_clamp, s2_ne, s2_o, s2_s, nI_add, inb_n, nI_nn, zq0, zq1, ↓reduceIte]
