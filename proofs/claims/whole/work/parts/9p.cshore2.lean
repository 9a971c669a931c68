/-! the class' shore told -/
/-- the class between two calls, a shore told -/
def CW (G : Gm) (I : Im) (x s : Nat) (sh : Shr) (r : RS) (q : Qp) (c : Nat) (U : Nat → Qp) (mk : Nat) (M : Nat → Qp) : Prop := SWV G I s sh r ∧ CT G I (x + 171) s (hOf sh r) q ∧ HyV G I (x + 179) s (hOf sh r) c U mk M ∧
  (∃ k0 k1 k2 : Bool, I (x + 289) 0 = bI k0 ∧ I (x + 289) 1 = bI k1 ∧ I (x + 289) 2 = bI k2 ∧ (k0 = true → ChO I (x + 289) (hOf sh r) q) ∧ (k1 = true → ShK I (x + 289) (hOf sh r) q) ∧ (k2 = true → WrK I (x + 289) (hOf sh r) q)) ∧
  (∀ n, n ≤ 3 → ∃ b : Bool, I (x + 303) n = bI b ∧ (b = true → NkV I (x + 302) n (hOf sh r) q)) ∧ (∃ b : Bool, I (x + 325) 0 = bI b ∧ (b = true → FiK I (x + 325) (hOf sh r) (rSn r) (q0R r)))
theorem c_trade {d t u s : Nat} {G : Gm} {I : Im} (hL : TpL G t u) : run d mX8_trade [.ref t, .ref s] G I = some (some (.ref u), gSetR G t 8 (some s), I) := by
  obtain ⟨l1, l2, l3, -⟩ := hL
  have := True.intro
  simp (disch := first | assumption | (simp (disch := omega) only [cK_some, ofR_some, ofR_none, Option.toList_some, Option.toList_none, List.cons_append, List.nil_append, isL_i, isL_r, isL_u, isL_2, cs_0, cs_i, cs_r, cs_l, cs_ii, cs_ir, cs_ri, cs_rr, cs_iir, cs_irr, cs_iii, cs_iri, cs_rii, cs_rir, cs_rri, cs_rrr, cs_iiii, cs_iiir, cs_iiri, cs_iirr, cs_irii, cs_irir, cs_irri, cs_irrr, cs_riii, cs_riir, cs_riri, cs_rirr, cs_rrii, cs_rrir, cs_rrri, cs_rrrr, l1, inb_n, bq4, bq5, n100, not_false_eq_true, isB_0, isB_1, nI_clamp, nI_nneg, Nat.zero_add, Nat.le_refl]; done) | omega | (simp (disch := omega) only [cK_some, ofR_some, ofR_none, Option.toList_some, Option.toList_none, List.cons_append, List.nil_append, isL_i, isL_r, isL_u, isL_2, cs_0, cs_i, cs_r, cs_l, cs_ii, cs_ir, cs_ri, cs_rr, cs_iir, cs_irr, cs_iii, cs_iri, cs_rii, cs_rir, cs_rri, cs_rrr, cs_iiii, cs_iiir, cs_iiri, cs_iirr, cs_irii, cs_irir, cs_irri, cs_irrr, cs_riii, cs_riir, cs_riri, cs_rirr, cs_rrii, cs_rrir, cs_rrri, cs_rrrr, l1, inb_n, bq4, bq5, n100, not_false_eq_true, isB_0, isB_1, nI_clamp, nI_nneg, Nat.zero_add, Nat.le_refl]; omega)) only [xX8_trade_0, xX8_trade_1, xX8_trade_4, xX8_trade_5, xX8_trade_6, xX8_trade_7, xX8_trade_10, xX8_trade_11, cK_some, ofR_some, ofR_none, Option.toList_some, Option.toList_none, List.cons_append, List.nil_append, isL_i, isL_r, isL_u, isL_2, cs_0, cs_i, cs_r, cs_l, cs_ii, cs_ir, cs_ri, cs_rr, cs_iir, cs_irr, cs_iii, cs_iri, cs_rii, cs_rir, cs_rri, cs_rrr, cs_iiii, cs_iiir, cs_iiri, cs_iirr, cs_irii, cs_irir, cs_irri, cs_irrr, cs_riii, cs_riir, cs_riri, cs_rirr, cs_rrii, cs_rrir, cs_rrri, cs_rrrr, rX8_trade, l3, Nat.add_sub_cancel, Nat.add_zero, Nat.zero_add, nI_lt, nI_nlt, nI_le, nI_ge, nI_pos, pk_sub, nI_clamp, s2_ne, s2_o, s2_s, nI_add, inb_n, nI_nn, zq0, zq1, ↓reduceIte]
theorem c_forget {d x s u : Nat} {G : Gm} {I : Im} (hT : Tp G x s u) : ∃ I', run (d + 1) mX11_forget [.ref x] G I = some (none, G, I') ∧ (I' (x + 289) 0 = nI 0 ∧ I' (x + 289) 1 = nI 0 ∧ I' (x + 289) 2 = nI 0) ∧ (∀ n, n ≤ 3 → I' (x + 303) n = nI 0) ∧ ∀ c, c ≠ x + 289 → c ≠ x + 303 → I' c = I c := by
  obtain ⟨⟨t0, t1, t2, t3, t4, t5, t6, t7, t8, t9⟩, -, -, -, -, -, -, -, -, hC, hNx, -⟩ := hT
  obtain ⟨e1, -⟩ := hC
  obtain ⟨x1, x2, -, -, -, -, -, x8, -⟩ := hNx
  have x2' : gR G (x + 302) 0 = some (x + 303) := x2
  have x8' : gT G (x + 303) = (2, 4) := x8
  have := True.intro
  have h0 : (nI 0 ≤ nI 3) = True := by decide
  have h1 : (nI 1 ≤ nI 3) = True := by decide
  have h2 : (nI 2 ≤ nI 3) = True := by decide
  have h3 : (nI 3 ≤ nI 3) = True := by decide
  have h4 : (nI 4 ≤ nI 3) = False := by decide
  have a1 : nI 0 + nI 1 = nI 1 := by decide
  have a2 : nI 1 + nI 1 = nI 2 := by decide
  have a3 : nI 2 + nI 1 = nI 3 := by decide
  have a4 : nI 3 + nI 1 = nI 4 := by decide
  have b0 : isB (nI 0) = true := by decide
  generalize hA : s2 (s2 (s2 I (x + 289) 0 (nI 0)) (x + 289) 1 (nI 0)) (x + 289) 2 (nI 0) = A
  have f1 : run d mX1_forget [.ref (x + 289)] G I = some (none, G, A) := by
    simp (disch := first | assumption | (simp (disch := omega) only [cK_some, ofR_some, ofR_none, Option.toList_some, Option.toList_none, List.cons_append, List.nil_append, isL_i, isL_r, isL_u, isL_2, cs_0, cs_i, cs_r, cs_l, cs_ii, cs_ir, cs_ri, cs_rr, cs_iir, cs_irr, cs_iii, cs_iri, cs_rii, cs_rir, cs_rri, cs_rrr, cs_iiii, cs_iiir, cs_iiri, cs_iirr, cs_irii, cs_irir, cs_irri, cs_irrr, cs_riii, cs_riir, cs_riri, cs_rirr, cs_rrii, cs_rrir, cs_rrri, cs_rrrr, e1, inb_n, bq4, bq5, n100, not_false_eq_true, isB_0, isB_1, nI_clamp, nI_nneg, Nat.zero_add, Nat.le_refl]; done) | omega | (simp (disch := omega) only [cK_some, ofR_some, ofR_none, Option.toList_some, Option.toList_none, List.cons_append, List.nil_append, isL_i, isL_r, isL_u, isL_2, cs_0, cs_i, cs_r, cs_l, cs_ii, cs_ir, cs_ri, cs_rr, cs_iir, cs_irr, cs_iii, cs_iri, cs_rii, cs_rir, cs_rri, cs_rrr, cs_iiii, cs_iiir, cs_iiri, cs_iirr, cs_irii, cs_irir, cs_irri, cs_irrr, cs_riii, cs_riir, cs_riri, cs_rirr, cs_rrii, cs_rrir, cs_rrri, cs_rrrr, e1, inb_n, bq4, bq5, n100, not_false_eq_true, isB_0, isB_1, nI_clamp, nI_nneg, Nat.zero_add, Nat.le_refl]; omega)) only [xX1_forget_0, xX1_forget_1, xX1_forget_2, xX1_forget_5, xX1_forget_6, xX1_forget_7, xX1_forget_10, xX1_forget_11, xX1_forget_12, xX1_forget_15, cK_some, ofR_some, ofR_none, Option.toList_some, Option.toList_none, List.cons_append, List.nil_append, isL_i, isL_r, isL_u, isL_2, cs_0, cs_i, cs_r, cs_l, cs_ii, cs_ir, cs_ri, cs_rr, cs_iir, cs_irr, cs_iii, cs_iri, cs_rii, cs_rir, cs_rri, cs_rrr, cs_iiii, cs_iiir, cs_iiri, cs_iirr, cs_irii, cs_irir, cs_irri, cs_irrr, cs_riii, cs_riir, cs_riri, cs_rirr, cs_rrii, cs_rrir, cs_rrri, cs_rrrr, rX1_forget, Nat.add_sub_cancel, Nat.add_zero, Nat.zero_add, nI_lt, nI_nlt, nI_le, nI_ge, nI_pos, pk_sub, nI_clamp, s2_ne, s2_o, s2_s, nI_add, inb_n, nI_nn, zq0, zq1, ↓reduceIte]
    rw [hA]
  have f2 : run d mX4_forget [.ref (x + 302)] G A = some (none, G, s2 (s2 (s2 (s2 A (x + 303) 0 (nI 0)) (x + 303) 1 (nI 0)) (x + 303) 2 (nI 0)) (x + 303) 3 (nI 0)) := by
    simp (disch := first | assumption | (simp (disch := omega) only [cK_some, ofR_some, ofR_none, Option.toList_some, Option.toList_none, List.cons_append, List.nil_append, isL_i, isL_r, isL_u, isL_2, cs_0, cs_i, cs_r, cs_l, cs_ii, cs_ir, cs_ri, cs_rr, cs_iir, cs_irr, cs_iii, cs_iri, cs_rii, cs_rir, cs_rri, cs_rrr, cs_iiii, cs_iiir, cs_iiri, cs_iirr, cs_irii, cs_irir, cs_irri, cs_irrr, cs_riii, cs_riir, cs_riri, cs_rirr, cs_rrii, cs_rrir, cs_rrri, cs_rrrr, x1, x8', bq2, b0, inb_n, bq4, bq5, n100, not_false_eq_true, isB_0, isB_1, nI_clamp, nI_nneg, Nat.zero_add, Nat.le_refl]; done) | omega | (simp (disch := omega) only [cK_some, ofR_some, ofR_none, Option.toList_some, Option.toList_none, List.cons_append, List.nil_append, isL_i, isL_r, isL_u, isL_2, cs_0, cs_i, cs_r, cs_l, cs_ii, cs_ir, cs_ri, cs_rr, cs_iir, cs_irr, cs_iii, cs_iri, cs_rii, cs_rir, cs_rri, cs_rrr, cs_iiii, cs_iiir, cs_iiri, cs_iirr, cs_irii, cs_irir, cs_irri, cs_irrr, cs_riii, cs_riir, cs_riri, cs_rirr, cs_rrii, cs_rrir, cs_rrri, cs_rrrr, x1, x8', bq2, b0, inb_n, bq4, bq5, n100, not_false_eq_true, isB_0, isB_1, nI_clamp, nI_nneg, Nat.zero_add, Nat.le_refl]; omega)) only [xX4_forget_0, xX4_forget_1, xX4_forget_2, xX4_forget_3, xX4_forget_4, xX4_forget_7, xX4_forget_8, xX4_forget_11, xX4_forget_12, xX4_forget_13b, xX4_forget_13z, xX4_forget_14, xX4_forget_17, xX4_forget_20, cK_some, ofR_some, ofR_none, Option.toList_some, Option.toList_none, List.cons_append, List.nil_append, isL_i, isL_r, isL_u, isL_2, cs_0, cs_i, cs_r, cs_l, cs_ii, cs_ir, cs_ri, cs_rr, cs_iir, cs_irr, cs_iii, cs_iri, cs_rii, cs_rir, cs_rri, cs_rrr, cs_iiii, cs_iiir, cs_iiri, cs_iirr, cs_irii, cs_irir, cs_irri, cs_irrr, cs_riii, cs_riir, cs_riri, cs_rirr, cs_rrii, cs_rrir, cs_rrri, cs_rrrr, rX4_forget, x2', h0, h1, h2, h3, h4, a1, a2, a3, a4, Nat.add_sub_cancel, Nat.add_zero, Nat.zero_add, nI_lt, nI_nlt, nI_le, nI_ge, nI_pos, pk_sub, nI_clamp, s2_ne, s2_o, s2_s, nI_add, inb_n, nI_nn, zq0, zq1, ↓reduceIte]
  refine ⟨s2 (s2 (s2 (s2 A (x + 303) 0 (nI 0)) (x + 303) 1 (nI 0)) (x + 303) 2 (nI 0)) (x + 303) 3 (nI 0), ?_, ⟨?_, ?_, ?_⟩, fun n hn => ?_, fun c h1 h2 => ?_⟩
  rotate_left
  · rw [s2_ne (by omega), s2_ne (by omega), s2_ne (by omega), s2_ne (by omega), ← hA, s2_o (by decide), s2_o (by decide), s2_s]
  · rw [s2_ne (by omega), s2_ne (by omega), s2_ne (by omega), s2_ne (by omega), ← hA, s2_o (by decide), s2_s]
  · rw [s2_ne (by omega), s2_ne (by omega), s2_ne (by omega), s2_ne (by omega), ← hA, s2_s]
  · have hn4 : n = 0 ∨ n = 1 ∨ n = 2 ∨ n = 3 := by omega
    rcases hn4 with e | e | e | e <;> subst e
    · rw [s2_o (by decide), s2_o (by decide), s2_o (by decide), s2_s]
    · rw [s2_o (by decide), s2_o (by decide), s2_s]
    · rw [s2_o (by decide), s2_s]
    · rw [s2_s]
  · rw [s2_ne h2, s2_ne h2, s2_ne h2, s2_ne h2, ← hA, s2_ne h1, s2_ne h1, s2_ne h1]
  · simp (disch := first | assumption | (simp (disch := omega) only [cK_some, ofR_some, ofR_none, Option.toList_some, Option.toList_none, List.cons_append, List.nil_append, isL_i, isL_r, isL_u, isL_2, cs_0, cs_i, cs_r, cs_l, cs_ii, cs_ir, cs_ri, cs_rr, cs_iir, cs_irr, cs_iii, cs_iri, cs_rii, cs_rir, cs_rri, cs_rrr, cs_iiii, cs_iiir, cs_iiri, cs_iirr, cs_irii, cs_irir, cs_irri, cs_irrr, cs_riii, cs_riir, cs_riri, cs_rirr, cs_rrii, cs_rrir, cs_rrri, cs_rrrr, t0, e1, x1, inb_n, bq4, bq5, n100, not_false_eq_true, isB_0, isB_1, nI_clamp, nI_nneg, Nat.zero_add, Nat.le_refl]; done) | omega | (simp (disch := omega) only [cK_some, ofR_some, ofR_none, Option.toList_some, Option.toList_none, List.cons_append, List.nil_append, isL_i, isL_r, isL_u, isL_2, cs_0, cs_i, cs_r, cs_l, cs_ii, cs_ir, cs_ri, cs_rr, cs_iir, cs_irr, cs_iii, cs_iri, cs_rii, cs_rir, cs_rri, cs_rrr, cs_iiii, cs_iiir, cs_iiri, cs_iirr, cs_irii, cs_irir, cs_irri, cs_irrr, cs_riii, cs_riir, cs_riri, cs_rirr, cs_rrii, cs_rrir, cs_rrri, cs_rrrr, t0, e1, x1, inb_n, bq4, bq5, n100, not_false_eq_true, isB_0, isB_1, nI_clamp, nI_nneg, Nat.zero_add, Nat.le_refl]; omega)) only [xX11_forget_0, xX11_forget_1, xX11_forget_4, xX11_forget_7, xX11_forget_8, xX11_forget_11, xX11_forget_14, cK_some, ofR_some, ofR_none, Option.toList_some, Option.toList_none, List.cons_append, List.nil_append, isL_i, isL_r, isL_u, isL_2, cs_0, cs_i, cs_r, cs_l, cs_ii, cs_ir, cs_ri, cs_rr, cs_iir, cs_irr, cs_iii, cs_iri, cs_rii, cs_rir, cs_rri, cs_rrr, cs_iiii, cs_iiir, cs_iiri, cs_iirr, cs_irii, cs_irir, cs_irri, cs_irrr, cs_riii, cs_riir, cs_riri, cs_rirr, cs_rrii, cs_rrir, cs_rrri, cs_rrrr, rX11_forget, t7, t8, f1, f2, Nat.add_sub_cancel, Nat.add_zero, Nat.zero_add, nI_lt, nI_nlt, nI_le, nI_ge, nI_pos, pk_sub, nI_clamp, s2_ne, s2_o, s2_s, nI_add, inb_n, nI_nn, zq0, zq1, ↓reduceIte]
theorem c_refuse {d x : Nat} {z : Int32} {G : Gm} {I : Im} (l1 : gT G x = (21, 12)) : run d mX11_refuse [.ref x, .int z] G I = some (some (.int (-1)), G, s2 I x 11 z) := by
  have := True.intro
  simp (disch := first | assumption | (simp (disch := omega) only [cK_some, ofR_some, ofR_none, Option.toList_some, Option.toList_none, List.cons_append, List.nil_append, isL_i, isL_r, isL_u, isL_2, cs_0, cs_i, cs_r, cs_l, cs_ii, cs_ir, cs_ri, cs_rr, cs_iir, cs_irr, cs_iii, cs_iri, cs_rii, cs_rir, cs_rri, cs_rrr, cs_iiii, cs_iiir, cs_iiri, cs_iirr, cs_irii, cs_irir, cs_irri, cs_irrr, cs_riii, cs_riir, cs_riri, cs_rirr, cs_rrii, cs_rrir, cs_rrri, cs_rrrr, l1, inb_n, bq4, bq5, n100, not_false_eq_true, isB_0, isB_1, nI_clamp, nI_nneg, Nat.zero_add, Nat.le_refl]; done) | omega | (simp (disch := omega) only [cK_some, ofR_some, ofR_none, Option.toList_some, Option.toList_none, List.cons_append, List.nil_append, isL_i, isL_r, isL_u, isL_2, cs_0, cs_i, cs_r, cs_l, cs_ii, cs_ir, cs_ri, cs_rr, cs_iir, cs_irr, cs_iii, cs_iri, cs_rii, cs_rir, cs_rri, cs_rrr, cs_iiii, cs_iiir, cs_iiri, cs_iirr, cs_irii, cs_irir, cs_irri, cs_irrr, cs_riii, cs_riir, cs_riri, cs_rirr, cs_rrii, cs_rrir, cs_rrri, cs_rrrr, l1, inb_n, bq4, bq5, n100, not_false_eq_true, isB_0, isB_1, nI_clamp, nI_nneg, Nat.zero_add, Nat.le_refl]; omega)) only [xX11_refuse_0, xX11_refuse_1, xX11_refuse_2, xX11_refuse_5, xX11_refuse_6, cK_some, ofR_some, ofR_none, Option.toList_some, Option.toList_none, List.cons_append, List.nil_append, isL_i, isL_r, isL_u, isL_2, cs_0, cs_i, cs_r, cs_l, cs_ii, cs_ir, cs_ri, cs_rr, cs_iir, cs_irr, cs_iii, cs_iri, cs_rii, cs_rir, cs_rri, cs_rrr, cs_iiii, cs_iiir, cs_iiri, cs_iirr, cs_irii, cs_irir, cs_irri, cs_irrr, cs_riii, cs_riir, cs_riri, cs_rirr, cs_rrii, cs_rrir, cs_rrri, cs_rrrr, rX11_refuse, Nat.add_sub_cancel, Nat.add_zero, Nat.zero_add, nI_lt, nI_nlt, nI_le, nI_ge, nI_pos, pk_sub, nI_clamp, s2_ne, s2_o, s2_s, nI_add, inb_n, nI_nn, zq0, zq1, ↓reduceIte]
theorem c_answer {d x : Nat} {z : Int32} {G : Gm} {I : Im} (l1 : gT G x = (21, 12)) : run d mX11_answer [.ref x, .int z] G I = some (some (.int z), G, s2 I x 11 (nI 0)) := by
  have := True.intro
  simp (disch := first | assumption | (simp (disch := omega) only [cK_some, ofR_some, ofR_none, Option.toList_some, Option.toList_none, List.cons_append, List.nil_append, isL_i, isL_r, isL_u, isL_2, cs_0, cs_i, cs_r, cs_l, cs_ii, cs_ir, cs_ri, cs_rr, cs_iir, cs_irr, cs_iii, cs_iri, cs_rii, cs_rir, cs_rri, cs_rrr, cs_iiii, cs_iiir, cs_iiri, cs_iirr, cs_irii, cs_irir, cs_irri, cs_irrr, cs_riii, cs_riir, cs_riri, cs_rirr, cs_rrii, cs_rrir, cs_rrri, cs_rrrr, l1, inb_n, bq4, bq5, n100, not_false_eq_true, isB_0, isB_1, nI_clamp, nI_nneg, Nat.zero_add, Nat.le_refl]; done) | omega | (simp (disch := omega) only [cK_some, ofR_some, ofR_none, Option.toList_some, Option.toList_none, List.cons_append, List.nil_append, isL_i, isL_r, isL_u, isL_2, cs_0, cs_i, cs_r, cs_l, cs_ii, cs_ir, cs_ri, cs_rr, cs_iir, cs_irr, cs_iii, cs_iri, cs_rii, cs_rir, cs_rri, cs_rrr, cs_iiii, cs_iiir, cs_iiri, cs_iirr, cs_irii, cs_irir, cs_irri, cs_irrr, cs_riii, cs_riir, cs_riri, cs_rirr, cs_rrii, cs_rrir, cs_rrri, cs_rrrr, l1, inb_n, bq4, bq5, n100, not_false_eq_true, isB_0, isB_1, nI_clamp, nI_nneg, Nat.zero_add, Nat.le_refl]; omega)) only [xX11_answer_0, xX11_answer_1, xX11_answer_2, xX11_answer_5, xX11_answer_6, cK_some, ofR_some, ofR_none, Option.toList_some, Option.toList_none, List.cons_append, List.nil_append, isL_i, isL_r, isL_u, isL_2, cs_0, cs_i, cs_r, cs_l, cs_ii, cs_ir, cs_ri, cs_rr, cs_iir, cs_irr, cs_iii, cs_iri, cs_rii, cs_rir, cs_rri, cs_rrr, cs_iiii, cs_iiir, cs_iiri, cs_iirr, cs_irii, cs_irir, cs_irri, cs_irrr, cs_riii, cs_riir, cs_riri, cs_rirr, cs_rrii, cs_rrir, cs_rrri, cs_rrrr, rX11_answer, Nat.add_sub_cancel, Nat.add_zero, Nat.zero_add, nI_lt, nI_nlt, nI_le, nI_ge, nI_pos, pk_sub, nI_clamp, s2_ne, s2_o, s2_s, nI_add, inb_n, nI_nn, zq0, zq1, ↓reduceIte]
theorem Tp.trade {G : Gm} {x s u : Nat} (h : Tp G x s u) : Tp (gSetR (gSetR G (x + 1) 8 (some s)) x 1 (some u)) x u s := by
  obtain ⟨⟨t0, t1, t2, t3, t4, t5, t6, t7, t8, t9⟩, hL, ⟨a1, a2⟩, ⟨b1, b2⟩, hd, c1, c2, c3, c4, c5, c6, c7⟩ := h
  have eq : Gq G (gSetR (gSetR G (x + 1) 8 (some s)) x 1 (some u)) (x + 2) (x + 338) := fun c h1 h2 => ⟨rfl, by rw [gR_R, s2_ne (by omega), gR_R, s2_ne (by omega)]⟩
  have ex0 : ∀ j, j ≠ 1 → gR (gSetR (gSetR G (x + 1) 8 (some s)) x 1 (some u)) x j = gR G x j := fun j hj => by rw [gR_R, s2_o hj, gR_R, s2_ne (by omega)]
  have et : ∀ j, j ≠ 8 → gR (gSetR (gSetR G (x + 1) 8 (some s)) x 1 (some u)) (x + 1) j = gR G (x + 1) j := fun j hj => by rw [gR_R, s2_ne (by omega), gR_R, s2_o hj]
  refine ⟨⟨t0, by rw [ex0 0 (by decide)]; exact t1, by rw [gR_R, s2_s], by rw [ex0 2 (by decide)]; exact t3, by rw [ex0 3 (by decide)]; exact t4, by rw [ex0 4 (by decide)]; exact t5, by rw [ex0 5 (by decide)]; exact t6, by rw [ex0 6 (by decide)]; exact t7, by rw [ex0 7 (by decide)]; exact t8, by rw [ex0 8 (by decide)]; exact t9⟩, ?_, ⟨b1.g (eq.m (by omega) (by omega)), b2.g (eq.m (by omega) (by omega))⟩, ⟨a1.g (eq.m (by omega) (by omega)), a2.g (eq.m (by omega) (by omega))⟩, by omega, c1.g (eq.m (by omega) (by omega)), c2.g (eq.m (by omega) (by omega)), c3.g (eq.m (by omega) (by omega)), c4.g (eq.m (by omega) (by omega)), c5.g (eq.m (by omega) (by omega)), c6.g (eq.m (by omega) (by omega)), c7.g (eq.m (by omega) (by omega))⟩
  obtain ⟨m1, m2, m3, m4, m5, m6, m7, m8⟩ := hL
  exact ⟨m1, by rw [et 1 (by decide)]; exact m2, by rw [gR_R, s2_ne (by omega), gR_R, s2_s], by rw [et 11 (by decide)]; exact m4, by rw [et 12 (by decide)]; exact m5, by rw [et 13 (by decide)]; exact m6, by rw [et 14 (by decide)]; exact m7, m8⟩
/-- what the class' shore leaves -/
def ShC (G : Gm) (I : Im) (G' : Gm) (I' : Im) (x s u e : Nat) (B : Nat → Nat) : Prop := ((∀ c, c < x ∨ x + 338 < c → I' c = I c) ∧ I' (x + 1) 0 = nI 0) ∧
  match txt B e with
  | .inl y => G' = G ∧ I' x 9 = nI y.1 ∧ I' x 10 = nI y.2 ∧ I' x 11 = nI 4 ∧ (∀ c, c ≠ x → c ≠ x + 1 → ¬ (x + 85 ≤ c ∧ c ≤ x + 88) → ¬ (u ≤ c ∧ c ≤ u + 19) → I' c = I c)
  | .inr r => G' = gSetR (gSetR G (x + 1) 8 (some s)) x 1 (some u) ∧ I' x 9 = nI 0 ∧ I' x 11 = nI 0 ∧ ∃ sh, CW G' I' x u sh r (q0R r) 0 (fun _ => q0R r) 0 (fun _ => q0R r)
theorem c_shore {d x s u n e : Nat} {B : Nat → Nat} {G : Gm} {I : Im} (hT : Tp G x s u) (hV : TaV I (x + 1) 0 (x + 2) n B) (hen : e ≤ n) (ht : ∃ t, t < 16 ∧ I (x + 179) 2 = nI t) :
    ∃ (G' : Gm) (I' : Im), run (d + 8) mX11_shore [.ref x, .int (nI e)] G I = some (some (.int (match txt B e with | .inl _ => -1 | .inr r => nI (rN r))), G', I') ∧ lnOks B e 901 0 r0 ∧ ShC G I G' I' x s u e B := by
  obtain ⟨v1, v2, v3⟩ := id hV
  have hU := hT.up
  obtain ⟨⟨t0, t1, t2, t3, t4, t5, t6, t7, t8, t9⟩, hL, ⟨hS, hPs⟩, ⟨hSu, hPu⟩, hd, c1, c2, c3, c4, c5, c6, c7⟩ := id hT
  have l1 := hL.1
  obtain ⟨I1, f1, z0, an, fr1, hk⟩ := c_read (d := d) (n := e) (B := B) (I := I) hU v1 hen v2 (fun k hk => v3 k (by omega))
  have hle : (nI e ≤ nI n) = True := eq_true (nI_le hen (by omega))
  have hnn : (nI e < 0) = False := eq_false (fun z => by have := nI_nlt (a := e) (b := 0) (Nat.zero_le _) (by omega); exact this z)
  have hcd := cd_txt hk (show e ≤ 900 by omega)
  unfold ShC
  cases hx : txt B e with
  | inl y =>
    rw [hx] at an f1
    obtain ⟨q1, q2⟩ := an
    have f1' : run (d + 7) mX8_read [.ref (x + 1), .int (nI e)] G I = some (some (.int (nI y.1)), G, I1) := f1
    obtain ⟨k1, k2⟩ := hcd y hx
    have hc : (nI y.1 = 0) = False := eq_false (fun z => by have := (nI_eq (a := y.1) (b := 0) (by omega) (by omega)).mp z; omega)
    have hrf := c_refuse (d := d + 7) (z := nI 4) (G := G) (I := s2 (s2 I1 x 9 (nI y.1)) x 10 (nI y.2)) t0
    refine ⟨G, s2 (s2 (s2 I1 x 9 (nI y.1)) x 10 (nI y.2)) x 11 (nI 4), ?_, hk, ⟨fun c hc => ?_, ?_⟩, rfl, ?_, ?_, s2_s, fun c h1 h2 h3 h4 => ?_⟩
    · have := True.intro
      simp (disch := first | assumption | (simp (disch := omega) only [cK_some, ofR_some, ofR_none, Option.toList_some, Option.toList_none, List.cons_append, List.nil_append, isL_i, isL_r, isL_u, isL_2, cs_0, cs_i, cs_r, cs_l, cs_ii, cs_ir, cs_ri, cs_rr, cs_iir, cs_irr, cs_iii, cs_iri, cs_rii, cs_rir, cs_rri, cs_rrr, cs_iiii, cs_iiir, cs_iiri, cs_iirr, cs_irii, cs_irir, cs_irri, cs_irrr, cs_riii, cs_riir, cs_riri, cs_rirr, cs_rrii, cs_rrir, cs_rrri, cs_rrrr, t0, l1, inb_n, bq4, bq5, n100, not_false_eq_true, isB_0, isB_1, nI_clamp, nI_nneg, Nat.zero_add, Nat.le_refl]; done) | omega | (simp (disch := omega) only [cK_some, ofR_some, ofR_none, Option.toList_some, Option.toList_none, List.cons_append, List.nil_append, isL_i, isL_r, isL_u, isL_2, cs_0, cs_i, cs_r, cs_l, cs_ii, cs_ir, cs_ri, cs_rr, cs_iir, cs_irr, cs_iii, cs_iri, cs_rii, cs_rir, cs_rri, cs_rrr, cs_iiii, cs_iiir, cs_iiri, cs_iirr, cs_irii, cs_irir, cs_irri, cs_irrr, cs_riii, cs_riir, cs_riri, cs_rirr, cs_rrii, cs_rrir, cs_rrri, cs_rrrr, t0, l1, inb_n, bq4, bq5, n100, not_false_eq_true, isB_0, isB_1, nI_clamp, nI_nneg, Nat.zero_add, Nat.le_refl]; omega)) only [xX11_shore_0, xX11_shore_1, xX11_shore_4, xX11_shore_5, xX11_shore_6, xX11_shore_9, xX11_shore_12, xX11_shore_15, xX11_shore_16, xX11_shore_17, xX11_shore_20, xX11_shore_21, xX11_shore_22, xX11_shore_23, xX11_shore_26, xX11_shore_27, xX11_shore_30, xX11_shore_33, xX11_shore_34, xX11_shore_35, xX11_shore_38, xX11_shore_41, xX11_shore_44, xX11_shore_45, xX11_shore_48, xX11_shore_51, xX11_shore_52, xX11_shore_53, xX11_shore_56, xX11_shore_57, xX11_shore_58, xX11_shore_59, xX11_shore_62, xX11_shore_63, xX11_shore_66, xX11_shore_69, xX11_shore_72, xX11_shore_73, xX11_shore_76, xX11_shore_79, xX11_shore_80, xX11_shore_83, xX11_shore_84, xX11_shore_87, xX11_shore_90, xX11_shore_91, xX11_shore_94, xX11_shore_97, xX11_shore_98, xX11_shore_101, xX11_shore_102, xX11_shore_105, xX11_shore_106, xX11_shore_109, xX11_shore_110, xX11_shore_111, xX11_shore_114, xX11_shore_117, xX11_shore_120, xX11_shore_123, cK_some, ofR_some, ofR_none, Option.toList_some, Option.toList_none, List.cons_append, List.nil_append, isL_i, isL_r, isL_u, isL_2, cs_0, cs_i, cs_r, cs_l, cs_ii, cs_ir, cs_ri, cs_rr, cs_iir, cs_irr, cs_iii, cs_iri, cs_rii, cs_rir, cs_rri, cs_rrr, cs_iiii, cs_iiir, cs_iiri, cs_iirr, cs_irii, cs_irir, cs_irri, cs_irrr, cs_riii, cs_riir, cs_riri, cs_rirr, cs_rrii, cs_rrir, cs_rrri, cs_rrrr, rX11_shore, t1, v1, hle, hnn, f1', q2, hc, hrf, Nat.add_sub_cancel, Nat.add_zero, Nat.zero_add, nI_lt, nI_nlt, nI_le, nI_ge, nI_pos, pk_sub, nI_clamp, s2_ne, s2_o, s2_s, nI_add, inb_n, nI_nn, zq0, zq1, ↓reduceIte]
    · rw [s2_ne (by omega), s2_ne (by omega), s2_ne (by omega)]; exact fr1 c (by omega) (by omega) (by omega)
    · rw [s2_ne (by omega), s2_ne (by omega), s2_ne (by omega)]; exact z0
    · rw [s2_o (by decide), s2_o (by decide), s2_s]
    · rw [s2_o (by decide), s2_s]
    · rw [s2_ne h1, s2_ne h1, s2_ne h1]; exact fr1 c h2 (by omega) h4
  | inr r =>
    rw [hx] at an f1
    obtain ⟨q7, hRC, ho, hT0, hN0⟩ := an
    have f1' : run (d + 7) mX8_read [.ref (x + 1), .int (nI e)] G I = some (some (.int (nI 0)), G, I1) := f1
    obtain ⟨sh, hs⟩ := ho.some hT0
    generalize hA : s2 (s2 I1 x 9 (nI 0)) x 10 (I1 (x + 1) 15) = A
    have oA : ∀ c, c ≠ x → A c = I1 c := fun c hc => by rw [← hA, s2_ne hc, s2_ne hc]
    have htr := c_trade (d := d + 7) (s := s) (I := A) hL
    have hT2 := hT.trade
    generalize hG2 : gSetR (gSetR G (x + 1) 8 (some s)) x 1 (some u) = G2 at hT2
    obtain ⟨⟨w0, w1, w2, w3, w4, w5, w6, w7, w8, w9⟩, -, ⟨hSu2, hPu2⟩, -, -, d1, d2, d3, d4, d5, d6, d7⟩ := id hT2
    have hRC2 : RC A (x + 1) u r := by
      obtain ⟨g1, g2, g3, g4, g5, g6, g7, g8⟩ := hRC
      unfold RC NmC
      rw [oA (x + 1) (by omega), oA u (by omega), oA (u + 1) (by omega), oA (u + 8) (by omega), oA (u + 15) (by omega), oA (u + 2) (by omega), oA (u + 3) (by omega), oA (u + 4) (by omega), oA (u + 5) (by omega), oA (u + 6) (by omega), oA (u + 7) (by omega), oA (u + 9) (by omega), oA (u + 10) (by omega), oA (u + 11) (by omega), oA (u + 12) (by omega), oA (u + 13) (by omega), oA (u + 14) (by omega), oA (u + 16) (by omega), oA (u + 17) (by omega), oA (u + 18) (by omega), oA (u + 19) (by omega), oA (x + 1 + 84) (by omega), oA (x + 1 + 85) (by omega), oA (x + 1 + 86) (by omega), oA (x + 1 + 87) (by omega)]
      exact ⟨g1, g2, g3, g4, g5, g6, g7, g8⟩
    have hq := ho.qp (s := sh)
    obtain ⟨I3, r1, r2, r3, r4, r5, r6⟩ := rn_reckon (d := d + 2) hPu2 hSu2 (hRC2.sh ho hs) (ho.sp hs) (hRC2.pl ho) (hRC2.bg ho) hq
    have h5 := ho.2.1.2.2.2.1
    have o3 : ∀ c, ¬ (c = u + 15 ∨ (u + 21 ≤ c ∧ c ≤ u + 72)) → ¬ (u + 74 ≤ c ∧ c ≤ u + 81) → I3 c = A c := fun c h1 h2 => r5 c (by unfold inPl inAW; omega)
    have e73 : ∀ k, k ≤ 14 → I3 (u + k) = A (u + k) := fun k hk => o3 _ (by omega) (by omega)
    have sw3 : SWV G2 I3 u sh r := by
      refine ⟨hs, ⟨e, ho⟩, ⟨hT0, hN0⟩, hSu2, (hRC2.sh ho hs).fr (fun c h1 h2 => o3 c (by omega) (by omega)), ?_, ?_, ?_, ?_, ⟨hPu2, (hRC2.pl ho).fr r6 (fun c h1 h2 => o3 c (by omega) (by omega)), r2⟩, r3, r4, ?_⟩
      · have := hRC2.bg (s := sh) ho
        unfold BgV at this ⊢
        rw [o3 (u + 8 + 2) (by omega) (by omega), o3 (u + 1 + 5) (by omega) (by omega)]
        exact this
      · have := hRC2.sz (s := sh) ho
        unfold SzV at this ⊢
        rw [o3 (u + 8 + 4) (by omega) (by omega)]
        exact this
      · have := hRC2.hm (s := sh) ho
        unfold HmV at this ⊢
        rw [o3 (u + 8 + 5) (by omega) (by omega)]
        exact this
      · have := hRC2.se (s := sh) ho
        unfold SeV at this ⊢
        rw [o3 (u + 1 + 6) (by omega) (by omega)]
        exact this
      · rw [e73 1 (by omega)]; exact hRC2.2.2.1.2.2.1
    obtain ⟨I4, b1, b2, b3⟩ := rn_begin (d := d + 7) (a := x + 171) (s := u) (I := I3) d1 hSu2 (by unfold offS; omega) sw3.2.2.2.2.1 (ho.sp hs) sw3.2.2.2.2.2.1
    have o4 : ∀ c, ¬ (x + 171 ≤ c ∧ c ≤ x + 174) → I4 c = I3 c := fun c hc => b3 c (by unfold inSc; omega)
    have e179 : I4 (x + 179) = I (x + 179) := by rw [o4 _ (by omega), o3 _ (by omega) (by omega), oA _ (by omega)]; exact fr1 _ (by omega) (by omega) (by omega)
    obtain ⟨y1, y2⟩ := rn_hyClear (d := d + 7) (g := x + 179) (s := u) (h := hOf sh r) (U := fun _ => q0R r) (M := fun _ => q0R r) (mk := 0) (c := 0) (I := I4) d3 (by rw [e179]; exact ht)
    generalize hI5 : s2 (s2 I4 (x + 179) 0 (nI 0)) (x + 179) 1 (nI 0) = I5 at y1 y2
    have o5 : ∀ c, c ≠ x + 179 → I5 c = I4 c := fun c hc => by rw [← hI5, s2_ne hc, s2_ne hc]
    generalize hI6 : s2 I5 (x + 325) 0 (nI 0) = I6
    have o6 : ∀ c, c ≠ x + 325 → I6 c = I5 c := fun c hc => by rw [← hI6, s2_ne hc]
    obtain ⟨I7, g1, g2, g3, g4⟩ := c_forget (d := d + 6) (I := I6) hT2
    have o7 : ∀ c, c ≠ x + 289 → c ≠ x + 303 → c ≠ x + 325 → c ≠ x + 179 → I7 c = I4 c := fun c h1 h2 h3 h4 => by rw [g4 c h1 h2, o6 c h3, o5 c h4]
    have e8 : I7 (u + 8) 0 = nI (rN r) := by
      rw [o7 (u + 8) (by omega) (by omega) (by omega) (by omega), o4 (u + 8) (by omega), e73 8 (by omega)]
      exact hRC2.2.2.1.2.2.2.1
    have hans := c_answer (d := d + 7) (z := nI (rN r)) (G := G2) (I := I7) w0
    have oF : ∀ c, c ≠ x → s2 I7 x 11 (nI 0) c = I7 c := fun c hc => by rw [s2_ne hc]
    have aX : ∀ j, j ≠ 11 → s2 I7 x 11 (nI 0) x j = A x j := fun j hj => by rw [s2_o hj, o7 x (by omega) (by omega) (by omega) (by omega), o4 x (by omega), o3 x (by omega) (by omega)]
    have hz0 : (nI 0 = 0) = True := by decide
    have b0 : isB (nI 0) = true := by decide
    obtain ⟨s6, s7, -⟩ : gT G2 u = (17, 11) ∧ gR G2 u 7 = some (u + 8) ∧ True := ⟨hSu2.1, hSu2.2.2.1, trivial⟩
    have s8 : gT G2 (u + 8) = (10, 7) := hSu2.2.2.2.2.2.2.2.1.1
    have s9 := d7.1
    have s10 := d3.1
    have s11 := d1.1
    have hCT : CT G2 I7 (x + 171) u (hOf sh r) (q0R r) := by
      refine ⟨d1, hSu2, by unfold offS; omega, sw3.2.2.2.2.1.fr (fun c h1 h2 => by rw [o7 c (by omega) (by omega) (by omega) (by omega), o4 c (by omega)]), ho.sp hs, ?_, hq⟩
      unfold ScV at b2 ⊢
      rw [o7 (x + 171) (by omega) (by omega) (by omega) (by omega), o7 (x + 171 + 1) (by omega) (by omega) (by omega) (by omega), o7 (x + 171 + 2) (by omega) (by omega) (by omega) (by omega), o7 (x + 171 + 3) (by omega) (by omega) (by omega) (by omega)]
      exact b2
    refine ⟨G2, s2 I7 x 11 (nI 0), ?_, hk, ⟨fun c hc => ?_, ?_⟩, rfl, ?_, s2_s, sh, ?_, ?_, ?_, ?_, ?_, ?_⟩
    · have := True.intro
      simp (disch := first | assumption | (simp (disch := omega) only [cK_some, ofR_some, ofR_none, Option.toList_some, Option.toList_none, List.cons_append, List.nil_append, isL_i, isL_r, isL_u, isL_2, cs_0, cs_i, cs_r, cs_l, cs_ii, cs_ir, cs_ri, cs_rr, cs_iir, cs_irr, cs_iii, cs_iri, cs_rii, cs_rir, cs_rri, cs_rrr, cs_iiii, cs_iiir, cs_iiri, cs_iirr, cs_irii, cs_irir, cs_irri, cs_irrr, cs_riii, cs_riir, cs_riri, cs_rirr, cs_rrii, cs_rrir, cs_rrri, cs_rrrr, t0, l1, inb_n, bq4, bq5, n100, not_false_eq_true, isB_0, isB_1, nI_clamp, nI_nneg, Nat.zero_add, Nat.le_refl]; done) | omega | (simp (disch := omega) only [cK_some, ofR_some, ofR_none, Option.toList_some, Option.toList_none, List.cons_append, List.nil_append, isL_i, isL_r, isL_u, isL_2, cs_0, cs_i, cs_r, cs_l, cs_ii, cs_ir, cs_ri, cs_rr, cs_iir, cs_irr, cs_iii, cs_iri, cs_rii, cs_rir, cs_rri, cs_rrr, cs_iiii, cs_iiir, cs_iiri, cs_iirr, cs_irii, cs_irir, cs_irri, cs_irrr, cs_riii, cs_riir, cs_riri, cs_rirr, cs_rrii, cs_rrir, cs_rrri, cs_rrrr, t0, l1, inb_n, bq4, bq5, n100, not_false_eq_true, isB_0, isB_1, nI_clamp, nI_nneg, Nat.zero_add, Nat.le_refl]; omega)) only [xX11_shore_0, xX11_shore_1, xX11_shore_4, xX11_shore_5, xX11_shore_6, xX11_shore_9, xX11_shore_12, xX11_shore_15, xX11_shore_16, xX11_shore_17, xX11_shore_20, xX11_shore_21, xX11_shore_22, xX11_shore_23, xX11_shore_26, xX11_shore_27, xX11_shore_30, xX11_shore_33, xX11_shore_34, xX11_shore_35, xX11_shore_38, xX11_shore_41, cK_some, ofR_some, ofR_none, Option.toList_some, Option.toList_none, List.cons_append, List.nil_append, isL_i, isL_r, isL_u, isL_2, cs_0, cs_i, cs_r, cs_l, cs_ii, cs_ir, cs_ri, cs_rr, cs_iir, cs_irr, cs_iii, cs_iri, cs_rii, cs_rir, cs_rri, cs_rrr, cs_iiii, cs_iiir, cs_iiri, cs_iirr, cs_irii, cs_irir, cs_irri, cs_irrr, cs_riii, cs_riir, cs_riri, cs_rirr, cs_rrii, cs_rrir, cs_rrri, cs_rrrr, rX11_shore, t1, v1, hle, hnn, f1', Nat.add_sub_cancel, Nat.add_zero, Nat.zero_add, nI_lt, nI_nlt, nI_le, nI_ge, nI_pos, pk_sub, nI_clamp, s2_ne, s2_o, s2_s, nI_add, inb_n, nI_nn, zq0, zq1, ↓reduceIte]
      rw [hA]
      have a9 : A x 9 = nI 0 := by rw [← hA, s2_o (by decide), s2_s]
      simp (disch := first | assumption | (simp (disch := omega) only [cK_some, ofR_some, ofR_none, Option.toList_some, Option.toList_none, List.cons_append, List.nil_append, isL_i, isL_r, isL_u, isL_2, cs_0, cs_i, cs_r, cs_l, cs_ii, cs_ir, cs_ri, cs_rr, cs_iir, cs_irr, cs_iii, cs_iri, cs_rii, cs_rir, cs_rri, cs_rrr, cs_iiii, cs_iiir, cs_iiri, cs_iirr, cs_irii, cs_irir, cs_irri, cs_irrr, cs_riii, cs_riir, cs_riri, cs_rirr, cs_rrii, cs_rrir, cs_rrri, cs_rrrr, t0, l1, gT_R, inb_n, bq4, bq5, n100, not_false_eq_true, isB_0, isB_1, nI_clamp, nI_nneg, Nat.zero_add, Nat.le_refl]; done) | omega | (simp (disch := omega) only [cK_some, ofR_some, ofR_none, Option.toList_some, Option.toList_none, List.cons_append, List.nil_append, isL_i, isL_r, isL_u, isL_2, cs_0, cs_i, cs_r, cs_l, cs_ii, cs_ir, cs_ri, cs_rr, cs_iir, cs_irr, cs_iii, cs_iri, cs_rii, cs_rir, cs_rri, cs_rrr, cs_iiii, cs_iiir, cs_iiri, cs_iirr, cs_irii, cs_irir, cs_irri, cs_irrr, cs_riii, cs_riir, cs_riri, cs_rirr, cs_rrii, cs_rrir, cs_rrri, cs_rrrr, t0, l1, gT_R, inb_n, bq4, bq5, n100, not_false_eq_true, isB_0, isB_1, nI_clamp, nI_nneg, Nat.zero_add, Nat.le_refl]; omega)) only [xX11_shore_44, xX11_shore_45, xX11_shore_48, xX11_shore_51, xX11_shore_52, xX11_shore_53, xX11_shore_56, xX11_shore_57, xX11_shore_58, xX11_shore_59, xX11_shore_62, xX11_shore_63, xX11_shore_66, xX11_shore_69, cK_some, ofR_some, ofR_none, Option.toList_some, Option.toList_none, List.cons_append, List.nil_append, isL_i, isL_r, isL_u, isL_2, cs_0, cs_i, cs_r, cs_l, cs_ii, cs_ir, cs_ri, cs_rr, cs_iir, cs_irr, cs_iii, cs_iri, cs_rii, cs_rir, cs_rri, cs_rrr, cs_iiii, cs_iiir, cs_iiri, cs_iirr, cs_irii, cs_irir, cs_irri, cs_irrr, cs_riii, cs_riir, cs_riri, cs_rirr, cs_rrii, cs_rrir, cs_rrri, cs_rrrr, a9, hz0, t1, t2, htr, hG2, Nat.add_sub_cancel, Nat.add_zero, Nat.zero_add, nI_lt, nI_nlt, nI_le, nI_ge, nI_pos, pk_sub, nI_clamp, s2_ne, s2_o, s2_s, nI_add, inb_n, nI_nn, zq0, zq1, ↓reduceIte]
      simp (disch := first | assumption | (simp (disch := omega) only [cK_some, ofR_some, ofR_none, Option.toList_some, Option.toList_none, List.cons_append, List.nil_append, isL_i, isL_r, isL_u, isL_2, cs_0, cs_i, cs_r, cs_l, cs_ii, cs_ir, cs_ri, cs_rr, cs_iir, cs_irr, cs_iii, cs_iri, cs_rii, cs_rir, cs_rri, cs_rrr, cs_iiii, cs_iiir, cs_iiri, cs_iirr, cs_irii, cs_irir, cs_irri, cs_irrr, cs_riii, cs_riir, cs_riri, cs_rirr, cs_rrii, cs_rrir, cs_rrri, cs_rrrr, w0, s6, s10, s11, inb_n, bq4, bq5, n100, not_false_eq_true, isB_0, isB_1, nI_clamp, nI_nneg, Nat.zero_add, Nat.le_refl]; done) | omega | (simp (disch := omega) only [cK_some, ofR_some, ofR_none, Option.toList_some, Option.toList_none, List.cons_append, List.nil_append, isL_i, isL_r, isL_u, isL_2, cs_0, cs_i, cs_r, cs_l, cs_ii, cs_ir, cs_ri, cs_rr, cs_iir, cs_irr, cs_iii, cs_iri, cs_rii, cs_rir, cs_rri, cs_rrr, cs_iiii, cs_iiir, cs_iiri, cs_iirr, cs_irii, cs_irir, cs_irri, cs_irrr, cs_riii, cs_riir, cs_riri, cs_rirr, cs_rrii, cs_rrir, cs_rrri, cs_rrrr, w0, s6, s10, s11, inb_n, bq4, bq5, n100, not_false_eq_true, isB_0, isB_1, nI_clamp, nI_nneg, Nat.zero_add, Nat.le_refl]; omega)) only [xX11_shore_72, xX11_shore_73, xX11_shore_76, xX11_shore_79, xX11_shore_80, xX11_shore_83, xX11_shore_84, xX11_shore_87, xX11_shore_90, xX11_shore_91, cK_some, ofR_some, ofR_none, Option.toList_some, Option.toList_none, List.cons_append, List.nil_append, isL_i, isL_r, isL_u, isL_2, cs_0, cs_i, cs_r, cs_l, cs_ii, cs_ir, cs_ri, cs_rr, cs_iir, cs_irr, cs_iii, cs_iri, cs_rii, cs_rir, cs_rri, cs_rrr, cs_iiii, cs_iiir, cs_iiri, cs_iirr, cs_irii, cs_irir, cs_irri, cs_irrr, cs_riii, cs_riir, cs_riri, cs_rirr, cs_rrii, cs_rrir, cs_rrri, cs_rrrr, w2, w3, w5, r1, b1, y1, Nat.add_sub_cancel, Nat.add_zero, Nat.zero_add, nI_lt, nI_nlt, nI_le, nI_ge, nI_pos, pk_sub, nI_clamp, s2_ne, s2_o, s2_s, nI_add, inb_n, nI_nn, zq0, zq1, ↓reduceIte]
      simp (disch := first | assumption | (simp (disch := omega) only [cK_some, ofR_some, ofR_none, Option.toList_some, Option.toList_none, List.cons_append, List.nil_append, isL_i, isL_r, isL_u, isL_2, cs_0, cs_i, cs_r, cs_l, cs_ii, cs_ir, cs_ri, cs_rr, cs_iir, cs_irr, cs_iii, cs_iri, cs_rii, cs_rir, cs_rri, cs_rrr, cs_iiii, cs_iiir, cs_iiri, cs_iirr, cs_irii, cs_irir, cs_irri, cs_irrr, cs_riii, cs_riir, cs_riri, cs_rirr, cs_rrii, cs_rrir, cs_rrri, cs_rrrr, w0, s6, s8, s9, s10, b0, inb_n, bq4, bq5, n100, not_false_eq_true, isB_0, isB_1, nI_clamp, nI_nneg, Nat.zero_add, Nat.le_refl]; done) | omega | (simp (disch := omega) only [cK_some, ofR_some, ofR_none, Option.toList_some, Option.toList_none, List.cons_append, List.nil_append, isL_i, isL_r, isL_u, isL_2, cs_0, cs_i, cs_r, cs_l, cs_ii, cs_ir, cs_ri, cs_rr, cs_iir, cs_irr, cs_iii, cs_iri, cs_rii, cs_rir, cs_rri, cs_rrr, cs_iiii, cs_iiir, cs_iiri, cs_iirr, cs_irii, cs_irir, cs_irri, cs_irrr, cs_riii, cs_riir, cs_riri, cs_rirr, cs_rrii, cs_rrir, cs_rrri, cs_rrrr, w0, s6, s8, s9, s10, b0, inb_n, bq4, bq5, n100, not_false_eq_true, isB_0, isB_1, nI_clamp, nI_nneg, Nat.zero_add, Nat.le_refl]; omega)) only [xX11_shore_94, xX11_shore_97, xX11_shore_98, xX11_shore_101, xX11_shore_102, xX11_shore_105, xX11_shore_106, xX11_shore_109, xX11_shore_110, xX11_shore_111, xX11_shore_114, xX11_shore_117, xX11_shore_120, xX11_shore_123, cK_some, ofR_some, ofR_none, Option.toList_some, Option.toList_none, List.cons_append, List.nil_append, isL_i, isL_r, isL_u, isL_2, cs_0, cs_i, cs_r, cs_l, cs_ii, cs_ir, cs_ri, cs_rr, cs_iir, cs_irr, cs_iii, cs_iri, cs_rii, cs_rir, cs_rri, cs_rrr, cs_iiii, cs_iiir, cs_iiri, cs_iirr, cs_irii, cs_irir, cs_irri, cs_irrr, cs_riii, cs_riir, cs_riri, cs_rirr, cs_rrii, cs_rrir, cs_rrri, cs_rrrr, w2, w5, w9, y1, hI6, g1, s7, e8, hans, Nat.add_sub_cancel, Nat.add_zero, Nat.zero_add, nI_lt, nI_nlt, nI_le, nI_ge, nI_pos, pk_sub, nI_clamp, s2_ne, s2_o, s2_s, nI_add, inb_n, nI_nn, zq0, zq1, ↓reduceIte]
    · rw [oF c (by omega), o7 c (by omega) (by omega) (by omega) (by omega), o4 c (by omega), o3 c (by omega) (by omega), oA c (by omega)]
      exact fr1 c (by omega) (by omega) (by omega)
    · rw [oF _ (by omega), o7 _ (by omega) (by omega) (by omega) (by omega), o4 _ (by omega), o3 _ (by omega) (by omega), oA _ (by omega)]
      exact z0
    · rw [aX 9 (by decide), ← hA, s2_o (by decide), s2_s]
    · exact sw3.fr (fun c h1 h2 => by rw [oF c (by omega), o7 c (by omega) (by omega) (by omega) (by omega), o4 c (by omega)])
    · exact hCT.fr (fun c hc => oF c (by unfold inSc at hc; omega))
    · exact y2.fr (fun c hc => by
        have : c ≠ x := by unfold inHy at hc; omega
        rw [oF c this]
        by_cases e9 : c = x + 179
        · rw [e9, g4 _ (by omega) (by omega), o6 _ (by omega)]
        · unfold inHy at hc
          rw [o7 c (by omega) (by omega) (by omega) e9, o5 c e9])
    · refine ⟨false, false, false, ?_, ?_, ?_, fun h => (by cases h), fun h => (by cases h), fun h => (by cases h)⟩
      · rw [oF _ (by omega)]; exact g2.1
      · rw [oF _ (by omega)]; exact g2.2.1
      · rw [oF _ (by omega)]; exact g2.2.2
    · exact fun k hk3 => ⟨false, by rw [oF _ (by omega)]; exact g3 k hk3, fun h => (by cases h)⟩
    · exact ⟨false, by rw [oF _ (by omega), g4 _ (by omega) (by omega), ← hI6, s2_s]; rfl, fun h => (by cases h)⟩
