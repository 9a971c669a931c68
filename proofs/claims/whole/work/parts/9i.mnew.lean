/-! the model makes a shore -/
def tgS (k : Nat) : Nat × Nat := if k < 4 then (0, 3) else if k < 11 then (0, 6) else if k < 15 then (0, 12) else if k = 15 then (0, 6) else if k = 16 then (3, 9) else if k = 17 then (2, 9) else (0, 9)
def smS (k : Nat) : Nat := fo 0 (fun s j => s + (tgS j).2) k
def AlI (G0 : Gm) (I0 : Im) (R k : Nat) (G : Gm) (I : Im) : Prop := gN G = R + 1 + k ∧ gS G = gS G0 + 31 + smS k ∧ gT G R = (22, 31) ∧ (∀ j, j < k → gR G R (12 + j) = some (R + 1 + j) ∧ gT G (R + 1 + j) = tgS j) ∧ (∀ c, c < R → gT G c = gT G0 c ∧ gR G c = gR G0 c ∧ gJ G c = gJ G0 c ∧ I c = I0 c) ∧ ∀ c j, R ≤ c → c < R + 1 + k → I c j = 0
theorem gT_N {G : Gm} {t : Nat × Nat} : gT (gNew G t) = s1 (gT G) (gN G) t := rfl
theorem gR_N {G : Gm} {t : Nat × Nat} : gR (gNew G t) = s1 (gR G) (gN G) (fun _ => none) := rfl
theorem gJ_N {G : Gm} {t : Nat × Nat} : gJ (gNew G t) = s1 (gJ G) (gN G) (fun _ => 0) := rfl
theorem gT_R {G : Gm} {a k : Nat} {x : Option Nat} : gT (gSetR G a k x) = gT G := rfl
theorem gR_R {G : Gm} {a k : Nat} {x : Option Nat} : gR (gSetR G a k x) = s2 (gR G) a k x := rfl
theorem gJ_R {G : Gm} {a k : Nat} {x : Option Nat} : gJ (gSetR G a k x) = gJ G := rfl
theorem gN_R {G : Gm} {a k : Nat} {x : Option Nat} : gN (gSetR G a k x) = gN G := rfl
theorem gN_N {G : Gm} {t : Nat × Nat} : gN (gNew G t) = gN G + 1 := rfl
theorem AlI.zero {G0 : Gm} {I0 : Im} : AlI G0 I0 (gN G0) 0 (gNew G0 (22, 31)) (iNew I0 (gN G0)) := by
  refine ⟨rfl, rfl, ?_, fun j h => absurd h (Nat.not_lt_zero j), fun c h => ⟨?_, ?_, ?_, ?_⟩, fun c j h1 h2 => ?_⟩
  · rw [gT_N, s1_s]
  · rw [gT_N, s1_o (by omega)]
  · rw [gR_N, s1_o (by omega)]
  · rw [gJ_N, s1_o (by omega)]
  · exact s1_o (by omega)
  · have e : c = gN G0 := by omega
    rw [e]
    show s1 I0 (gN G0) (fun _ => 0) (gN G0) j = 0
    rw [s1_s]
theorem AlI.step {G0 G : Gm} {I0 I : Im} {R k : Nat} (h : AlI G0 I0 R k G I) : AlI G0 I0 R (k + 1) (gSetR (gNew G (tgS k)) R (12 + k) (some (R + 1 + k))) (iNew I (R + 1 + k)) := by
  obtain ⟨h1, h2, h3, h4, h5, h6⟩ := h
  refine ⟨?_, ?_, ?_, fun j hj => ⟨?_, ?_⟩, fun c hc => ⟨?_, ?_, ?_, ?_⟩, fun c j q1 q2 => ?_⟩
  · show gN G + 1 = _; omega
  · show gS G + (tgS k).2 = gS G0 + 31 + (smS k + (tgS k).2); omega
  · rw [gT_R, gT_N, s1_o (by omega)]; exact h3
  · rw [gR_R]
    by_cases c : j = k
    · rw [c, s2_s]
    · rw [s2_o (by omega), gR_N, s1_o (by omega)]; exact (h4 j (by omega)).1
  · rw [gT_R, gT_N, h1]
    by_cases c : j = k
    · rw [c, s1_s]
    · rw [s1_o (by omega)]; exact (h4 j (by omega)).2
  · rw [gT_R, gT_N, s1_o (by omega)]; exact (h5 c hc).1
  · rw [gR_R, s2_ne (by omega), gR_N, s1_o (by omega)]; exact (h5 c hc).2.1
  · rw [gJ_R, gJ_N, s1_o (by omega)]; exact (h5 c hc).2.2.1
  · show s1 I (R + 1 + k) (fun _ => 0) c = I0 c
    rw [s1_o (by omega)]; exact (h5 c hc).2.2.2
  · show s1 I (R + 1 + k) (fun _ => 0) c j = 0
    by_cases c1 : c = R + 1 + k
    · rw [c1, s1_s]
    · rw [s1_o c1]; exact h6 c j q1 (by omega)
theorem m_init {d : Nat} {G0 : Gm} {I0 : Im} : ∃ (G' : Gm) (I' : Im), run d mX12_init [.ref (gN G0)] (gNew G0 (22, 31)) (iNew I0 (gN G0)) = some (none, G', I') ∧ AlI G0 I0 (gN G0) 19 G' I' := by
  have a0 := AlI.zero (G0 := G0) (I0 := I0)
  generalize gNew G0 (22, 31) = H0 at *
  generalize iNew I0 (gN G0) = J0 at *
  generalize gN G0 = R at *
  have := True.intro
  have s0 : ex d mX12_init 4 [.val (.ref R)] [] H0 J0 = ex d mX12_init 11 [.val (.ref R)] [] (gSetR (gNew H0 (0, 3)) R 12 (some (R + 1 + 0))) (iNew J0 (R + 1 + 0)) := by
    have g1 := a0.1
    have g2 : gT (gNew H0 (0, 3)) R = (22, 31) := by rw [gT_N, s1_o (by omega)]; exact a0.2.2.1
    have z0 : ¬ nI 3 < 0 := by decide
    have z1 : (nI 3).toNatClampNeg ≤ 100000 := by decide
    have z2 : (nI 3).toNatClampNeg = 3 := by decide
    simp (disch := first | assumption | (simp (disch := omega) only [cK_some, ofR_some, ofR_none, Option.toList_some, Option.toList_none, List.cons_append, List.nil_append, isL_i, isL_r, isL_u, isL_2, cs_0, cs_i, cs_r, cs_l, cs_ii, cs_ir, cs_ri, cs_rr, cs_iir, cs_irr, cs_iii, cs_iri, cs_rii, cs_rir, cs_rri, cs_rrr, cs_iiii, cs_iiir, cs_iiri, cs_iirr, cs_irii, cs_irir, cs_irri, cs_irrr, cs_riii, cs_riir, cs_riri, cs_rirr, cs_rrii, cs_rrir, cs_rrri, cs_rrrr, g2, z0, z1, inb_n, bq4, bq5, n100, not_false_eq_true, isB_0, isB_1, nI_clamp, nI_nneg, Nat.zero_add, Nat.le_refl]; done) | omega | (simp (disch := omega) only [cK_some, ofR_some, ofR_none, Option.toList_some, Option.toList_none, List.cons_append, List.nil_append, isL_i, isL_r, isL_u, isL_2, cs_0, cs_i, cs_r, cs_l, cs_ii, cs_ir, cs_ri, cs_rr, cs_iir, cs_irr, cs_iii, cs_iri, cs_rii, cs_rir, cs_rri, cs_rrr, cs_iiii, cs_iiir, cs_iiri, cs_iirr, cs_irii, cs_irir, cs_irri, cs_irrr, cs_riii, cs_riir, cs_riri, cs_rirr, cs_rrii, cs_rrir, cs_rrri, cs_rrrr, g2, z0, z1, inb_n, bq4, bq5, n100, not_false_eq_true, isB_0, isB_1, nI_clamp, nI_nneg, Nat.zero_add, Nat.le_refl]; omega)) only [xX12_init_4, xX12_init_5, xX12_init_6, xX12_init_8, cK_some, ofR_some, ofR_none, Option.toList_some, Option.toList_none, List.cons_append, List.nil_append, isL_i, isL_r, isL_u, isL_2, cs_0, cs_i, cs_r, cs_l, cs_ii, cs_ir, cs_ri, cs_rr, cs_iir, cs_irr, cs_iii, cs_iri, cs_rii, cs_rir, cs_rri, cs_rrr, cs_iiii, cs_iiir, cs_iiri, cs_iirr, cs_irii, cs_irir, cs_irri, cs_irrr, cs_riii, cs_riir, cs_riri, cs_rirr, cs_rrii, cs_rrir, cs_rrri, cs_rrrr, g1, z2, Nat.add_sub_cancel, Nat.add_zero, Nat.zero_add, nI_lt, nI_nlt, nI_le, nI_ge, nI_pos, pk_sub, nI_clamp, s2_ne, s2_o, s2_s, nI_add, inb_n, nI_nn, zq0, zq1, ↓reduceIte]
  have a1 := a0.step
  have e0 : tgS 0 = (0, 3) := rfl
  rw [e0] at a1
  generalize hH1 : gSetR (gNew H0 (0, 3)) R (12 + 0) (some (R + 1 + 0)) = H1 at a1
  have hK1 : gSetR (gNew H0 (0, 3)) R 12 (some (R + 1 + 0)) = H1 := hH1
  rw [hK1] at s0
  generalize iNew J0 (R + 1 + 0) = J1 at *
  have s1 : ex d mX12_init 11 [.val (.ref R)] [] H1 J1 = ex d mX12_init 18 [.val (.ref R)] [] (gSetR (gNew H1 (0, 3)) R 13 (some (R + 1 + 1))) (iNew J1 (R + 1 + 1)) := by
    have g1 := a1.1
    have g2 : gT (gNew H1 (0, 3)) R = (22, 31) := by rw [gT_N, s1_o (by omega)]; exact a1.2.2.1
    have z0 : ¬ nI 3 < 0 := by decide
    have z1 : (nI 3).toNatClampNeg ≤ 100000 := by decide
    have z2 : (nI 3).toNatClampNeg = 3 := by decide
    simp (disch := first | assumption | (simp (disch := omega) only [cK_some, ofR_some, ofR_none, Option.toList_some, Option.toList_none, List.cons_append, List.nil_append, isL_i, isL_r, isL_u, isL_2, cs_0, cs_i, cs_r, cs_l, cs_ii, cs_ir, cs_ri, cs_rr, cs_iir, cs_irr, cs_iii, cs_iri, cs_rii, cs_rir, cs_rri, cs_rrr, cs_iiii, cs_iiir, cs_iiri, cs_iirr, cs_irii, cs_irir, cs_irri, cs_irrr, cs_riii, cs_riir, cs_riri, cs_rirr, cs_rrii, cs_rrir, cs_rrri, cs_rrrr, g2, z0, z1, inb_n, bq4, bq5, n100, not_false_eq_true, isB_0, isB_1, nI_clamp, nI_nneg, Nat.zero_add, Nat.le_refl]; done) | omega | (simp (disch := omega) only [cK_some, ofR_some, ofR_none, Option.toList_some, Option.toList_none, List.cons_append, List.nil_append, isL_i, isL_r, isL_u, isL_2, cs_0, cs_i, cs_r, cs_l, cs_ii, cs_ir, cs_ri, cs_rr, cs_iir, cs_irr, cs_iii, cs_iri, cs_rii, cs_rir, cs_rri, cs_rrr, cs_iiii, cs_iiir, cs_iiri, cs_iirr, cs_irii, cs_irir, cs_irri, cs_irrr, cs_riii, cs_riir, cs_riri, cs_rirr, cs_rrii, cs_rrir, cs_rrri, cs_rrrr, g2, z0, z1, inb_n, bq4, bq5, n100, not_false_eq_true, isB_0, isB_1, nI_clamp, nI_nneg, Nat.zero_add, Nat.le_refl]; omega)) only [xX12_init_11, xX12_init_12, xX12_init_13, xX12_init_15, cK_some, ofR_some, ofR_none, Option.toList_some, Option.toList_none, List.cons_append, List.nil_append, isL_i, isL_r, isL_u, isL_2, cs_0, cs_i, cs_r, cs_l, cs_ii, cs_ir, cs_ri, cs_rr, cs_iir, cs_irr, cs_iii, cs_iri, cs_rii, cs_rir, cs_rri, cs_rrr, cs_iiii, cs_iiir, cs_iiri, cs_iirr, cs_irii, cs_irir, cs_irri, cs_irrr, cs_riii, cs_riir, cs_riri, cs_rirr, cs_rrii, cs_rrir, cs_rrri, cs_rrrr, g1, z2, Nat.add_sub_cancel, Nat.add_zero, Nat.zero_add, nI_lt, nI_nlt, nI_le, nI_ge, nI_pos, pk_sub, nI_clamp, s2_ne, s2_o, s2_s, nI_add, inb_n, nI_nn, zq0, zq1, ↓reduceIte]
  have a2 := a1.step
  have e1 : tgS 1 = (0, 3) := rfl
  rw [e1] at a2
  generalize hH2 : gSetR (gNew H1 (0, 3)) R (12 + 1) (some (R + 1 + 1)) = H2 at a2
  have hK2 : gSetR (gNew H1 (0, 3)) R 13 (some (R + 1 + 1)) = H2 := hH2
  rw [hK2] at s1
  generalize iNew J1 (R + 1 + 1) = J2 at *
  have s2 : ex d mX12_init 18 [.val (.ref R)] [] H2 J2 = ex d mX12_init 25 [.val (.ref R)] [] (gSetR (gNew H2 (0, 3)) R 14 (some (R + 1 + 2))) (iNew J2 (R + 1 + 2)) := by
    have g1 := a2.1
    have g2 : gT (gNew H2 (0, 3)) R = (22, 31) := by rw [gT_N, s1_o (by omega)]; exact a2.2.2.1
    have z0 : ¬ nI 3 < 0 := by decide
    have z1 : (nI 3).toNatClampNeg ≤ 100000 := by decide
    have z2 : (nI 3).toNatClampNeg = 3 := by decide
    simp (disch := first | assumption | (simp (disch := omega) only [cK_some, ofR_some, ofR_none, Option.toList_some, Option.toList_none, List.cons_append, List.nil_append, isL_i, isL_r, isL_u, isL_2, cs_0, cs_i, cs_r, cs_l, cs_ii, cs_ir, cs_ri, cs_rr, cs_iir, cs_irr, cs_iii, cs_iri, cs_rii, cs_rir, cs_rri, cs_rrr, cs_iiii, cs_iiir, cs_iiri, cs_iirr, cs_irii, cs_irir, cs_irri, cs_irrr, cs_riii, cs_riir, cs_riri, cs_rirr, cs_rrii, cs_rrir, cs_rrri, cs_rrrr, g2, z0, z1, inb_n, bq4, bq5, n100, not_false_eq_true, isB_0, isB_1, nI_clamp, nI_nneg, Nat.zero_add, Nat.le_refl]; done) | omega | (simp (disch := omega) only [cK_some, ofR_some, ofR_none, Option.toList_some, Option.toList_none, List.cons_append, List.nil_append, isL_i, isL_r, isL_u, isL_2, cs_0, cs_i, cs_r, cs_l, cs_ii, cs_ir, cs_ri, cs_rr, cs_iir, cs_irr, cs_iii, cs_iri, cs_rii, cs_rir, cs_rri, cs_rrr, cs_iiii, cs_iiir, cs_iiri, cs_iirr, cs_irii, cs_irir, cs_irri, cs_irrr, cs_riii, cs_riir, cs_riri, cs_rirr, cs_rrii, cs_rrir, cs_rrri, cs_rrrr, g2, z0, z1, inb_n, bq4, bq5, n100, not_false_eq_true, isB_0, isB_1, nI_clamp, nI_nneg, Nat.zero_add, Nat.le_refl]; omega)) only [xX12_init_18, xX12_init_19, xX12_init_20, xX12_init_22, cK_some, ofR_some, ofR_none, Option.toList_some, Option.toList_none, List.cons_append, List.nil_append, isL_i, isL_r, isL_u, isL_2, cs_0, cs_i, cs_r, cs_l, cs_ii, cs_ir, cs_ri, cs_rr, cs_iir, cs_irr, cs_iii, cs_iri, cs_rii, cs_rir, cs_rri, cs_rrr, cs_iiii, cs_iiir, cs_iiri, cs_iirr, cs_irii, cs_irir, cs_irri, cs_irrr, cs_riii, cs_riir, cs_riri, cs_rirr, cs_rrii, cs_rrir, cs_rrri, cs_rrrr, g1, z2, Nat.add_sub_cancel, Nat.add_zero, Nat.zero_add, nI_lt, nI_nlt, nI_le, nI_ge, nI_pos, pk_sub, nI_clamp, s2_ne, s2_o, s2_s, nI_add, inb_n, nI_nn, zq0, zq1, ↓reduceIte]
  have a3 := a2.step
  have e2 : tgS 2 = (0, 3) := rfl
  rw [e2] at a3
  generalize hH3 : gSetR (gNew H2 (0, 3)) R (12 + 2) (some (R + 1 + 2)) = H3 at a3
  have hK3 : gSetR (gNew H2 (0, 3)) R 14 (some (R + 1 + 2)) = H3 := hH3
  rw [hK3] at s2
  generalize iNew J2 (R + 1 + 2) = J3 at *
  have s3 : ex d mX12_init 25 [.val (.ref R)] [] H3 J3 = ex d mX12_init 32 [.val (.ref R)] [] (gSetR (gNew H3 (0, 3)) R 15 (some (R + 1 + 3))) (iNew J3 (R + 1 + 3)) := by
    have g1 := a3.1
    have g2 : gT (gNew H3 (0, 3)) R = (22, 31) := by rw [gT_N, s1_o (by omega)]; exact a3.2.2.1
    have z0 : ¬ nI 3 < 0 := by decide
    have z1 : (nI 3).toNatClampNeg ≤ 100000 := by decide
    have z2 : (nI 3).toNatClampNeg = 3 := by decide
    simp (disch := first | assumption | (simp (disch := omega) only [cK_some, ofR_some, ofR_none, Option.toList_some, Option.toList_none, List.cons_append, List.nil_append, isL_i, isL_r, isL_u, isL_2, cs_0, cs_i, cs_r, cs_l, cs_ii, cs_ir, cs_ri, cs_rr, cs_iir, cs_irr, cs_iii, cs_iri, cs_rii, cs_rir, cs_rri, cs_rrr, cs_iiii, cs_iiir, cs_iiri, cs_iirr, cs_irii, cs_irir, cs_irri, cs_irrr, cs_riii, cs_riir, cs_riri, cs_rirr, cs_rrii, cs_rrir, cs_rrri, cs_rrrr, g2, z0, z1, inb_n, bq4, bq5, n100, not_false_eq_true, isB_0, isB_1, nI_clamp, nI_nneg, Nat.zero_add, Nat.le_refl]; done) | omega | (simp (disch := omega) only [cK_some, ofR_some, ofR_none, Option.toList_some, Option.toList_none, List.cons_append, List.nil_append, isL_i, isL_r, isL_u, isL_2, cs_0, cs_i, cs_r, cs_l, cs_ii, cs_ir, cs_ri, cs_rr, cs_iir, cs_irr, cs_iii, cs_iri, cs_rii, cs_rir, cs_rri, cs_rrr, cs_iiii, cs_iiir, cs_iiri, cs_iirr, cs_irii, cs_irir, cs_irri, cs_irrr, cs_riii, cs_riir, cs_riri, cs_rirr, cs_rrii, cs_rrir, cs_rrri, cs_rrrr, g2, z0, z1, inb_n, bq4, bq5, n100, not_false_eq_true, isB_0, isB_1, nI_clamp, nI_nneg, Nat.zero_add, Nat.le_refl]; omega)) only [xX12_init_25, xX12_init_26, xX12_init_27, xX12_init_29, cK_some, ofR_some, ofR_none, Option.toList_some, Option.toList_none, List.cons_append, List.nil_append, isL_i, isL_r, isL_u, isL_2, cs_0, cs_i, cs_r, cs_l, cs_ii, cs_ir, cs_ri, cs_rr, cs_iir, cs_irr, cs_iii, cs_iri, cs_rii, cs_rir, cs_rri, cs_rrr, cs_iiii, cs_iiir, cs_iiri, cs_iirr, cs_irii, cs_irir, cs_irri, cs_irrr, cs_riii, cs_riir, cs_riri, cs_rirr, cs_rrii, cs_rrir, cs_rrri, cs_rrrr, g1, z2, Nat.add_sub_cancel, Nat.add_zero, Nat.zero_add, nI_lt, nI_nlt, nI_le, nI_ge, nI_pos, pk_sub, nI_clamp, s2_ne, s2_o, s2_s, nI_add, inb_n, nI_nn, zq0, zq1, ↓reduceIte]
  have a4 := a3.step
  have e3 : tgS 3 = (0, 3) := rfl
  rw [e3] at a4
  generalize hH4 : gSetR (gNew H3 (0, 3)) R (12 + 3) (some (R + 1 + 3)) = H4 at a4
  have hK4 : gSetR (gNew H3 (0, 3)) R 15 (some (R + 1 + 3)) = H4 := hH4
  rw [hK4] at s3
  generalize iNew J3 (R + 1 + 3) = J4 at *
  have s4 : ex d mX12_init 32 [.val (.ref R)] [] H4 J4 = ex d mX12_init 40 [.val (.ref R)] [] (gSetR (gNew H4 (0, 6)) R 16 (some (R + 1 + 4))) (iNew J4 (R + 1 + 4)) := by
    have g1 := a4.1
    have g2 : gT (gNew H4 (0, 6)) R = (22, 31) := by rw [gT_N, s1_o (by omega)]; exact a4.2.2.1
    have z0 : ¬ nI 6 < 0 := by decide
    have z1 : (nI 6).toNatClampNeg ≤ 100000 := by decide
    have z2 : (nI 6).toNatClampNeg = 6 := by decide
    simp (disch := first | assumption | (simp (disch := omega) only [cK_some, ofR_some, ofR_none, Option.toList_some, Option.toList_none, List.cons_append, List.nil_append, isL_i, isL_r, isL_u, isL_2, cs_0, cs_i, cs_r, cs_l, cs_ii, cs_ir, cs_ri, cs_rr, cs_iir, cs_irr, cs_iii, cs_iri, cs_rii, cs_rir, cs_rri, cs_rrr, cs_iiii, cs_iiir, cs_iiri, cs_iirr, cs_irii, cs_irir, cs_irri, cs_irrr, cs_riii, cs_riir, cs_riri, cs_rirr, cs_rrii, cs_rrir, cs_rrri, cs_rrrr, g2, z0, z1, inb_n, bq4, bq5, n100, not_false_eq_true, isB_0, isB_1, nI_clamp, nI_nneg, Nat.zero_add, Nat.le_refl]; done) | omega | (simp (disch := omega) only [cK_some, ofR_some, ofR_none, Option.toList_some, Option.toList_none, List.cons_append, List.nil_append, isL_i, isL_r, isL_u, isL_2, cs_0, cs_i, cs_r, cs_l, cs_ii, cs_ir, cs_ri, cs_rr, cs_iir, cs_irr, cs_iii, cs_iri, cs_rii, cs_rir, cs_rri, cs_rrr, cs_iiii, cs_iiir, cs_iiri, cs_iirr, cs_irii, cs_irir, cs_irri, cs_irrr, cs_riii, cs_riir, cs_riri, cs_rirr, cs_rrii, cs_rrir, cs_rrri, cs_rrrr, g2, z0, z1, inb_n, bq4, bq5, n100, not_false_eq_true, isB_0, isB_1, nI_clamp, nI_nneg, Nat.zero_add, Nat.le_refl]; omega)) only [xX12_init_32, xX12_init_33, xX12_init_35, xX12_init_37, cK_some, ofR_some, ofR_none, Option.toList_some, Option.toList_none, List.cons_append, List.nil_append, isL_i, isL_r, isL_u, isL_2, cs_0, cs_i, cs_r, cs_l, cs_ii, cs_ir, cs_ri, cs_rr, cs_iir, cs_irr, cs_iii, cs_iri, cs_rii, cs_rir, cs_rri, cs_rrr, cs_iiii, cs_iiir, cs_iiri, cs_iirr, cs_irii, cs_irir, cs_irri, cs_irrr, cs_riii, cs_riir, cs_riri, cs_rirr, cs_rrii, cs_rrir, cs_rrri, cs_rrrr, g1, z2, Nat.add_sub_cancel, Nat.add_zero, Nat.zero_add, nI_lt, nI_nlt, nI_le, nI_ge, nI_pos, pk_sub, nI_clamp, s2_ne, s2_o, s2_s, nI_add, inb_n, nI_nn, zq0, zq1, ↓reduceIte]
  have a5 := a4.step
  have e4 : tgS 4 = (0, 6) := rfl
  rw [e4] at a5
  generalize hH5 : gSetR (gNew H4 (0, 6)) R (12 + 4) (some (R + 1 + 4)) = H5 at a5
  have hK5 : gSetR (gNew H4 (0, 6)) R 16 (some (R + 1 + 4)) = H5 := hH5
  rw [hK5] at s4
  generalize iNew J4 (R + 1 + 4) = J5 at *
  have s5 : ex d mX12_init 40 [.val (.ref R)] [] H5 J5 = ex d mX12_init 48 [.val (.ref R)] [] (gSetR (gNew H5 (0, 6)) R 17 (some (R + 1 + 5))) (iNew J5 (R + 1 + 5)) := by
    have g1 := a5.1
    have g2 : gT (gNew H5 (0, 6)) R = (22, 31) := by rw [gT_N, s1_o (by omega)]; exact a5.2.2.1
    have z0 : ¬ nI 6 < 0 := by decide
    have z1 : (nI 6).toNatClampNeg ≤ 100000 := by decide
    have z2 : (nI 6).toNatClampNeg = 6 := by decide
    simp (disch := first | assumption | (simp (disch := omega) only [cK_some, ofR_some, ofR_none, Option.toList_some, Option.toList_none, List.cons_append, List.nil_append, isL_i, isL_r, isL_u, isL_2, cs_0, cs_i, cs_r, cs_l, cs_ii, cs_ir, cs_ri, cs_rr, cs_iir, cs_irr, cs_iii, cs_iri, cs_rii, cs_rir, cs_rri, cs_rrr, cs_iiii, cs_iiir, cs_iiri, cs_iirr, cs_irii, cs_irir, cs_irri, cs_irrr, cs_riii, cs_riir, cs_riri, cs_rirr, cs_rrii, cs_rrir, cs_rrri, cs_rrrr, g2, z0, z1, inb_n, bq4, bq5, n100, not_false_eq_true, isB_0, isB_1, nI_clamp, nI_nneg, Nat.zero_add, Nat.le_refl]; done) | omega | (simp (disch := omega) only [cK_some, ofR_some, ofR_none, Option.toList_some, Option.toList_none, List.cons_append, List.nil_append, isL_i, isL_r, isL_u, isL_2, cs_0, cs_i, cs_r, cs_l, cs_ii, cs_ir, cs_ri, cs_rr, cs_iir, cs_irr, cs_iii, cs_iri, cs_rii, cs_rir, cs_rri, cs_rrr, cs_iiii, cs_iiir, cs_iiri, cs_iirr, cs_irii, cs_irir, cs_irri, cs_irrr, cs_riii, cs_riir, cs_riri, cs_rirr, cs_rrii, cs_rrir, cs_rrri, cs_rrrr, g2, z0, z1, inb_n, bq4, bq5, n100, not_false_eq_true, isB_0, isB_1, nI_clamp, nI_nneg, Nat.zero_add, Nat.le_refl]; omega)) only [xX12_init_40, xX12_init_41, xX12_init_43, xX12_init_45, cK_some, ofR_some, ofR_none, Option.toList_some, Option.toList_none, List.cons_append, List.nil_append, isL_i, isL_r, isL_u, isL_2, cs_0, cs_i, cs_r, cs_l, cs_ii, cs_ir, cs_ri, cs_rr, cs_iir, cs_irr, cs_iii, cs_iri, cs_rii, cs_rir, cs_rri, cs_rrr, cs_iiii, cs_iiir, cs_iiri, cs_iirr, cs_irii, cs_irir, cs_irri, cs_irrr, cs_riii, cs_riir, cs_riri, cs_rirr, cs_rrii, cs_rrir, cs_rrri, cs_rrrr, g1, z2, Nat.add_sub_cancel, Nat.add_zero, Nat.zero_add, nI_lt, nI_nlt, nI_le, nI_ge, nI_pos, pk_sub, nI_clamp, s2_ne, s2_o, s2_s, nI_add, inb_n, nI_nn, zq0, zq1, ↓reduceIte]
  have a6 := a5.step
  have e5 : tgS 5 = (0, 6) := rfl
  rw [e5] at a6
  generalize hH6 : gSetR (gNew H5 (0, 6)) R (12 + 5) (some (R + 1 + 5)) = H6 at a6
  have hK6 : gSetR (gNew H5 (0, 6)) R 17 (some (R + 1 + 5)) = H6 := hH6
  rw [hK6] at s5
  generalize iNew J5 (R + 1 + 5) = J6 at *
  have s6 : ex d mX12_init 48 [.val (.ref R)] [] H6 J6 = ex d mX12_init 56 [.val (.ref R)] [] (gSetR (gNew H6 (0, 6)) R 18 (some (R + 1 + 6))) (iNew J6 (R + 1 + 6)) := by
    have g1 := a6.1
    have g2 : gT (gNew H6 (0, 6)) R = (22, 31) := by rw [gT_N, s1_o (by omega)]; exact a6.2.2.1
    have z0 : ¬ nI 6 < 0 := by decide
    have z1 : (nI 6).toNatClampNeg ≤ 100000 := by decide
    have z2 : (nI 6).toNatClampNeg = 6 := by decide
    simp (disch := first | assumption | (simp (disch := omega) only [cK_some, ofR_some, ofR_none, Option.toList_some, Option.toList_none, List.cons_append, List.nil_append, isL_i, isL_r, isL_u, isL_2, cs_0, cs_i, cs_r, cs_l, cs_ii, cs_ir, cs_ri, cs_rr, cs_iir, cs_irr, cs_iii, cs_iri, cs_rii, cs_rir, cs_rri, cs_rrr, cs_iiii, cs_iiir, cs_iiri, cs_iirr, cs_irii, cs_irir, cs_irri, cs_irrr, cs_riii, cs_riir, cs_riri, cs_rirr, cs_rrii, cs_rrir, cs_rrri, cs_rrrr, g2, z0, z1, inb_n, bq4, bq5, n100, not_false_eq_true, isB_0, isB_1, nI_clamp, nI_nneg, Nat.zero_add, Nat.le_refl]; done) | omega | (simp (disch := omega) only [cK_some, ofR_some, ofR_none, Option.toList_some, Option.toList_none, List.cons_append, List.nil_append, isL_i, isL_r, isL_u, isL_2, cs_0, cs_i, cs_r, cs_l, cs_ii, cs_ir, cs_ri, cs_rr, cs_iir, cs_irr, cs_iii, cs_iri, cs_rii, cs_rir, cs_rri, cs_rrr, cs_iiii, cs_iiir, cs_iiri, cs_iirr, cs_irii, cs_irir, cs_irri, cs_irrr, cs_riii, cs_riir, cs_riri, cs_rirr, cs_rrii, cs_rrir, cs_rrri, cs_rrrr, g2, z0, z1, inb_n, bq4, bq5, n100, not_false_eq_true, isB_0, isB_1, nI_clamp, nI_nneg, Nat.zero_add, Nat.le_refl]; omega)) only [xX12_init_48, xX12_init_49, xX12_init_51, xX12_init_53, cK_some, ofR_some, ofR_none, Option.toList_some, Option.toList_none, List.cons_append, List.nil_append, isL_i, isL_r, isL_u, isL_2, cs_0, cs_i, cs_r, cs_l, cs_ii, cs_ir, cs_ri, cs_rr, cs_iir, cs_irr, cs_iii, cs_iri, cs_rii, cs_rir, cs_rri, cs_rrr, cs_iiii, cs_iiir, cs_iiri, cs_iirr, cs_irii, cs_irir, cs_irri, cs_irrr, cs_riii, cs_riir, cs_riri, cs_rirr, cs_rrii, cs_rrir, cs_rrri, cs_rrrr, g1, z2, Nat.add_sub_cancel, Nat.add_zero, Nat.zero_add, nI_lt, nI_nlt, nI_le, nI_ge, nI_pos, pk_sub, nI_clamp, s2_ne, s2_o, s2_s, nI_add, inb_n, nI_nn, zq0, zq1, ↓reduceIte]
  have a7 := a6.step
  have e6 : tgS 6 = (0, 6) := rfl
  rw [e6] at a7
  generalize hH7 : gSetR (gNew H6 (0, 6)) R (12 + 6) (some (R + 1 + 6)) = H7 at a7
  have hK7 : gSetR (gNew H6 (0, 6)) R 18 (some (R + 1 + 6)) = H7 := hH7
  rw [hK7] at s6
  generalize iNew J6 (R + 1 + 6) = J7 at *
  have s7 : ex d mX12_init 56 [.val (.ref R)] [] H7 J7 = ex d mX12_init 64 [.val (.ref R)] [] (gSetR (gNew H7 (0, 6)) R 19 (some (R + 1 + 7))) (iNew J7 (R + 1 + 7)) := by
    have g1 := a7.1
    have g2 : gT (gNew H7 (0, 6)) R = (22, 31) := by rw [gT_N, s1_o (by omega)]; exact a7.2.2.1
    have z0 : ¬ nI 6 < 0 := by decide
    have z1 : (nI 6).toNatClampNeg ≤ 100000 := by decide
    have z2 : (nI 6).toNatClampNeg = 6 := by decide
    simp (disch := first | assumption | (simp (disch := omega) only [cK_some, ofR_some, ofR_none, Option.toList_some, Option.toList_none, List.cons_append, List.nil_append, isL_i, isL_r, isL_u, isL_2, cs_0, cs_i, cs_r, cs_l, cs_ii, cs_ir, cs_ri, cs_rr, cs_iir, cs_irr, cs_iii, cs_iri, cs_rii, cs_rir, cs_rri, cs_rrr, cs_iiii, cs_iiir, cs_iiri, cs_iirr, cs_irii, cs_irir, cs_irri, cs_irrr, cs_riii, cs_riir, cs_riri, cs_rirr, cs_rrii, cs_rrir, cs_rrri, cs_rrrr, g2, z0, z1, inb_n, bq4, bq5, n100, not_false_eq_true, isB_0, isB_1, nI_clamp, nI_nneg, Nat.zero_add, Nat.le_refl]; done) | omega | (simp (disch := omega) only [cK_some, ofR_some, ofR_none, Option.toList_some, Option.toList_none, List.cons_append, List.nil_append, isL_i, isL_r, isL_u, isL_2, cs_0, cs_i, cs_r, cs_l, cs_ii, cs_ir, cs_ri, cs_rr, cs_iir, cs_irr, cs_iii, cs_iri, cs_rii, cs_rir, cs_rri, cs_rrr, cs_iiii, cs_iiir, cs_iiri, cs_iirr, cs_irii, cs_irir, cs_irri, cs_irrr, cs_riii, cs_riir, cs_riri, cs_rirr, cs_rrii, cs_rrir, cs_rrri, cs_rrrr, g2, z0, z1, inb_n, bq4, bq5, n100, not_false_eq_true, isB_0, isB_1, nI_clamp, nI_nneg, Nat.zero_add, Nat.le_refl]; omega)) only [xX12_init_56, xX12_init_57, xX12_init_59, xX12_init_61, cK_some, ofR_some, ofR_none, Option.toList_some, Option.toList_none, List.cons_append, List.nil_append, isL_i, isL_r, isL_u, isL_2, cs_0, cs_i, cs_r, cs_l, cs_ii, cs_ir, cs_ri, cs_rr, cs_iir, cs_irr, cs_iii, cs_iri, cs_rii, cs_rir, cs_rri, cs_rrr, cs_iiii, cs_iiir, cs_iiri, cs_iirr, cs_irii, cs_irir, cs_irri, cs_irrr, cs_riii, cs_riir, cs_riri, cs_rirr, cs_rrii, cs_rrir, cs_rrri, cs_rrrr, g1, z2, Nat.add_sub_cancel, Nat.add_zero, Nat.zero_add, nI_lt, nI_nlt, nI_le, nI_ge, nI_pos, pk_sub, nI_clamp, s2_ne, s2_o, s2_s, nI_add, inb_n, nI_nn, zq0, zq1, ↓reduceIte]
  have a8 := a7.step
  have e7 : tgS 7 = (0, 6) := rfl
  rw [e7] at a8
  generalize hH8 : gSetR (gNew H7 (0, 6)) R (12 + 7) (some (R + 1 + 7)) = H8 at a8
  have hK8 : gSetR (gNew H7 (0, 6)) R 19 (some (R + 1 + 7)) = H8 := hH8
  rw [hK8] at s7
  generalize iNew J7 (R + 1 + 7) = J8 at *
  have s8 : ex d mX12_init 64 [.val (.ref R)] [] H8 J8 = ex d mX12_init 72 [.val (.ref R)] [] (gSetR (gNew H8 (0, 6)) R 20 (some (R + 1 + 8))) (iNew J8 (R + 1 + 8)) := by
    have g1 := a8.1
    have g2 : gT (gNew H8 (0, 6)) R = (22, 31) := by rw [gT_N, s1_o (by omega)]; exact a8.2.2.1
    have z0 : ¬ nI 6 < 0 := by decide
    have z1 : (nI 6).toNatClampNeg ≤ 100000 := by decide
    have z2 : (nI 6).toNatClampNeg = 6 := by decide
    simp (disch := first | assumption | (simp (disch := omega) only [cK_some, ofR_some, ofR_none, Option.toList_some, Option.toList_none, List.cons_append, List.nil_append, isL_i, isL_r, isL_u, isL_2, cs_0, cs_i, cs_r, cs_l, cs_ii, cs_ir, cs_ri, cs_rr, cs_iir, cs_irr, cs_iii, cs_iri, cs_rii, cs_rir, cs_rri, cs_rrr, cs_iiii, cs_iiir, cs_iiri, cs_iirr, cs_irii, cs_irir, cs_irri, cs_irrr, cs_riii, cs_riir, cs_riri, cs_rirr, cs_rrii, cs_rrir, cs_rrri, cs_rrrr, g2, z0, z1, inb_n, bq4, bq5, n100, not_false_eq_true, isB_0, isB_1, nI_clamp, nI_nneg, Nat.zero_add, Nat.le_refl]; done) | omega | (simp (disch := omega) only [cK_some, ofR_some, ofR_none, Option.toList_some, Option.toList_none, List.cons_append, List.nil_append, isL_i, isL_r, isL_u, isL_2, cs_0, cs_i, cs_r, cs_l, cs_ii, cs_ir, cs_ri, cs_rr, cs_iir, cs_irr, cs_iii, cs_iri, cs_rii, cs_rir, cs_rri, cs_rrr, cs_iiii, cs_iiir, cs_iiri, cs_iirr, cs_irii, cs_irir, cs_irri, cs_irrr, cs_riii, cs_riir, cs_riri, cs_rirr, cs_rrii, cs_rrir, cs_rrri, cs_rrrr, g2, z0, z1, inb_n, bq4, bq5, n100, not_false_eq_true, isB_0, isB_1, nI_clamp, nI_nneg, Nat.zero_add, Nat.le_refl]; omega)) only [xX12_init_64, xX12_init_65, xX12_init_67, xX12_init_69, cK_some, ofR_some, ofR_none, Option.toList_some, Option.toList_none, List.cons_append, List.nil_append, isL_i, isL_r, isL_u, isL_2, cs_0, cs_i, cs_r, cs_l, cs_ii, cs_ir, cs_ri, cs_rr, cs_iir, cs_irr, cs_iii, cs_iri, cs_rii, cs_rir, cs_rri, cs_rrr, cs_iiii, cs_iiir, cs_iiri, cs_iirr, cs_irii, cs_irir, cs_irri, cs_irrr, cs_riii, cs_riir, cs_riri, cs_rirr, cs_rrii, cs_rrir, cs_rrri, cs_rrrr, g1, z2, Nat.add_sub_cancel, Nat.add_zero, Nat.zero_add, nI_lt, nI_nlt, nI_le, nI_ge, nI_pos, pk_sub, nI_clamp, s2_ne, s2_o, s2_s, nI_add, inb_n, nI_nn, zq0, zq1, ↓reduceIte]
  have a9 := a8.step
  have e8 : tgS 8 = (0, 6) := rfl
  rw [e8] at a9
  generalize hH9 : gSetR (gNew H8 (0, 6)) R (12 + 8) (some (R + 1 + 8)) = H9 at a9
  have hK9 : gSetR (gNew H8 (0, 6)) R 20 (some (R + 1 + 8)) = H9 := hH9
  rw [hK9] at s8
  generalize iNew J8 (R + 1 + 8) = J9 at *
  have s9 : ex d mX12_init 72 [.val (.ref R)] [] H9 J9 = ex d mX12_init 80 [.val (.ref R)] [] (gSetR (gNew H9 (0, 6)) R 21 (some (R + 1 + 9))) (iNew J9 (R + 1 + 9)) := by
    have g1 := a9.1
    have g2 : gT (gNew H9 (0, 6)) R = (22, 31) := by rw [gT_N, s1_o (by omega)]; exact a9.2.2.1
    have z0 : ¬ nI 6 < 0 := by decide
    have z1 : (nI 6).toNatClampNeg ≤ 100000 := by decide
    have z2 : (nI 6).toNatClampNeg = 6 := by decide
    simp (disch := first | assumption | (simp (disch := omega) only [cK_some, ofR_some, ofR_none, Option.toList_some, Option.toList_none, List.cons_append, List.nil_append, isL_i, isL_r, isL_u, isL_2, cs_0, cs_i, cs_r, cs_l, cs_ii, cs_ir, cs_ri, cs_rr, cs_iir, cs_irr, cs_iii, cs_iri, cs_rii, cs_rir, cs_rri, cs_rrr, cs_iiii, cs_iiir, cs_iiri, cs_iirr, cs_irii, cs_irir, cs_irri, cs_irrr, cs_riii, cs_riir, cs_riri, cs_rirr, cs_rrii, cs_rrir, cs_rrri, cs_rrrr, g2, z0, z1, inb_n, bq4, bq5, n100, not_false_eq_true, isB_0, isB_1, nI_clamp, nI_nneg, Nat.zero_add, Nat.le_refl]; done) | omega | (simp (disch := omega) only [cK_some, ofR_some, ofR_none, Option.toList_some, Option.toList_none, List.cons_append, List.nil_append, isL_i, isL_r, isL_u, isL_2, cs_0, cs_i, cs_r, cs_l, cs_ii, cs_ir, cs_ri, cs_rr, cs_iir, cs_irr, cs_iii, cs_iri, cs_rii, cs_rir, cs_rri, cs_rrr, cs_iiii, cs_iiir, cs_iiri, cs_iirr, cs_irii, cs_irir, cs_irri, cs_irrr, cs_riii, cs_riir, cs_riri, cs_rirr, cs_rrii, cs_rrir, cs_rrri, cs_rrrr, g2, z0, z1, inb_n, bq4, bq5, n100, not_false_eq_true, isB_0, isB_1, nI_clamp, nI_nneg, Nat.zero_add, Nat.le_refl]; omega)) only [xX12_init_72, xX12_init_73, xX12_init_75, xX12_init_77, cK_some, ofR_some, ofR_none, Option.toList_some, Option.toList_none, List.cons_append, List.nil_append, isL_i, isL_r, isL_u, isL_2, cs_0, cs_i, cs_r, cs_l, cs_ii, cs_ir, cs_ri, cs_rr, cs_iir, cs_irr, cs_iii, cs_iri, cs_rii, cs_rir, cs_rri, cs_rrr, cs_iiii, cs_iiir, cs_iiri, cs_iirr, cs_irii, cs_irir, cs_irri, cs_irrr, cs_riii, cs_riir, cs_riri, cs_rirr, cs_rrii, cs_rrir, cs_rrri, cs_rrrr, g1, z2, Nat.add_sub_cancel, Nat.add_zero, Nat.zero_add, nI_lt, nI_nlt, nI_le, nI_ge, nI_pos, pk_sub, nI_clamp, s2_ne, s2_o, s2_s, nI_add, inb_n, nI_nn, zq0, zq1, ↓reduceIte]
  have a10 := a9.step
  have e9 : tgS 9 = (0, 6) := rfl
  rw [e9] at a10
  generalize hH10 : gSetR (gNew H9 (0, 6)) R (12 + 9) (some (R + 1 + 9)) = H10 at a10
  have hK10 : gSetR (gNew H9 (0, 6)) R 21 (some (R + 1 + 9)) = H10 := hH10
  rw [hK10] at s9
  generalize iNew J9 (R + 1 + 9) = J10 at *
  have s10 : ex d mX12_init 80 [.val (.ref R)] [] H10 J10 = ex d mX12_init 88 [.val (.ref R)] [] (gSetR (gNew H10 (0, 6)) R 22 (some (R + 1 + 10))) (iNew J10 (R + 1 + 10)) := by
    have g1 := a10.1
    have g2 : gT (gNew H10 (0, 6)) R = (22, 31) := by rw [gT_N, s1_o (by omega)]; exact a10.2.2.1
    have z0 : ¬ nI 6 < 0 := by decide
    have z1 : (nI 6).toNatClampNeg ≤ 100000 := by decide
    have z2 : (nI 6).toNatClampNeg = 6 := by decide
    simp (disch := first | assumption | (simp (disch := omega) only [cK_some, ofR_some, ofR_none, Option.toList_some, Option.toList_none, List.cons_append, List.nil_append, isL_i, isL_r, isL_u, isL_2, cs_0, cs_i, cs_r, cs_l, cs_ii, cs_ir, cs_ri, cs_rr, cs_iir, cs_irr, cs_iii, cs_iri, cs_rii, cs_rir, cs_rri, cs_rrr, cs_iiii, cs_iiir, cs_iiri, cs_iirr, cs_irii, cs_irir, cs_irri, cs_irrr, cs_riii, cs_riir, cs_riri, cs_rirr, cs_rrii, cs_rrir, cs_rrri, cs_rrrr, g2, z0, z1, inb_n, bq4, bq5, n100, not_false_eq_true, isB_0, isB_1, nI_clamp, nI_nneg, Nat.zero_add, Nat.le_refl]; done) | omega | (simp (disch := omega) only [cK_some, ofR_some, ofR_none, Option.toList_some, Option.toList_none, List.cons_append, List.nil_append, isL_i, isL_r, isL_u, isL_2, cs_0, cs_i, cs_r, cs_l, cs_ii, cs_ir, cs_ri, cs_rr, cs_iir, cs_irr, cs_iii, cs_iri, cs_rii, cs_rir, cs_rri, cs_rrr, cs_iiii, cs_iiir, cs_iiri, cs_iirr, cs_irii, cs_irir, cs_irri, cs_irrr, cs_riii, cs_riir, cs_riri, cs_rirr, cs_rrii, cs_rrir, cs_rrri, cs_rrrr, g2, z0, z1, inb_n, bq4, bq5, n100, not_false_eq_true, isB_0, isB_1, nI_clamp, nI_nneg, Nat.zero_add, Nat.le_refl]; omega)) only [xX12_init_80, xX12_init_81, xX12_init_83, xX12_init_85, cK_some, ofR_some, ofR_none, Option.toList_some, Option.toList_none, List.cons_append, List.nil_append, isL_i, isL_r, isL_u, isL_2, cs_0, cs_i, cs_r, cs_l, cs_ii, cs_ir, cs_ri, cs_rr, cs_iir, cs_irr, cs_iii, cs_iri, cs_rii, cs_rir, cs_rri, cs_rrr, cs_iiii, cs_iiir, cs_iiri, cs_iirr, cs_irii, cs_irir, cs_irri, cs_irrr, cs_riii, cs_riir, cs_riri, cs_rirr, cs_rrii, cs_rrir, cs_rrri, cs_rrrr, g1, z2, Nat.add_sub_cancel, Nat.add_zero, Nat.zero_add, nI_lt, nI_nlt, nI_le, nI_ge, nI_pos, pk_sub, nI_clamp, s2_ne, s2_o, s2_s, nI_add, inb_n, nI_nn, zq0, zq1, ↓reduceIte]
  have a11 := a10.step
  have e10 : tgS 10 = (0, 6) := rfl
  rw [e10] at a11
  generalize hH11 : gSetR (gNew H10 (0, 6)) R (12 + 10) (some (R + 1 + 10)) = H11 at a11
  have hK11 : gSetR (gNew H10 (0, 6)) R 22 (some (R + 1 + 10)) = H11 := hH11
  rw [hK11] at s10
  generalize iNew J10 (R + 1 + 10) = J11 at *
  have s11 : ex d mX12_init 88 [.val (.ref R)] [] H11 J11 = ex d mX12_init 96 [.val (.ref R)] [] (gSetR (gNew H11 (0, 12)) R 23 (some (R + 1 + 11))) (iNew J11 (R + 1 + 11)) := by
    have g1 := a11.1
    have g2 : gT (gNew H11 (0, 12)) R = (22, 31) := by rw [gT_N, s1_o (by omega)]; exact a11.2.2.1
    have z0 : ¬ nI 12 < 0 := by decide
    have z1 : (nI 12).toNatClampNeg ≤ 100000 := by decide
    have z2 : (nI 12).toNatClampNeg = 12 := by decide
    simp (disch := first | assumption | (simp (disch := omega) only [cK_some, ofR_some, ofR_none, Option.toList_some, Option.toList_none, List.cons_append, List.nil_append, isL_i, isL_r, isL_u, isL_2, cs_0, cs_i, cs_r, cs_l, cs_ii, cs_ir, cs_ri, cs_rr, cs_iir, cs_irr, cs_iii, cs_iri, cs_rii, cs_rir, cs_rri, cs_rrr, cs_iiii, cs_iiir, cs_iiri, cs_iirr, cs_irii, cs_irir, cs_irri, cs_irrr, cs_riii, cs_riir, cs_riri, cs_rirr, cs_rrii, cs_rrir, cs_rrri, cs_rrrr, g2, z0, z1, inb_n, bq4, bq5, n100, not_false_eq_true, isB_0, isB_1, nI_clamp, nI_nneg, Nat.zero_add, Nat.le_refl]; done) | omega | (simp (disch := omega) only [cK_some, ofR_some, ofR_none, Option.toList_some, Option.toList_none, List.cons_append, List.nil_append, isL_i, isL_r, isL_u, isL_2, cs_0, cs_i, cs_r, cs_l, cs_ii, cs_ir, cs_ri, cs_rr, cs_iir, cs_irr, cs_iii, cs_iri, cs_rii, cs_rir, cs_rri, cs_rrr, cs_iiii, cs_iiir, cs_iiri, cs_iirr, cs_irii, cs_irir, cs_irri, cs_irrr, cs_riii, cs_riir, cs_riri, cs_rirr, cs_rrii, cs_rrir, cs_rrri, cs_rrrr, g2, z0, z1, inb_n, bq4, bq5, n100, not_false_eq_true, isB_0, isB_1, nI_clamp, nI_nneg, Nat.zero_add, Nat.le_refl]; omega)) only [xX12_init_88, xX12_init_89, xX12_init_91, xX12_init_93, cK_some, ofR_some, ofR_none, Option.toList_some, Option.toList_none, List.cons_append, List.nil_append, isL_i, isL_r, isL_u, isL_2, cs_0, cs_i, cs_r, cs_l, cs_ii, cs_ir, cs_ri, cs_rr, cs_iir, cs_irr, cs_iii, cs_iri, cs_rii, cs_rir, cs_rri, cs_rrr, cs_iiii, cs_iiir, cs_iiri, cs_iirr, cs_irii, cs_irir, cs_irri, cs_irrr, cs_riii, cs_riir, cs_riri, cs_rirr, cs_rrii, cs_rrir, cs_rrri, cs_rrrr, g1, z2, Nat.add_sub_cancel, Nat.add_zero, Nat.zero_add, nI_lt, nI_nlt, nI_le, nI_ge, nI_pos, pk_sub, nI_clamp, s2_ne, s2_o, s2_s, nI_add, inb_n, nI_nn, zq0, zq1, ↓reduceIte]
  have a12 := a11.step
  have e11 : tgS 11 = (0, 12) := rfl
  rw [e11] at a12
  generalize hH12 : gSetR (gNew H11 (0, 12)) R (12 + 11) (some (R + 1 + 11)) = H12 at a12
  have hK12 : gSetR (gNew H11 (0, 12)) R 23 (some (R + 1 + 11)) = H12 := hH12
  rw [hK12] at s11
  generalize iNew J11 (R + 1 + 11) = J12 at *
  have s12 : ex d mX12_init 96 [.val (.ref R)] [] H12 J12 = ex d mX12_init 104 [.val (.ref R)] [] (gSetR (gNew H12 (0, 12)) R 24 (some (R + 1 + 12))) (iNew J12 (R + 1 + 12)) := by
    have g1 := a12.1
    have g2 : gT (gNew H12 (0, 12)) R = (22, 31) := by rw [gT_N, s1_o (by omega)]; exact a12.2.2.1
    have z0 : ¬ nI 12 < 0 := by decide
    have z1 : (nI 12).toNatClampNeg ≤ 100000 := by decide
    have z2 : (nI 12).toNatClampNeg = 12 := by decide
    simp (disch := first | assumption | (simp (disch := omega) only [cK_some, ofR_some, ofR_none, Option.toList_some, Option.toList_none, List.cons_append, List.nil_append, isL_i, isL_r, isL_u, isL_2, cs_0, cs_i, cs_r, cs_l, cs_ii, cs_ir, cs_ri, cs_rr, cs_iir, cs_irr, cs_iii, cs_iri, cs_rii, cs_rir, cs_rri, cs_rrr, cs_iiii, cs_iiir, cs_iiri, cs_iirr, cs_irii, cs_irir, cs_irri, cs_irrr, cs_riii, cs_riir, cs_riri, cs_rirr, cs_rrii, cs_rrir, cs_rrri, cs_rrrr, g2, z0, z1, inb_n, bq4, bq5, n100, not_false_eq_true, isB_0, isB_1, nI_clamp, nI_nneg, Nat.zero_add, Nat.le_refl]; done) | omega | (simp (disch := omega) only [cK_some, ofR_some, ofR_none, Option.toList_some, Option.toList_none, List.cons_append, List.nil_append, isL_i, isL_r, isL_u, isL_2, cs_0, cs_i, cs_r, cs_l, cs_ii, cs_ir, cs_ri, cs_rr, cs_iir, cs_irr, cs_iii, cs_iri, cs_rii, cs_rir, cs_rri, cs_rrr, cs_iiii, cs_iiir, cs_iiri, cs_iirr, cs_irii, cs_irir, cs_irri, cs_irrr, cs_riii, cs_riir, cs_riri, cs_rirr, cs_rrii, cs_rrir, cs_rrri, cs_rrrr, g2, z0, z1, inb_n, bq4, bq5, n100, not_false_eq_true, isB_0, isB_1, nI_clamp, nI_nneg, Nat.zero_add, Nat.le_refl]; omega)) only [xX12_init_96, xX12_init_97, xX12_init_99, xX12_init_101, cK_some, ofR_some, ofR_none, Option.toList_some, Option.toList_none, List.cons_append, List.nil_append, isL_i, isL_r, isL_u, isL_2, cs_0, cs_i, cs_r, cs_l, cs_ii, cs_ir, cs_ri, cs_rr, cs_iir, cs_irr, cs_iii, cs_iri, cs_rii, cs_rir, cs_rri, cs_rrr, cs_iiii, cs_iiir, cs_iiri, cs_iirr, cs_irii, cs_irir, cs_irri, cs_irrr, cs_riii, cs_riir, cs_riri, cs_rirr, cs_rrii, cs_rrir, cs_rrri, cs_rrrr, g1, z2, Nat.add_sub_cancel, Nat.add_zero, Nat.zero_add, nI_lt, nI_nlt, nI_le, nI_ge, nI_pos, pk_sub, nI_clamp, s2_ne, s2_o, s2_s, nI_add, inb_n, nI_nn, zq0, zq1, ↓reduceIte]
  have a13 := a12.step
  have e12 : tgS 12 = (0, 12) := rfl
  rw [e12] at a13
  generalize hH13 : gSetR (gNew H12 (0, 12)) R (12 + 12) (some (R + 1 + 12)) = H13 at a13
  have hK13 : gSetR (gNew H12 (0, 12)) R 24 (some (R + 1 + 12)) = H13 := hH13
  rw [hK13] at s12
  generalize iNew J12 (R + 1 + 12) = J13 at *
  have s13 : ex d mX12_init 104 [.val (.ref R)] [] H13 J13 = ex d mX12_init 112 [.val (.ref R)] [] (gSetR (gNew H13 (0, 12)) R 25 (some (R + 1 + 13))) (iNew J13 (R + 1 + 13)) := by
    have g1 := a13.1
    have g2 : gT (gNew H13 (0, 12)) R = (22, 31) := by rw [gT_N, s1_o (by omega)]; exact a13.2.2.1
    have z0 : ¬ nI 12 < 0 := by decide
    have z1 : (nI 12).toNatClampNeg ≤ 100000 := by decide
    have z2 : (nI 12).toNatClampNeg = 12 := by decide
    simp (disch := first | assumption | (simp (disch := omega) only [cK_some, ofR_some, ofR_none, Option.toList_some, Option.toList_none, List.cons_append, List.nil_append, isL_i, isL_r, isL_u, isL_2, cs_0, cs_i, cs_r, cs_l, cs_ii, cs_ir, cs_ri, cs_rr, cs_iir, cs_irr, cs_iii, cs_iri, cs_rii, cs_rir, cs_rri, cs_rrr, cs_iiii, cs_iiir, cs_iiri, cs_iirr, cs_irii, cs_irir, cs_irri, cs_irrr, cs_riii, cs_riir, cs_riri, cs_rirr, cs_rrii, cs_rrir, cs_rrri, cs_rrrr, g2, z0, z1, inb_n, bq4, bq5, n100, not_false_eq_true, isB_0, isB_1, nI_clamp, nI_nneg, Nat.zero_add, Nat.le_refl]; done) | omega | (simp (disch := omega) only [cK_some, ofR_some, ofR_none, Option.toList_some, Option.toList_none, List.cons_append, List.nil_append, isL_i, isL_r, isL_u, isL_2, cs_0, cs_i, cs_r, cs_l, cs_ii, cs_ir, cs_ri, cs_rr, cs_iir, cs_irr, cs_iii, cs_iri, cs_rii, cs_rir, cs_rri, cs_rrr, cs_iiii, cs_iiir, cs_iiri, cs_iirr, cs_irii, cs_irir, cs_irri, cs_irrr, cs_riii, cs_riir, cs_riri, cs_rirr, cs_rrii, cs_rrir, cs_rrri, cs_rrrr, g2, z0, z1, inb_n, bq4, bq5, n100, not_false_eq_true, isB_0, isB_1, nI_clamp, nI_nneg, Nat.zero_add, Nat.le_refl]; omega)) only [xX12_init_104, xX12_init_105, xX12_init_107, xX12_init_109, cK_some, ofR_some, ofR_none, Option.toList_some, Option.toList_none, List.cons_append, List.nil_append, isL_i, isL_r, isL_u, isL_2, cs_0, cs_i, cs_r, cs_l, cs_ii, cs_ir, cs_ri, cs_rr, cs_iir, cs_irr, cs_iii, cs_iri, cs_rii, cs_rir, cs_rri, cs_rrr, cs_iiii, cs_iiir, cs_iiri, cs_iirr, cs_irii, cs_irir, cs_irri, cs_irrr, cs_riii, cs_riir, cs_riri, cs_rirr, cs_rrii, cs_rrir, cs_rrri, cs_rrrr, g1, z2, Nat.add_sub_cancel, Nat.add_zero, Nat.zero_add, nI_lt, nI_nlt, nI_le, nI_ge, nI_pos, pk_sub, nI_clamp, s2_ne, s2_o, s2_s, nI_add, inb_n, nI_nn, zq0, zq1, ↓reduceIte]
  have a14 := a13.step
  have e13 : tgS 13 = (0, 12) := rfl
  rw [e13] at a14
  generalize hH14 : gSetR (gNew H13 (0, 12)) R (12 + 13) (some (R + 1 + 13)) = H14 at a14
  have hK14 : gSetR (gNew H13 (0, 12)) R 25 (some (R + 1 + 13)) = H14 := hH14
  rw [hK14] at s13
  generalize iNew J13 (R + 1 + 13) = J14 at *
  have s14 : ex d mX12_init 112 [.val (.ref R)] [] H14 J14 = ex d mX12_init 120 [.val (.ref R)] [] (gSetR (gNew H14 (0, 12)) R 26 (some (R + 1 + 14))) (iNew J14 (R + 1 + 14)) := by
    have g1 := a14.1
    have g2 : gT (gNew H14 (0, 12)) R = (22, 31) := by rw [gT_N, s1_o (by omega)]; exact a14.2.2.1
    have z0 : ¬ nI 12 < 0 := by decide
    have z1 : (nI 12).toNatClampNeg ≤ 100000 := by decide
    have z2 : (nI 12).toNatClampNeg = 12 := by decide
    simp (disch := first | assumption | (simp (disch := omega) only [cK_some, ofR_some, ofR_none, Option.toList_some, Option.toList_none, List.cons_append, List.nil_append, isL_i, isL_r, isL_u, isL_2, cs_0, cs_i, cs_r, cs_l, cs_ii, cs_ir, cs_ri, cs_rr, cs_iir, cs_irr, cs_iii, cs_iri, cs_rii, cs_rir, cs_rri, cs_rrr, cs_iiii, cs_iiir, cs_iiri, cs_iirr, cs_irii, cs_irir, cs_irri, cs_irrr, cs_riii, cs_riir, cs_riri, cs_rirr, cs_rrii, cs_rrir, cs_rrri, cs_rrrr, g2, z0, z1, inb_n, bq4, bq5, n100, not_false_eq_true, isB_0, isB_1, nI_clamp, nI_nneg, Nat.zero_add, Nat.le_refl]; done) | omega | (simp (disch := omega) only [cK_some, ofR_some, ofR_none, Option.toList_some, Option.toList_none, List.cons_append, List.nil_append, isL_i, isL_r, isL_u, isL_2, cs_0, cs_i, cs_r, cs_l, cs_ii, cs_ir, cs_ri, cs_rr, cs_iir, cs_irr, cs_iii, cs_iri, cs_rii, cs_rir, cs_rri, cs_rrr, cs_iiii, cs_iiir, cs_iiri, cs_iirr, cs_irii, cs_irir, cs_irri, cs_irrr, cs_riii, cs_riir, cs_riri, cs_rirr, cs_rrii, cs_rrir, cs_rrri, cs_rrrr, g2, z0, z1, inb_n, bq4, bq5, n100, not_false_eq_true, isB_0, isB_1, nI_clamp, nI_nneg, Nat.zero_add, Nat.le_refl]; omega)) only [xX12_init_112, xX12_init_113, xX12_init_115, xX12_init_117, cK_some, ofR_some, ofR_none, Option.toList_some, Option.toList_none, List.cons_append, List.nil_append, isL_i, isL_r, isL_u, isL_2, cs_0, cs_i, cs_r, cs_l, cs_ii, cs_ir, cs_ri, cs_rr, cs_iir, cs_irr, cs_iii, cs_iri, cs_rii, cs_rir, cs_rri, cs_rrr, cs_iiii, cs_iiir, cs_iiri, cs_iirr, cs_irii, cs_irir, cs_irri, cs_irrr, cs_riii, cs_riir, cs_riri, cs_rirr, cs_rrii, cs_rrir, cs_rrri, cs_rrrr, g1, z2, Nat.add_sub_cancel, Nat.add_zero, Nat.zero_add, nI_lt, nI_nlt, nI_le, nI_ge, nI_pos, pk_sub, nI_clamp, s2_ne, s2_o, s2_s, nI_add, inb_n, nI_nn, zq0, zq1, ↓reduceIte]
  have a15 := a14.step
  have e14 : tgS 14 = (0, 12) := rfl
  rw [e14] at a15
  generalize hH15 : gSetR (gNew H14 (0, 12)) R (12 + 14) (some (R + 1 + 14)) = H15 at a15
  have hK15 : gSetR (gNew H14 (0, 12)) R 26 (some (R + 1 + 14)) = H15 := hH15
  rw [hK15] at s14
  generalize iNew J14 (R + 1 + 14) = J15 at *
  have s15 : ex d mX12_init 120 [.val (.ref R)] [] H15 J15 = ex d mX12_init 128 [.val (.ref R)] [] (gSetR (gNew H15 (0, 6)) R 27 (some (R + 1 + 15))) (iNew J15 (R + 1 + 15)) := by
    have g1 := a15.1
    have g2 : gT (gNew H15 (0, 6)) R = (22, 31) := by rw [gT_N, s1_o (by omega)]; exact a15.2.2.1
    have z0 : ¬ nI 6 < 0 := by decide
    have z1 : (nI 6).toNatClampNeg ≤ 100000 := by decide
    have z2 : (nI 6).toNatClampNeg = 6 := by decide
    simp (disch := first | assumption | (simp (disch := omega) only [cK_some, ofR_some, ofR_none, Option.toList_some, Option.toList_none, List.cons_append, List.nil_append, isL_i, isL_r, isL_u, isL_2, cs_0, cs_i, cs_r, cs_l, cs_ii, cs_ir, cs_ri, cs_rr, cs_iir, cs_irr, cs_iii, cs_iri, cs_rii, cs_rir, cs_rri, cs_rrr, cs_iiii, cs_iiir, cs_iiri, cs_iirr, cs_irii, cs_irir, cs_irri, cs_irrr, cs_riii, cs_riir, cs_riri, cs_rirr, cs_rrii, cs_rrir, cs_rrri, cs_rrrr, g2, z0, z1, inb_n, bq4, bq5, n100, not_false_eq_true, isB_0, isB_1, nI_clamp, nI_nneg, Nat.zero_add, Nat.le_refl]; done) | omega | (simp (disch := omega) only [cK_some, ofR_some, ofR_none, Option.toList_some, Option.toList_none, List.cons_append, List.nil_append, isL_i, isL_r, isL_u, isL_2, cs_0, cs_i, cs_r, cs_l, cs_ii, cs_ir, cs_ri, cs_rr, cs_iir, cs_irr, cs_iii, cs_iri, cs_rii, cs_rir, cs_rri, cs_rrr, cs_iiii, cs_iiir, cs_iiri, cs_iirr, cs_irii, cs_irir, cs_irri, cs_irrr, cs_riii, cs_riir, cs_riri, cs_rirr, cs_rrii, cs_rrir, cs_rrri, cs_rrrr, g2, z0, z1, inb_n, bq4, bq5, n100, not_false_eq_true, isB_0, isB_1, nI_clamp, nI_nneg, Nat.zero_add, Nat.le_refl]; omega)) only [xX12_init_120, xX12_init_121, xX12_init_123, xX12_init_125, cK_some, ofR_some, ofR_none, Option.toList_some, Option.toList_none, List.cons_append, List.nil_append, isL_i, isL_r, isL_u, isL_2, cs_0, cs_i, cs_r, cs_l, cs_ii, cs_ir, cs_ri, cs_rr, cs_iir, cs_irr, cs_iii, cs_iri, cs_rii, cs_rir, cs_rri, cs_rrr, cs_iiii, cs_iiir, cs_iiri, cs_iirr, cs_irii, cs_irir, cs_irri, cs_irrr, cs_riii, cs_riir, cs_riri, cs_rirr, cs_rrii, cs_rrir, cs_rrri, cs_rrrr, g1, z2, Nat.add_sub_cancel, Nat.add_zero, Nat.zero_add, nI_lt, nI_nlt, nI_le, nI_ge, nI_pos, pk_sub, nI_clamp, s2_ne, s2_o, s2_s, nI_add, inb_n, nI_nn, zq0, zq1, ↓reduceIte]
  have a16 := a15.step
  have e15 : tgS 15 = (0, 6) := rfl
  rw [e15] at a16
  generalize hH16 : gSetR (gNew H15 (0, 6)) R (12 + 15) (some (R + 1 + 15)) = H16 at a16
  have hK16 : gSetR (gNew H15 (0, 6)) R 27 (some (R + 1 + 15)) = H16 := hH16
  rw [hK16] at s15
  generalize iNew J15 (R + 1 + 15) = J16 at *
  have s16 : ex d mX12_init 128 [.val (.ref R)] [] H16 J16 = ex d mX12_init 136 [.val (.ref R)] [] (gSetR (gNew H16 (3, 9)) R 28 (some (R + 1 + 16))) (iNew J16 (R + 1 + 16)) := by
    have g1 := a16.1
    have g2 : gT (gNew H16 (3, 9)) R = (22, 31) := by rw [gT_N, s1_o (by omega)]; exact a16.2.2.1
    have z0 : ¬ nI 9 < 0 := by decide
    have z1 : (nI 9).toNatClampNeg ≤ 100000 := by decide
    have z2 : (nI 9).toNatClampNeg = 9 := by decide
    simp (disch := first | assumption | (simp (disch := omega) only [cK_some, ofR_some, ofR_none, Option.toList_some, Option.toList_none, List.cons_append, List.nil_append, isL_i, isL_r, isL_u, isL_2, cs_0, cs_i, cs_r, cs_l, cs_ii, cs_ir, cs_ri, cs_rr, cs_iir, cs_irr, cs_iii, cs_iri, cs_rii, cs_rir, cs_rri, cs_rrr, cs_iiii, cs_iiir, cs_iiri, cs_iirr, cs_irii, cs_irir, cs_irri, cs_irrr, cs_riii, cs_riir, cs_riri, cs_rirr, cs_rrii, cs_rrir, cs_rrri, cs_rrrr, g2, z0, z1, inb_n, bq4, bq5, n100, not_false_eq_true, isB_0, isB_1, nI_clamp, nI_nneg, Nat.zero_add, Nat.le_refl]; done) | omega | (simp (disch := omega) only [cK_some, ofR_some, ofR_none, Option.toList_some, Option.toList_none, List.cons_append, List.nil_append, isL_i, isL_r, isL_u, isL_2, cs_0, cs_i, cs_r, cs_l, cs_ii, cs_ir, cs_ri, cs_rr, cs_iir, cs_irr, cs_iii, cs_iri, cs_rii, cs_rir, cs_rri, cs_rrr, cs_iiii, cs_iiir, cs_iiri, cs_iirr, cs_irii, cs_irir, cs_irri, cs_irrr, cs_riii, cs_riir, cs_riri, cs_rirr, cs_rrii, cs_rrir, cs_rrri, cs_rrrr, g2, z0, z1, inb_n, bq4, bq5, n100, not_false_eq_true, isB_0, isB_1, nI_clamp, nI_nneg, Nat.zero_add, Nat.le_refl]; omega)) only [xX12_init_128, xX12_init_129, xX12_init_131, xX12_init_133, cK_some, ofR_some, ofR_none, Option.toList_some, Option.toList_none, List.cons_append, List.nil_append, isL_i, isL_r, isL_u, isL_2, cs_0, cs_i, cs_r, cs_l, cs_ii, cs_ir, cs_ri, cs_rr, cs_iir, cs_irr, cs_iii, cs_iri, cs_rii, cs_rir, cs_rri, cs_rrr, cs_iiii, cs_iiir, cs_iiri, cs_iirr, cs_irii, cs_irir, cs_irri, cs_irrr, cs_riii, cs_riir, cs_riri, cs_rirr, cs_rrii, cs_rrir, cs_rrri, cs_rrrr, g1, z2, Nat.add_sub_cancel, Nat.add_zero, Nat.zero_add, nI_lt, nI_nlt, nI_le, nI_ge, nI_pos, pk_sub, nI_clamp, s2_ne, s2_o, s2_s, nI_add, inb_n, nI_nn, zq0, zq1, ↓reduceIte]
  have a17 := a16.step
  have e16 : tgS 16 = (3, 9) := rfl
  rw [e16] at a17
  generalize hH17 : gSetR (gNew H16 (3, 9)) R (12 + 16) (some (R + 1 + 16)) = H17 at a17
  have hK17 : gSetR (gNew H16 (3, 9)) R 28 (some (R + 1 + 16)) = H17 := hH17
  rw [hK17] at s16
  generalize iNew J16 (R + 1 + 16) = J17 at *
  have s17 : ex d mX12_init 136 [.val (.ref R)] [] H17 J17 = ex d mX12_init 144 [.val (.ref R)] [] (gSetR (gNew H17 (2, 9)) R 29 (some (R + 1 + 17))) (iNew J17 (R + 1 + 17)) := by
    have g1 := a17.1
    have g2 : gT (gNew H17 (2, 9)) R = (22, 31) := by rw [gT_N, s1_o (by omega)]; exact a17.2.2.1
    have z0 : ¬ nI 9 < 0 := by decide
    have z1 : (nI 9).toNatClampNeg ≤ 100000 := by decide
    have z2 : (nI 9).toNatClampNeg = 9 := by decide
    simp (disch := first | assumption | (simp (disch := omega) only [cK_some, ofR_some, ofR_none, Option.toList_some, Option.toList_none, List.cons_append, List.nil_append, isL_i, isL_r, isL_u, isL_2, cs_0, cs_i, cs_r, cs_l, cs_ii, cs_ir, cs_ri, cs_rr, cs_iir, cs_irr, cs_iii, cs_iri, cs_rii, cs_rir, cs_rri, cs_rrr, cs_iiii, cs_iiir, cs_iiri, cs_iirr, cs_irii, cs_irir, cs_irri, cs_irrr, cs_riii, cs_riir, cs_riri, cs_rirr, cs_rrii, cs_rrir, cs_rrri, cs_rrrr, g2, z0, z1, inb_n, bq4, bq5, n100, not_false_eq_true, isB_0, isB_1, nI_clamp, nI_nneg, Nat.zero_add, Nat.le_refl]; done) | omega | (simp (disch := omega) only [cK_some, ofR_some, ofR_none, Option.toList_some, Option.toList_none, List.cons_append, List.nil_append, isL_i, isL_r, isL_u, isL_2, cs_0, cs_i, cs_r, cs_l, cs_ii, cs_ir, cs_ri, cs_rr, cs_iir, cs_irr, cs_iii, cs_iri, cs_rii, cs_rir, cs_rri, cs_rrr, cs_iiii, cs_iiir, cs_iiri, cs_iirr, cs_irii, cs_irir, cs_irri, cs_irrr, cs_riii, cs_riir, cs_riri, cs_rirr, cs_rrii, cs_rrir, cs_rrri, cs_rrrr, g2, z0, z1, inb_n, bq4, bq5, n100, not_false_eq_true, isB_0, isB_1, nI_clamp, nI_nneg, Nat.zero_add, Nat.le_refl]; omega)) only [xX12_init_136, xX12_init_137, xX12_init_139, xX12_init_141, cK_some, ofR_some, ofR_none, Option.toList_some, Option.toList_none, List.cons_append, List.nil_append, isL_i, isL_r, isL_u, isL_2, cs_0, cs_i, cs_r, cs_l, cs_ii, cs_ir, cs_ri, cs_rr, cs_iir, cs_irr, cs_iii, cs_iri, cs_rii, cs_rir, cs_rri, cs_rrr, cs_iiii, cs_iiir, cs_iiri, cs_iirr, cs_irii, cs_irir, cs_irri, cs_irrr, cs_riii, cs_riir, cs_riri, cs_rirr, cs_rrii, cs_rrir, cs_rrri, cs_rrrr, g1, z2, Nat.add_sub_cancel, Nat.add_zero, Nat.zero_add, nI_lt, nI_nlt, nI_le, nI_ge, nI_pos, pk_sub, nI_clamp, s2_ne, s2_o, s2_s, nI_add, inb_n, nI_nn, zq0, zq1, ↓reduceIte]
  have a18 := a17.step
  have e17 : tgS 17 = (2, 9) := rfl
  rw [e17] at a18
  generalize hH18 : gSetR (gNew H17 (2, 9)) R (12 + 17) (some (R + 1 + 17)) = H18 at a18
  have hK18 : gSetR (gNew H17 (2, 9)) R 29 (some (R + 1 + 17)) = H18 := hH18
  rw [hK18] at s17
  generalize iNew J17 (R + 1 + 17) = J18 at *
  have s18 : ex d mX12_init 144 [.val (.ref R)] [] H18 J18 = ex d mX12_init 152 [.val (.ref R)] [] (gSetR (gNew H18 (0, 9)) R 30 (some (R + 1 + 18))) (iNew J18 (R + 1 + 18)) := by
    have g1 := a18.1
    have g2 : gT (gNew H18 (0, 9)) R = (22, 31) := by rw [gT_N, s1_o (by omega)]; exact a18.2.2.1
    have z0 : ¬ nI 9 < 0 := by decide
    have z1 : (nI 9).toNatClampNeg ≤ 100000 := by decide
    have z2 : (nI 9).toNatClampNeg = 9 := by decide
    simp (disch := first | assumption | (simp (disch := omega) only [cK_some, ofR_some, ofR_none, Option.toList_some, Option.toList_none, List.cons_append, List.nil_append, isL_i, isL_r, isL_u, isL_2, cs_0, cs_i, cs_r, cs_l, cs_ii, cs_ir, cs_ri, cs_rr, cs_iir, cs_irr, cs_iii, cs_iri, cs_rii, cs_rir, cs_rri, cs_rrr, cs_iiii, cs_iiir, cs_iiri, cs_iirr, cs_irii, cs_irir, cs_irri, cs_irrr, cs_riii, cs_riir, cs_riri, cs_rirr, cs_rrii, cs_rrir, cs_rrri, cs_rrrr, g2, z0, z1, inb_n, bq4, bq5, n100, not_false_eq_true, isB_0, isB_1, nI_clamp, nI_nneg, Nat.zero_add, Nat.le_refl]; done) | omega | (simp (disch := omega) only [cK_some, ofR_some, ofR_none, Option.toList_some, Option.toList_none, List.cons_append, List.nil_append, isL_i, isL_r, isL_u, isL_2, cs_0, cs_i, cs_r, cs_l, cs_ii, cs_ir, cs_ri, cs_rr, cs_iir, cs_irr, cs_iii, cs_iri, cs_rii, cs_rir, cs_rri, cs_rrr, cs_iiii, cs_iiir, cs_iiri, cs_iirr, cs_irii, cs_irir, cs_irri, cs_irrr, cs_riii, cs_riir, cs_riri, cs_rirr, cs_rrii, cs_rrir, cs_rrri, cs_rrrr, g2, z0, z1, inb_n, bq4, bq5, n100, not_false_eq_true, isB_0, isB_1, nI_clamp, nI_nneg, Nat.zero_add, Nat.le_refl]; omega)) only [xX12_init_144, xX12_init_145, xX12_init_147, xX12_init_149, cK_some, ofR_some, ofR_none, Option.toList_some, Option.toList_none, List.cons_append, List.nil_append, isL_i, isL_r, isL_u, isL_2, cs_0, cs_i, cs_r, cs_l, cs_ii, cs_ir, cs_ri, cs_rr, cs_iir, cs_irr, cs_iii, cs_iri, cs_rii, cs_rir, cs_rri, cs_rrr, cs_iiii, cs_iiir, cs_iiri, cs_iirr, cs_irii, cs_irir, cs_irri, cs_irrr, cs_riii, cs_riir, cs_riri, cs_rirr, cs_rrii, cs_rrir, cs_rrri, cs_rrrr, g1, z2, Nat.add_sub_cancel, Nat.add_zero, Nat.zero_add, nI_lt, nI_nlt, nI_le, nI_ge, nI_pos, pk_sub, nI_clamp, s2_ne, s2_o, s2_s, nI_add, inb_n, nI_nn, zq0, zq1, ↓reduceIte]
  have a19 := a18.step
  have e18 : tgS 18 = (0, 9) := rfl
  rw [e18] at a19
  generalize hH19 : gSetR (gNew H18 (0, 9)) R (12 + 18) (some (R + 1 + 18)) = H19 at a19
  have hK19 : gSetR (gNew H18 (0, 9)) R 30 (some (R + 1 + 18)) = H19 := hH19
  rw [hK19] at s18
  generalize iNew J18 (R + 1 + 18) = J19 at *
  refine ⟨H19, J19, ?_, a19⟩
  simp (disch := first | assumption | (simp (disch := omega) only [cK_some, ofR_some, ofR_none, Option.toList_some, Option.toList_none, List.cons_append, List.nil_append, isL_i, isL_r, isL_u, isL_2, cs_0, cs_i, cs_r, cs_l, cs_ii, cs_ir, cs_ri, cs_rr, cs_iir, cs_irr, cs_iii, cs_iri, cs_rii, cs_rir, cs_rri, cs_rrr, cs_iiii, cs_iiir, cs_iiri, cs_iirr, cs_irii, cs_irir, cs_irri, cs_irrr, cs_riii, cs_riir, cs_riri, cs_rirr, cs_rrii, cs_rrir, cs_rrri, cs_rrrr, inb_n, bq4, bq5, n100, not_false_eq_true, isB_0, isB_1, nI_clamp, nI_nneg, Nat.zero_add, Nat.le_refl]; done) | omega | (simp (disch := omega) only [cK_some, ofR_some, ofR_none, Option.toList_some, Option.toList_none, List.cons_append, List.nil_append, isL_i, isL_r, isL_u, isL_2, cs_0, cs_i, cs_r, cs_l, cs_ii, cs_ir, cs_ri, cs_rr, cs_iir, cs_irr, cs_iii, cs_iri, cs_rii, cs_rir, cs_rri, cs_rrr, cs_iiii, cs_iiir, cs_iiri, cs_iirr, cs_irii, cs_irir, cs_irri, cs_irrr, cs_riii, cs_riir, cs_riri, cs_rirr, cs_rrii, cs_rrir, cs_rrri, cs_rrrr, inb_n, bq4, bq5, n100, not_false_eq_true, isB_0, isB_1, nI_clamp, nI_nneg, Nat.zero_add, Nat.le_refl]; omega)) only [xX12_init_0, xX12_init_1, cK_some, ofR_some, ofR_none, Option.toList_some, Option.toList_none, List.cons_append, List.nil_append, isL_i, isL_r, isL_u, isL_2, cs_0, cs_i, cs_r, cs_l, cs_ii, cs_ir, cs_ri, cs_rr, cs_iir, cs_irr, cs_iii, cs_iri, cs_rii, cs_rir, cs_rri, cs_rrr, cs_iiii, cs_iiir, cs_iiri, cs_iirr, cs_irii, cs_irir, cs_irri, cs_irrr, cs_riii, cs_riir, cs_riri, cs_rirr, cs_rrii, cs_rrir, cs_rrri, cs_rrrr, rX12_init, Nat.add_sub_cancel, Nat.add_zero, Nat.zero_add, nI_lt, nI_nlt, nI_le, nI_ge, nI_pos, pk_sub, nI_clamp, s2_ne, s2_o, s2_s, nI_add, inb_n, nI_nn, zq0, zq1, ↓reduceIte]
  rw [s0, s1, s2, s3, s4, s5, s6, s7, s8, s9, s10, s11, s12, s13, s14, s15, s16, s17, s18]
  simp (disch := first | assumption | (simp (disch := omega) only [cK_some, ofR_some, ofR_none, Option.toList_some, Option.toList_none, List.cons_append, List.nil_append, isL_i, isL_r, isL_u, isL_2, cs_0, cs_i, cs_r, cs_l, cs_ii, cs_ir, cs_ri, cs_rr, cs_iir, cs_irr, cs_iii, cs_iri, cs_rii, cs_rir, cs_rri, cs_rrr, cs_iiii, cs_iiir, cs_iiri, cs_iirr, cs_irii, cs_irir, cs_irri, cs_irrr, cs_riii, cs_riir, cs_riri, cs_rirr, cs_rrii, cs_rrir, cs_rrri, cs_rrrr, inb_n, bq4, bq5, n100, not_false_eq_true, isB_0, isB_1, nI_clamp, nI_nneg, Nat.zero_add, Nat.le_refl]; done) | omega | (simp (disch := omega) only [cK_some, ofR_some, ofR_none, Option.toList_some, Option.toList_none, List.cons_append, List.nil_append, isL_i, isL_r, isL_u, isL_2, cs_0, cs_i, cs_r, cs_l, cs_ii, cs_ir, cs_ri, cs_rr, cs_iir, cs_irr, cs_iii, cs_iri, cs_rii, cs_rir, cs_rri, cs_rrr, cs_iiii, cs_iiir, cs_iiri, cs_iirr, cs_irii, cs_irir, cs_irri, cs_irrr, cs_riii, cs_riir, cs_riri, cs_rirr, cs_rrii, cs_rrir, cs_rrri, cs_rrrr, inb_n, bq4, bq5, n100, not_false_eq_true, isB_0, isB_1, nI_clamp, nI_nneg, Nat.zero_add, Nat.le_refl]; omega)) only [xX12_init_152, cK_some, ofR_some, ofR_none, Option.toList_some, Option.toList_none, List.cons_append, List.nil_append, isL_i, isL_r, isL_u, isL_2, cs_0, cs_i, cs_r, cs_l, cs_ii, cs_ir, cs_ri, cs_rr, cs_iir, cs_irr, cs_iii, cs_iri, cs_rii, cs_rir, cs_rri, cs_rrr, cs_iiii, cs_iiir, cs_iiri, cs_iirr, cs_irii, cs_irir, cs_irri, cs_irrr, cs_riii, cs_riir, cs_riri, cs_rirr, cs_rrii, cs_rrir, cs_rrri, cs_rrrr, Nat.add_sub_cancel, Nat.add_zero, Nat.zero_add, nI_lt, nI_nlt, nI_le, nI_ge, nI_pos, pk_sub, nI_clamp, s2_ne, s2_o, s2_s, nI_add, inb_n, nI_nn, zq0, zq1, ↓reduceIte]
theorem AlI.ms {G0 G : Gm} {I0 I : Im} {R : Nat} (h : AlI G0 I0 R 19 G I) : Ms G R := by
  obtain ⟨h1, h2, h3, h4, h5, h6⟩ := h
  exact ⟨h3, (h4 0 (by decide)).1, (h4 1 (by decide)).1, (h4 2 (by decide)).1, (h4 3 (by decide)).1, (h4 4 (by decide)).1, (h4 5 (by decide)).1, (h4 6 (by decide)).1, (h4 7 (by decide)).1, (h4 8 (by decide)).1, (h4 9 (by decide)).1, (h4 10 (by decide)).1, (h4 11 (by decide)).1, (h4 12 (by decide)).1, (h4 13 (by decide)).1, (h4 14 (by decide)).1, (h4 15 (by decide)).1, (h4 16 (by decide)).1, (h4 17 (by decide)).1, (h4 18 (by decide)).1, (h4 0 (by decide)).2, (h4 1 (by decide)).2, (h4 2 (by decide)).2, (h4 3 (by decide)).2, (h4 4 (by decide)).2, (h4 5 (by decide)).2, (h4 6 (by decide)).2, (h4 7 (by decide)).2, (h4 8 (by decide)).2, (h4 9 (by decide)).2, (h4 10 (by decide)).2, (h4 11 (by decide)).2, (h4 12 (by decide)).2, (h4 13 (by decide)).2, (h4 14 (by decide)).2, (h4 15 (by decide)).2, (h4 16 (by decide)).2, (h4 17 (by decide)).2, (h4 18 (by decide)).2⟩
