/-! calls that only ask -/
/-- a call of both, with the same answer -/
def Call (D x k : Nat) (G : Gm) (I : Im) (mc mm : MD) (as : List Value) : Prop := ∃ (z : Int32) (G1 : Gm) (I1 : Im) (G2 : Gm) (I2 : Im), gT G1 (x + 339) = (23, 32) ∧ run D mc (.ref x :: as) G I = some (some (.int z), G1, I1) ∧ run D mm (.ref (x + 339) :: as) G1 I1 = some (some (.int z), G2, I2) ∧ Wd G2 I2 x (k + 1)
theorem MoW.f {G : Gm} {I : Im} {m j : Nat} {z : Int32} {o : Option Gh} (h : MoW G I m o) (hj : j ≠ 19) (hj2 : j ≠ 20) : MoW G (s2 I m j z) m o := h.m (fun c h1 _ _ => s2_ne (by omega)) (fun j _ => by rw [s2_ne (by omega)]) (fun i hi => s2_o (by omega))
theorem Wd.simple {D x k : Nat} {G : Gm} {I : Im} {mc mm : MD} {as : List Value} (W : Wd G I x k)
    (h : ∀ s u o, Tp G x s u → ClW G I x s o → MoB G (x + 339) → ∃ z tr, tr ≠ nI 4 ∧ run D mc (.ref x :: as) G I = some (some (.int z), G, s2 I x 11 tr) ∧ ∀ J, MoW G J (x + 339) o → run D mm (.ref (x + 339) :: as) G J = some (some (.int z), G, s2 (s2 (s2 J (x + 339) 0 (nI 0)) (x + 339) 1 tr) (x + 339) 2 (-1))) : Call D x k G I mc mm as := by
  obtain ⟨s, u, n, B, o, hT, hB, hN, hV, hV2, hTr, hC, hM, hk⟩ := W
  obtain ⟨z, tr, h4, h1, h2⟩ := h s u o hT hC hB
  have hM1 : MoW G (s2 I x 11 tr) (x + 339) o := hM.m (fun c a _ _ => s2_ne (by omega)) (fun j _ => by rw [s2_ne (by omega)]) (fun j _ => by rw [s2_ne (by omega)])
  refine ⟨z, G, s2 I x 11 tr, G, s2 (s2 (s2 (s2 I x 11 tr) (x + 339) 0 (nI 0)) (x + 339) 1 tr) (x + 339) 2 (-1), hB.1, h1, h2 _ hM1, ?_⟩
  exact Wd.ask (I := I) (I1 := s2 I x 11 tr) (tr := tr) hT hB hN hV hV2 hTr (hC.x hT (fun c a _ _ _ => s2_ne a)) hM hk (fun c a _ _ => s2_ne a) (fun j a => s2_o a) s2_s h4
    (fun c a _ _ => by rw [s2_ne a, s2_ne a, s2_ne a]) (fun j _ => by rw [s2_ne (by omega), s2_ne (by omega), s2_ne (by omega)]) (fun j a b c _ _ _ _ => by rw [s2_o c, s2_o b, s2_o a]) (by rw [s2_o (by decide), s2_s]) s2_s
theorem ClW.ct {G : Gm} {I : Im} {x s : Nat} {g : Gh} (h : ClW G I x s (some g)) : CT G I (x + 171) s (gH g) (gQ g) := h.2.1
theorem MoW.mt {G : Gm} {I : Im} {m : Nat} {g : Gh} (h : MoW G I m (some g)) : ∃ S, gR G m 3 = some S ∧ MT G I m S 0 (gH g) (gQ g) := by
  obtain ⟨S, a1, a2, a3, b0, b1, -⟩ := h
  exact ⟨S, a1, b1⟩
theorem n14 : (nI 1 : Int32) ≠ nI 4 := by decide
theorem n04 : (nI 0 : Int32) ≠ nI 4 := by decide
theorem gH_B {g : Gh} : hN (gH g) = nB (some g) ∧ hT (gH g) = nT (some g) ∧ hP (gH g) = nP (some g) := ⟨rfl, rfl, rfl⟩
theorem w_patch {d x k : Nat} {z1 : Int32} {G : Gm} {I : Im} (W : Wd G I x k) : Call (d + 12) x k G I mX11_patch mX13_patch [.int z1] := W.simple (fun s u o hT hC hB => by
  have t0 := hT.1.1
  have t3 := hT.1.2.2.2.1
  have l1 := hB.1
  have hg := c_noPatch (d := d + 11) (z := z1) hT hC
  obtain ⟨⟨b1, b2, b3, b4, b5⟩, -⟩ := hC.cnt
  by_cases c : inN z1 (nP o) = true
  · obtain ⟨p, hp, rfl⟩ := inN_ok (by omega) c
    rw [c] at hg
    cases o with
    | none => exact absurd hp (Nat.not_lt_zero p)
    | some g =>
      have K := hC.ct
      obtain ⟨ha, hs, hd, hv, ho, hq, hqo⟩ := K
      obtain ⟨a1, -, -, a4, -, -, a7⟩ := ha
      have ev := hq.2.1 p hp
      have hans := c_answer (d := d + 11) (z := nI (qP (gQ g) p)) (G := G) (I := I) t0
      refine ⟨nI (qP (gQ g) p), nI 0, n04, ?_, fun J hM => ?_⟩
      · have := True.intro
        simp (disch := first | assumption | (simp (disch := omega) only [cK_some, ofR_some, ofR_none, Option.toList_some, Option.toList_none, List.cons_append, List.nil_append, isL_i, isL_r, isL_u, isL_2, cs_0, cs_i, cs_r, cs_l, cs_ii, cs_ir, cs_ri, cs_rr, cs_iir, cs_irr, cs_iii, cs_iri, cs_rii, cs_rir, cs_rri, cs_rrr, cs_iiii, cs_iiir, cs_iiri, cs_iirr, cs_irii, cs_irir, cs_irri, cs_irrr, cs_riii, cs_riir, cs_riri, cs_rirr, cs_rrii, cs_rrir, cs_rrri, cs_rrrr, t0, a1, a7, inb_n, bq4, bq5, n100, not_false_eq_true, isB_0, isB_1, nI_clamp, nI_nneg, Nat.zero_add, Nat.le_refl]; done) | omega | (simp (disch := omega) only [cK_some, ofR_some, ofR_none, Option.toList_some, Option.toList_none, List.cons_append, List.nil_append, isL_i, isL_r, isL_u, isL_2, cs_0, cs_i, cs_r, cs_l, cs_ii, cs_ir, cs_ri, cs_rr, cs_iir, cs_irr, cs_iii, cs_iri, cs_rii, cs_rir, cs_rri, cs_rrr, cs_iiii, cs_iiir, cs_iiri, cs_iirr, cs_irii, cs_irir, cs_irri, cs_irrr, cs_riii, cs_riir, cs_riri, cs_rirr, cs_rrii, cs_rrir, cs_rrri, cs_rrrr, t0, a1, a7, inb_n, bq4, bq5, n100, not_false_eq_true, isB_0, isB_1, nI_clamp, nI_nneg, Nat.zero_add, Nat.le_refl]; omega)) only [xX11_patch_0, xX11_patch_1, xX11_patch_2, xX11_patch_5, xX11_patch_8, xX11_patch_9, xX11_patch_10, xX11_patch_13, xX11_patch_16, xX11_patch_17, xX11_patch_18, xX11_patch_21, xX11_patch_24, xX11_patch_25, xX11_patch_26, xX11_patch_29, cK_some, ofR_some, ofR_none, Option.toList_some, Option.toList_none, List.cons_append, List.nil_append, isL_i, isL_r, isL_u, isL_2, cs_0, cs_i, cs_r, cs_l, cs_ii, cs_ir, cs_ri, cs_rr, cs_iir, cs_irr, cs_iii, cs_iri, cs_rii, cs_rir, cs_rri, cs_rrr, cs_iiii, cs_iiir, cs_iiri, cs_iirr, cs_irii, cs_irir, cs_irri, cs_irrr, cs_riii, cs_riir, cs_riri, cs_rirr, cs_rrii, cs_rrir, cs_rrri, cs_rrrr, rX11_patch, hg, Bool.not_true, bI_0, t3, a4, ev, hans, Nat.add_sub_cancel, Nat.add_zero, Nat.zero_add, nI_lt, nI_nlt, nI_le, nI_ge, nI_pos, pk_sub, nI_clamp, s2_ne, s2_o, s2_s, nI_add, inb_n, nI_nn, zq0, zq1, ↓reduceIte]
      · have hM0 := hM.f (j := 0) (z := nI 0) (by decide) (by decide)
        have hg2 := m_isPatch (d := d + 11) (z := nI p) hB hM0
        rw [c] at hg2
        obtain ⟨S, q1, q2⟩ := hM0.mt
        have ev2 := q2.2.2.2.2.2.1.2.1 p hp
        rw [Nat.zero_add] at ev2
        have l16 := hB.2.2.1
        have lT : gT G (x + 339 + 2) = (0, 189) := hB.2.2.2.2.2.2.2.2.2.2.2.2.2.1
        have hgo := m_good (d := d + 11) (z := nI (qP (gQ g) p)) (G := G) (I := s2 J (x + 339) 0 (nI 0)) l1
        have hp6 : p < 6 := by omega
        have := True.intro
        simp (disch := first | assumption | (simp (disch := omega) only [cK_some, ofR_some, ofR_none, Option.toList_some, Option.toList_none, List.cons_append, List.nil_append, isL_i, isL_r, isL_u, isL_2, cs_0, cs_i, cs_r, cs_l, cs_ii, cs_ir, cs_ri, cs_rr, cs_iir, cs_irr, cs_iii, cs_iri, cs_rii, cs_rir, cs_rri, cs_rrr, cs_iiii, cs_iiir, cs_iiri, cs_iirr, cs_irii, cs_irir, cs_irri, cs_irrr, cs_riii, cs_riir, cs_riri, cs_rirr, cs_rrii, cs_rrir, cs_rrri, cs_rrrr, l1, lT, inb_n, bq4, bq5, n100, not_false_eq_true, isB_0, isB_1, nI_clamp, nI_nneg, Nat.zero_add, Nat.le_refl]; done) | omega | (simp (disch := omega) only [cK_some, ofR_some, ofR_none, Option.toList_some, Option.toList_none, List.cons_append, List.nil_append, isL_i, isL_r, isL_u, isL_2, cs_0, cs_i, cs_r, cs_l, cs_ii, cs_ir, cs_ri, cs_rr, cs_iir, cs_irr, cs_iii, cs_iri, cs_rii, cs_rir, cs_rri, cs_rrr, cs_iiii, cs_iiir, cs_iiri, cs_iirr, cs_irii, cs_irir, cs_irri, cs_irrr, cs_riii, cs_riir, cs_riri, cs_rirr, cs_rrii, cs_rrir, cs_rrri, cs_rrrr, l1, lT, inb_n, bq4, bq5, n100, not_false_eq_true, isB_0, isB_1, nI_clamp, nI_nneg, Nat.zero_add, Nat.le_refl]; omega)) only [xX13_patch_0, xX13_patch_1, xX13_patch_2, xX13_patch_5, xX13_patch_6, xX13_patch_7, xX13_patch_10, xX13_patch_13, xX13_patch_14, xX13_patch_15, xX13_patch_18, xX13_patch_20, xX13_patch_21, xX13_patch_22, xX13_patch_23, xX13_patch_26, xX13_patch_29, xX13_patch_30, xX13_patch_31, xX13_patch_34, cK_some, ofR_some, ofR_none, Option.toList_some, Option.toList_none, List.cons_append, List.nil_append, isL_i, isL_r, isL_u, isL_2, cs_0, cs_i, cs_r, cs_l, cs_ii, cs_ir, cs_ri, cs_rr, cs_iir, cs_irr, cs_iii, cs_iri, cs_rii, cs_rir, cs_rri, cs_rrr, cs_iiii, cs_iiir, cs_iiri, cs_iirr, cs_irii, cs_irir, cs_irri, cs_irrr, cs_riii, cs_riir, cs_riri, cs_rirr, cs_rrii, cs_rrir, cs_rrri, cs_rrrr, rX13_patch, hg2, bI_1, l16, ev2, nI_add, hgo, Nat.add_sub_cancel, Nat.add_zero, Nat.zero_add, nI_lt, nI_nlt, nI_le, nI_ge, nI_pos, pk_sub, nI_clamp, s2_ne, s2_o, s2_s, nI_add, inb_n, nI_nn, zq0, zq1, ↓reduceIte]
  · rw [Bool.not_eq_true] at c
    rw [c] at hg
    have hrf := c_refuse (d := d + 11) (z := nI 1) (G := G) (I := I) t0
    refine ⟨-1, nI 1, n14, ?_, fun J hM => ?_⟩
    · have := True.intro
      simp (disch := first | assumption | (simp (disch := omega) only [cK_some, ofR_some, ofR_none, Option.toList_some, Option.toList_none, List.cons_append, List.nil_append, isL_i, isL_r, isL_u, isL_2, cs_0, cs_i, cs_r, cs_l, cs_ii, cs_ir, cs_ri, cs_rr, cs_iir, cs_irr, cs_iii, cs_iri, cs_rii, cs_rir, cs_rri, cs_rrr, cs_iiii, cs_iiir, cs_iiri, cs_iirr, cs_irii, cs_irir, cs_irri, cs_irrr, cs_riii, cs_riir, cs_riri, cs_rirr, cs_rrii, cs_rrir, cs_rrri, cs_rrrr, t0, inb_n, bq4, bq5, n100, not_false_eq_true, isB_0, isB_1, nI_clamp, nI_nneg, Nat.zero_add, Nat.le_refl]; done) | omega | (simp (disch := omega) only [cK_some, ofR_some, ofR_none, Option.toList_some, Option.toList_none, List.cons_append, List.nil_append, isL_i, isL_r, isL_u, isL_2, cs_0, cs_i, cs_r, cs_l, cs_ii, cs_ir, cs_ri, cs_rr, cs_iir, cs_irr, cs_iii, cs_iri, cs_rii, cs_rir, cs_rri, cs_rrr, cs_iiii, cs_iiir, cs_iiri, cs_iirr, cs_irii, cs_irir, cs_irri, cs_irrr, cs_riii, cs_riir, cs_riri, cs_rirr, cs_rrii, cs_rrir, cs_rrri, cs_rrrr, t0, inb_n, bq4, bq5, n100, not_false_eq_true, isB_0, isB_1, nI_clamp, nI_nneg, Nat.zero_add, Nat.le_refl]; omega)) only [xX11_patch_0, xX11_patch_1, xX11_patch_2, xX11_patch_5, xX11_patch_8, xX11_patch_9, xX11_patch_10, xX11_patch_13, xX11_patch_16, xX11_patch_17, xX11_patch_18, xX11_patch_21, xX11_patch_24, xX11_patch_25, xX11_patch_26, xX11_patch_29, cK_some, ofR_some, ofR_none, Option.toList_some, Option.toList_none, List.cons_append, List.nil_append, isL_i, isL_r, isL_u, isL_2, cs_0, cs_i, cs_r, cs_l, cs_ii, cs_ir, cs_ri, cs_rr, cs_iir, cs_irr, cs_iii, cs_iri, cs_rii, cs_rir, cs_rri, cs_rrr, cs_iiii, cs_iiir, cs_iiri, cs_iirr, cs_irii, cs_irir, cs_irri, cs_irrr, cs_riii, cs_riir, cs_riri, cs_rirr, cs_rrii, cs_rrir, cs_rrri, cs_rrrr, rX11_patch, hg, Bool.not_false, bI_1, hrf, Nat.add_sub_cancel, Nat.add_zero, Nat.zero_add, nI_lt, nI_nlt, nI_le, nI_ge, nI_pos, pk_sub, nI_clamp, s2_ne, s2_o, s2_s, nI_add, inb_n, nI_nn, zq0, zq1, ↓reduceIte]
    · have hM0 := hM.f (j := 0) (z := nI 0) (by decide) (by decide)
      have hg2 := m_isPatch (d := d + 11) (z := z1) hB hM0
      rw [c] at hg2
      have hrm := m_refused (d := d + 11) (z := nI 1) (G := G) (I := s2 J (x + 339) 0 (nI 0)) l1
      have := True.intro
      simp (disch := first | assumption | (simp (disch := omega) only [cK_some, ofR_some, ofR_none, Option.toList_some, Option.toList_none, List.cons_append, List.nil_append, isL_i, isL_r, isL_u, isL_2, cs_0, cs_i, cs_r, cs_l, cs_ii, cs_ir, cs_ri, cs_rr, cs_iir, cs_irr, cs_iii, cs_iri, cs_rii, cs_rir, cs_rri, cs_rrr, cs_iiii, cs_iiir, cs_iiri, cs_iirr, cs_irii, cs_irir, cs_irri, cs_irrr, cs_riii, cs_riir, cs_riri, cs_rirr, cs_rrii, cs_rrir, cs_rrri, cs_rrrr, l1, inb_n, bq4, bq5, n100, not_false_eq_true, isB_0, isB_1, nI_clamp, nI_nneg, Nat.zero_add, Nat.le_refl]; done) | omega | (simp (disch := omega) only [cK_some, ofR_some, ofR_none, Option.toList_some, Option.toList_none, List.cons_append, List.nil_append, isL_i, isL_r, isL_u, isL_2, cs_0, cs_i, cs_r, cs_l, cs_ii, cs_ir, cs_ri, cs_rr, cs_iir, cs_irr, cs_iii, cs_iri, cs_rii, cs_rir, cs_rri, cs_rrr, cs_iiii, cs_iiir, cs_iiri, cs_iirr, cs_irii, cs_irir, cs_irri, cs_irrr, cs_riii, cs_riir, cs_riri, cs_rirr, cs_rrii, cs_rrir, cs_rrri, cs_rrrr, l1, inb_n, bq4, bq5, n100, not_false_eq_true, isB_0, isB_1, nI_clamp, nI_nneg, Nat.zero_add, Nat.le_refl]; omega)) only [xX13_patch_0, xX13_patch_1, xX13_patch_2, xX13_patch_5, xX13_patch_6, xX13_patch_7, xX13_patch_10, xX13_patch_13, xX13_patch_14, xX13_patch_15, xX13_patch_18, xX13_patch_20, xX13_patch_21, xX13_patch_22, xX13_patch_23, xX13_patch_26, xX13_patch_29, xX13_patch_30, xX13_patch_31, xX13_patch_34, cK_some, ofR_some, ofR_none, Option.toList_some, Option.toList_none, List.cons_append, List.nil_append, isL_i, isL_r, isL_u, isL_2, cs_0, cs_i, cs_r, cs_l, cs_ii, cs_ir, cs_ri, cs_rr, cs_iir, cs_irr, cs_iii, cs_iri, cs_rii, cs_rir, cs_rri, cs_rrr, cs_iiii, cs_iiir, cs_iiri, cs_iirr, cs_irii, cs_irir, cs_irri, cs_irrr, cs_riii, cs_riir, cs_riri, cs_rirr, cs_rrii, cs_rrir, cs_rrri, cs_rrrr, rX13_patch, hg2, bI_0, hrm, Nat.add_sub_cancel, Nat.add_zero, Nat.zero_add, nI_lt, nI_nlt, nI_le, nI_ge, nI_pos, pk_sub, nI_clamp, s2_ne, s2_o, s2_s, nI_add, inb_n, nI_nn, zq0, zq1, ↓reduceIte])
