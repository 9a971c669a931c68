/-! what the class does to a scene -/
theorem ScV.setD {I : Im} {a b x : Nat} {h : Sp} {q : Qp} (hq : ScV I a h q) : ScV (s2 I (a + 1) b (nI x)) a h (up (qD q) b x, qC q, qP q, qS q, qM q, qL q) := by
  refine ⟨fun i hi => ⟨?_, ?_⟩, fun p hp => ?_, ?_, ?_, ?_⟩
  · rw [s2_eq]
    show _ = nI (up (qD q) b x i)
    unfold up
    by_cases e : i = b
    · rw [if_pos e, if_pos e]
    · rw [if_neg e, if_neg e]; exact (hq.1 i hi).1
  · rw [s2_ne (show a + 2 ≠ a + 1 by omega)]; exact (hq.1 i hi).2
  · rw [s2_ne (show a + 3 ≠ a + 1 by omega)]; exact hq.2.1 p hp
  · rw [s2_ne (show a ≠ a + 1 by omega)]; exact hq.2.2.1
  · rw [s2_ne (show a ≠ a + 1 by omega)]; exact hq.2.2.2.1
  · rw [s2_ne (show a ≠ a + 1 by omega)]; exact hq.2.2.2.2
theorem ScV.setC {I : Im} {a b x : Nat} {h : Sp} {q : Qp} (hq : ScV I a h q) : ScV (s2 I (a + 2) b (nI x)) a h (qD q, up (qC q) b x, qP q, qS q, qM q, qL q) := by
  refine ⟨fun i hi => ⟨?_, ?_⟩, fun p hp => ?_, ?_, ?_, ?_⟩
  · rw [s2_ne (show a + 1 ≠ a + 2 by omega)]; exact (hq.1 i hi).1
  · rw [s2_eq]
    show _ = nI (up (qC q) b x i)
    unfold up
    by_cases e : i = b
    · rw [if_pos e, if_pos e]
    · rw [if_neg e, if_neg e]; exact (hq.1 i hi).2
  · rw [s2_ne (show a + 3 ≠ a + 2 by omega)]; exact hq.2.1 p hp
  · rw [s2_ne (show a ≠ a + 2 by omega)]; exact hq.2.2.1
  · rw [s2_ne (show a ≠ a + 2 by omega)]; exact hq.2.2.2.1
  · rw [s2_ne (show a ≠ a + 2 by omega)]; exact hq.2.2.2.2
theorem ScV.setP {I : Im} {a b x : Nat} {h : Sp} {q : Qp} (hq : ScV I a h q) : ScV (s2 I (a + 3) b (nI x)) a h (qD q, qC q, up (qP q) b x, qS q, qM q, qL q) := by
  refine ⟨fun i hi => ⟨?_, ?_⟩, fun p hp => ?_, ?_, ?_, ?_⟩
  · rw [s2_ne (show a + 1 ≠ a + 3 by omega)]; exact (hq.1 i hi).1
  · rw [s2_ne (show a + 2 ≠ a + 3 by omega)]; exact (hq.1 i hi).2
  · rw [s2_eq]
    show _ = nI (up (qP q) b x p)
    unfold up
    by_cases e : p = b
    · rw [if_pos e, if_pos e]
    · rw [if_neg e, if_neg e]; exact hq.2.1 p hp
  · rw [s2_ne (show a ≠ a + 3 by omega)]; exact hq.2.2.1
  · rw [s2_ne (show a ≠ a + 3 by omega)]; exact hq.2.2.2.1
  · rw [s2_ne (show a ≠ a + 3 by omega)]; exact hq.2.2.2.2
theorem ScV.setS {I : Im} {a x : Nat} {h : Sp} {q : Qp} (hq : ScV I a h q) : ScV (s2 I a 3 (nI x)) a h (qD q, qC q, qP q, x, qM q, qL q) := by
  refine ⟨fun i hi => ⟨?_, ?_⟩, fun p hp => ?_, ?_, ?_, ?_⟩
  · rw [s2_ne (show a + 1 ≠ a by omega)]; exact (hq.1 i hi).1
  · rw [s2_ne (show a + 2 ≠ a by omega)]; exact (hq.1 i hi).2
  · rw [s2_ne (show a + 3 ≠ a by omega)]; exact hq.2.1 p hp
  · rw [s2_s]; rfl
  · rw [s2_o (by decide)]; exact hq.2.2.2.1
  · rw [s2_o (by decide)]; exact hq.2.2.2.2
theorem ScV.setM {I : Im} {a x : Nat} {h : Sp} {q : Qp} (hq : ScV I a h q) : ScV (s2 I a 4 (nI x)) a h (qD q, qC q, qP q, qS q, x, qL q) := by
  refine ⟨fun i hi => ⟨?_, ?_⟩, fun p hp => ?_, ?_, ?_, ?_⟩
  · rw [s2_ne (show a + 1 ≠ a by omega)]; exact (hq.1 i hi).1
  · rw [s2_ne (show a + 2 ≠ a by omega)]; exact (hq.1 i hi).2
  · rw [s2_ne (show a + 3 ≠ a by omega)]; exact hq.2.1 p hp
  · rw [s2_o (by decide)]; exact hq.2.2.1
  · rw [s2_s]; rfl
  · rw [s2_o (by decide)]; exact hq.2.2.2.2
theorem ScV.setL {I : Im} {a : Nat} {x : Int32} {h : Sp} {q : Qp} (hq : ScV I a h q) : ScV (s2 I a 5 x) a h (qD q, qC q, qP q, qS q, qM q, x) := by
  refine ⟨fun i hi => ⟨?_, ?_⟩, fun p hp => ?_, ?_, ?_, ?_⟩
  · rw [s2_ne (show a + 1 ≠ a by omega)]; exact (hq.1 i hi).1
  · rw [s2_ne (show a + 2 ≠ a by omega)]; exact (hq.1 i hi).2
  · rw [s2_ne (show a + 3 ≠ a by omega)]; exact hq.2.1 p hp
  · rw [s2_o (by decide)]; exact hq.2.2.1
  · rw [s2_o (by decide)]; exact hq.2.2.2.1
  · rw [s2_s]; rfl
theorem CT.to {G : Gm} {I I' : Im} {a s : Nat} {h : Sp} {q q' : Qp} (K : CT G I a s h q) (hq : ScV I' a h q') (hqo : QpOk h q') (hf : Fr (inSc a) I I') : CT G I' a s h q' :=
  ⟨K.1, K.2.1, K.2.2.1, K.2.2.2.1.sc hf K.2.2.1, K.2.2.2.2.1, hq, hqo⟩
theorem up_s {f : Nat → Nat} {k x : Nat} : up f k x k = x := if_pos rfl
theorem up_o {f : Nat → Nat} {k x j : Nat} (e : j ≠ k) : up f k x j = f j := if_neg e
theorem nI_mn {y z : Nat} (hy : y < 2 ^ 31) (hz : z < 2 ^ 31) : (if nI y < nI z then nI y else nI z) = nI (min z y) := by
  by_cases e : y < z
  · rw [if_pos ((nI_ltI hy hz).mpr e), Nat.min_eq_right (by omega)]
  · rw [if_neg (fun c => e ((nI_ltI hy hz).mp c)), Nat.min_eq_left (by omega)]
theorem rn_hasShaken {d a s b : Nat} {h : Sp} {q : Qp} {G : Gm} {I : Im} (K : CT G I a s h q) (hb : b < 6) : run d mX6_hasShaken [.ref a, .int (nI b)] G I = some (some (.int (if qS q / 2 ^ b % 2 = 1 then nI 1 else nI 0)), G, I) := by
  obtain ⟨ha, hs, hd, hv, ho, hq, hqo⟩ := K
  have e1 := hq.2.2.1
  have hS := hqo.2.2
  have hsm : ∀ b, b < 6 → ((nI b &&& 31).toBitVec.smod 32).toNat = b := by decide
  have e2 := pk_shrN (show qS q < 2 ^ 31 by omega) (nI b &&& 31) b (hsm b hb)
  have hle : qS q / 2 ^ b ≤ qS q := Nat.div_le_self _ _
  have e3 := pk_andN (n := qS q / 2 ^ b) (by omega) (m := nI 1) 1 (by decide)
  rw [Nat.pow_one] at e3
  have e4 := nI_eq (a := qS q / 2 ^ b % 2) (b := 1) (by omega) (by omega)
  simp only [rX6_hasShaken, xX6_hasShaken_0, xX6_hasShaken_1, xX6_hasShaken_4, xX6_hasShaken_5, xX6_hasShaken_6, xX6_hasShaken_7, xX6_hasShaken_8, xX6_hasShaken_9, xX6_hasShaken_12, xX6_hasShaken_13, xX6_hasShaken_16, xX6_hasShaken_17, cK_some, ofR_some, ofR_none, Option.toList_some, Option.toList_none, List.cons_append, List.nil_append, isL_i, isL_r, isL_u, isL_2, cs_0, cs_i, cs_r, cs_l, cs_ii, cs_ir, cs_ri, cs_rr, cs_iir, cs_irr, ha.1, ha.2.1, ha.2.2.1, ha.2.2.2.1, ha.2.2.2.2.1, ha.2.2.2.2.2.1, ha.2.2.2.2.2.2, e1, e2, e3, e4]
  split <;> simp only [xX6_hasShaken_0, xX6_hasShaken_1, xX6_hasShaken_4, xX6_hasShaken_5, xX6_hasShaken_6, xX6_hasShaken_7, xX6_hasShaken_8, xX6_hasShaken_9, xX6_hasShaken_12, xX6_hasShaken_13, xX6_hasShaken_16, xX6_hasShaken_17, isB_0, isB_1]
theorem passP_le {h : Sp} {b d p w : Nat} (hs : hShare h ≤ 100) : passP h b d p w ≤ d - w ∧ passP h b d p w ≤ hHold h (hOwn h p) - w := by
  have := frac_le (D := d - w) hs
  unfold passP
  split
  · omega
  · split
    · simp only [Nat.min_def]; split <;> split <;> omega
    · simp only [Nat.min_def]; split <;> omega
theorem rn_passing {d s b D p w : Nat} {h : Sp} {G : Gm} {I : Im} (hs : Sh G s) (hv : ShV I s h) (ho : SpOk h) (hb : b < hN h) (hp : p < hP h) (hD : D ≤ 99) (hw : w ≤ hHold h (hOwn h p)) : run d mX6_passing [.ref s, .int (nI b), .int (nI D), .int (nI p), .int (nI w)] G I = some (some (.int (nI (passP h b D p w))), G, I) := by
  have hN6 := ho.1
  have hP6 := ho.2.1
  have hT3 := ho.2.2.1
  have hsh := ho.2.2.2.1
  have hH := hold99 ho hp
  have how := ho.2.2.2.2.2.2.2.2.2.2.2 p hp
  have hkd := (ho.2.2.2.2.2.2.2.2.2.1 b hb).1
  by_cases hle : D ≤ w
  · have hn : nI D - nI w ≤ 0 := by
      by_cases e : D = w
      · rw [e, pk_sub (Nat.le_refl _), Nat.sub_self]; decide
      · exact Int32.le_of_lt (pk_sneg (by omega) (by omega))
    have e : passP h b D p w = 0 := by unfold passP; rw [if_pos hle]
    rw [e]
    simp only [rX6_passing, xX6_passing_0, xX6_passing_1, xX6_passing_3, xX6_passing_4, xX6_passing_6, xX6_passing_8, xX6_passing_11, xX6_passing_12, xX6_passing_13, xX6_passing_15, xX6_passing_16, xX6_passing_19, xX6_passing_20, xX6_passing_22, xX6_passing_23, xX6_passing_24, xX6_passing_27, xX6_passing_30, xX6_passing_31, xX6_passing_34, xX6_passing_37, xX6_passing_38, xX6_passing_39, xX6_passing_40, xX6_passing_42, xX6_passing_43, xX6_passing_46, xX6_passing_48, xX6_passing_49, xX6_passing_52, xX6_passing_55, xX6_passing_56, xX6_passing_57, xX6_passing_58, xX6_passing_61, xX6_passing_63, xX6_passing_64, xX6_passing_65, xX6_passing_66, xX6_passing_69, xX6_passing_71, xX6_passing_73, xX6_passing_74, xX6_passing_77, cK_some, ofR_some, ofR_none, Option.toList_some, Option.toList_none, List.cons_append, List.nil_append, isL_i, isL_r, isL_u, isL_2, cs_0, cs_i, cs_r, cs_l, cs_ii, cs_ir, cs_ri, cs_rr, cs_iir, cs_irr, hn, ↓reduceIte]
  · have hib := inb_n (show b < 6 by omega) (by omega)
    have hcb := nI_clamp (show b < 2 ^ 31 by omega)
    have hip := inb_n (show p < 6 by omega) (by omega)
    have hcp := nI_clamp (show p < 2 ^ 31 by omega)
    have hio := inb_n (show hOwn h p < 3 by omega) (by omega)
    have hco := nI_clamp (show hOwn h p < 2 ^ 31 by omega)
    have e1 := hv.2.1.1
    have e2 := hv.2.2.2.2 p hp
    have e3 := (hv.2.2.2.1 _ how).2.2
    have e4 := (hv.2.2.1 b hb).1
    have f1 := pk_sub (a := D) (b := w) (by omega)
    have f2 : ¬ nI (D - w) ≤ 0 := nI_nle (by omega) (by omega)
    have f3 := frac (D := D - w) (w := hShare h) (by omega) (by omega)
    have f4 := pk_sub hw
    have hfl := frac_le (D := D - w) (w := hShare h) (by omega)
    have f5 := nI_mn (y := hHold h (hOwn h p) - w) (z := (D - w) * hShare h / 100) (by omega) (by omega)
    have f6 := nI_eq (a := hKind h b) (b := 1) (by omega) (by omega)
    have hmin : min ((D - w) * hShare h / 100) (hHold h (hOwn h p) - w) ≤ 99 := Nat.le_trans (Nat.min_le_right _ _) (by omega)
    generalize hX : min ((D - w) * hShare h / 100) (hHold h (hOwn h p) - w) = X at f5 hmin
    by_cases hk : hKind h b = 1
    · have ep : passP h b D p w = min X (D - 3) := by unfold passP; rw [if_neg hle, if_pos hk, hX]
      rw [ep]
      by_cases h3 : 3 ≤ D
      · have g1 := pk_sub (a := D) (b := 3) h3
        have g2 := nI_mn (y := D - 3) (z := X) (by omega) (by omega)
        have g3 : (if nI (min X (D - 3)) < nI 0 then nI 0 else nI (min X (D - 3))) = nI (min X (D - 3)) := by
          rw [if_neg (nI_nlt (Nat.zero_le _) (by have := Nat.min_le_left X (D - 3); omega))]
        simp only [rX6_passing, xX6_passing_0, xX6_passing_1, xX6_passing_3, xX6_passing_4, xX6_passing_6, xX6_passing_8, xX6_passing_11, xX6_passing_12, xX6_passing_13, xX6_passing_15, xX6_passing_16, xX6_passing_19, xX6_passing_20, xX6_passing_22, xX6_passing_23, xX6_passing_24, xX6_passing_27, xX6_passing_30, xX6_passing_31, xX6_passing_34, xX6_passing_37, xX6_passing_38, xX6_passing_39, xX6_passing_40, xX6_passing_42, xX6_passing_43, xX6_passing_46, xX6_passing_48, xX6_passing_49, xX6_passing_52, xX6_passing_55, xX6_passing_56, xX6_passing_57, xX6_passing_58, xX6_passing_61, xX6_passing_63, xX6_passing_64, xX6_passing_65, xX6_passing_66, xX6_passing_69, xX6_passing_71, xX6_passing_73, xX6_passing_74, xX6_passing_77, cK_some, ofR_some, ofR_none, Option.toList_some, Option.toList_none, List.cons_append, List.nil_append, isL_i, isL_r, isL_u, isL_2, cs_0, cs_i, cs_r, cs_l, cs_ii, cs_ir, cs_ri, cs_rr, cs_iir, cs_irr, hs.1, hs.2.1, hs.2.2.1, hs.2.2.2.1, hs.2.2.2.2.1, hs.2.2.2.2.2.1, (hs.2.2.2.2.2.2.1).1, (hs.2.2.2.2.2.2.1).2.1, (hs.2.2.2.2.2.2.1).2.2.1, (hs.2.2.2.2.2.2.1).2.2.2.1, (hs.2.2.2.2.2.2.1).2.2.2.2.1, (hs.2.2.2.2.2.2.1).2.2.2.2.2.1, (hs.2.2.2.2.2.2.1).2.2.2.2.2.2.1, (hs.2.2.2.2.2.2.1).2.2.2.2.2.2.2.1, (hs.2.2.2.2.2.2.1).2.2.2.2.2.2.2.2.1, (hs.2.2.2.2.2.2.1).2.2.2.2.2.2.2.2.2.1, (hs.2.2.2.2.2.2.1).2.2.2.2.2.2.2.2.2.2.1, (hs.2.2.2.2.2.2.1).2.2.2.2.2.2.2.2.2.2.2.1, (hs.2.2.2.2.2.2.1).2.2.2.2.2.2.2.2.2.2.2.2, (hs.2.2.2.2.2.2.2.1).1, (hs.2.2.2.2.2.2.2.1).2.1, (hs.2.2.2.2.2.2.2.1).2.2.1, (hs.2.2.2.2.2.2.2.1).2.2.2.1, (hs.2.2.2.2.2.2.2.1).2.2.2.2.1, (hs.2.2.2.2.2.2.2.1).2.2.2.2.2.1, (hs.2.2.2.2.2.2.2.1).2.2.2.2.2.2.1, (hs.2.2.2.2.2.2.2.1).2.2.2.2.2.2.2.1, (hs.2.2.2.2.2.2.2.1).2.2.2.2.2.2.2.2.1, (hs.2.2.2.2.2.2.2.1).2.2.2.2.2.2.2.2.2.1, (hs.2.2.2.2.2.2.2.1).2.2.2.2.2.2.2.2.2.2.1, (hs.2.2.2.2.2.2.2.1).2.2.2.2.2.2.2.2.2.2.2.1, (hs.2.2.2.2.2.2.2.1).2.2.2.2.2.2.2.2.2.2.2.2, hs.2.2.2.2.2.2.2.2.1, hs.2.2.2.2.2.2.2.2.2.2, hib, hcb, hip, hcp, hio, hco, e1, e2, e3, e4, f1, f2, f3, f4, f5, f6, hk, g1, g2, g3, n100, not_false_eq_true, ↓reduceIte]
      · have g1 := pk_sneg (a := D) (b := 3) (by omega) (by omega)
        have g2 : (if nI D - nI 3 < nI X then nI D - nI 3 else nI X) = nI D - nI 3 := by
          rw [if_pos (Int32.lt_of_lt_of_le g1 (by rw [← nI_0]; exact nI_le (Nat.zero_le _) (by omega)))]
        have g3 : (if nI D - nI 3 < nI 0 then nI 0 else nI D - nI 3) = nI 0 := by rw [if_pos (by rw [nI_0]; exact g1)]
        rw [show min X (D - 3) = 0 by rw [show D - 3 = 0 by omega]; exact Nat.min_zero _]
        simp only [rX6_passing, xX6_passing_0, xX6_passing_1, xX6_passing_3, xX6_passing_4, xX6_passing_6, xX6_passing_8, xX6_passing_11, xX6_passing_12, xX6_passing_13, xX6_passing_15, xX6_passing_16, xX6_passing_19, xX6_passing_20, xX6_passing_22, xX6_passing_23, xX6_passing_24, xX6_passing_27, xX6_passing_30, xX6_passing_31, xX6_passing_34, xX6_passing_37, xX6_passing_38, xX6_passing_39, xX6_passing_40, xX6_passing_42, xX6_passing_43, xX6_passing_46, xX6_passing_48, xX6_passing_49, xX6_passing_52, xX6_passing_55, xX6_passing_56, xX6_passing_57, xX6_passing_58, xX6_passing_61, xX6_passing_63, xX6_passing_64, xX6_passing_65, xX6_passing_66, xX6_passing_69, xX6_passing_71, xX6_passing_73, xX6_passing_74, xX6_passing_77, cK_some, ofR_some, ofR_none, Option.toList_some, Option.toList_none, List.cons_append, List.nil_append, isL_i, isL_r, isL_u, isL_2, cs_0, cs_i, cs_r, cs_l, cs_ii, cs_ir, cs_ri, cs_rr, cs_iir, cs_irr, hs.1, hs.2.1, hs.2.2.1, hs.2.2.2.1, hs.2.2.2.2.1, hs.2.2.2.2.2.1, (hs.2.2.2.2.2.2.1).1, (hs.2.2.2.2.2.2.1).2.1, (hs.2.2.2.2.2.2.1).2.2.1, (hs.2.2.2.2.2.2.1).2.2.2.1, (hs.2.2.2.2.2.2.1).2.2.2.2.1, (hs.2.2.2.2.2.2.1).2.2.2.2.2.1, (hs.2.2.2.2.2.2.1).2.2.2.2.2.2.1, (hs.2.2.2.2.2.2.1).2.2.2.2.2.2.2.1, (hs.2.2.2.2.2.2.1).2.2.2.2.2.2.2.2.1, (hs.2.2.2.2.2.2.1).2.2.2.2.2.2.2.2.2.1, (hs.2.2.2.2.2.2.1).2.2.2.2.2.2.2.2.2.2.1, (hs.2.2.2.2.2.2.1).2.2.2.2.2.2.2.2.2.2.2.1, (hs.2.2.2.2.2.2.1).2.2.2.2.2.2.2.2.2.2.2.2, (hs.2.2.2.2.2.2.2.1).1, (hs.2.2.2.2.2.2.2.1).2.1, (hs.2.2.2.2.2.2.2.1).2.2.1, (hs.2.2.2.2.2.2.2.1).2.2.2.1, (hs.2.2.2.2.2.2.2.1).2.2.2.2.1, (hs.2.2.2.2.2.2.2.1).2.2.2.2.2.1, (hs.2.2.2.2.2.2.2.1).2.2.2.2.2.2.1, (hs.2.2.2.2.2.2.2.1).2.2.2.2.2.2.2.1, (hs.2.2.2.2.2.2.2.1).2.2.2.2.2.2.2.2.1, (hs.2.2.2.2.2.2.2.1).2.2.2.2.2.2.2.2.2.1, (hs.2.2.2.2.2.2.2.1).2.2.2.2.2.2.2.2.2.2.1, (hs.2.2.2.2.2.2.2.1).2.2.2.2.2.2.2.2.2.2.2.1, (hs.2.2.2.2.2.2.2.1).2.2.2.2.2.2.2.2.2.2.2.2, hs.2.2.2.2.2.2.2.2.1, hs.2.2.2.2.2.2.2.2.2.2, hib, hcb, hip, hcp, hio, hco, e1, e2, e3, e4, f1, f2, f3, f4, f5, f6, hk, g2, g3, n100, not_false_eq_true, ↓reduceIte]
    · have ep : passP h b D p w = X := by unfold passP; rw [if_neg hle, if_neg hk, hX]
      rw [ep]
      have g3 : (if nI X < nI 0 then nI 0 else nI X) = nI X := by rw [if_neg (nI_nlt (Nat.zero_le _) (by omega))]
      simp only [rX6_passing, xX6_passing_0, xX6_passing_1, xX6_passing_3, xX6_passing_4, xX6_passing_6, xX6_passing_8, xX6_passing_11, xX6_passing_12, xX6_passing_13, xX6_passing_15, xX6_passing_16, xX6_passing_19, xX6_passing_20, xX6_passing_22, xX6_passing_23, xX6_passing_24, xX6_passing_27, xX6_passing_30, xX6_passing_31, xX6_passing_34, xX6_passing_37, xX6_passing_38, xX6_passing_39, xX6_passing_40, xX6_passing_42, xX6_passing_43, xX6_passing_46, xX6_passing_48, xX6_passing_49, xX6_passing_52, xX6_passing_55, xX6_passing_56, xX6_passing_57, xX6_passing_58, xX6_passing_61, xX6_passing_63, xX6_passing_64, xX6_passing_65, xX6_passing_66, xX6_passing_69, xX6_passing_71, xX6_passing_73, xX6_passing_74, xX6_passing_77, cK_some, ofR_some, ofR_none, Option.toList_some, Option.toList_none, List.cons_append, List.nil_append, isL_i, isL_r, isL_u, isL_2, cs_0, cs_i, cs_r, cs_l, cs_ii, cs_ir, cs_ri, cs_rr, cs_iir, cs_irr, hs.1, hs.2.1, hs.2.2.1, hs.2.2.2.1, hs.2.2.2.2.1, hs.2.2.2.2.2.1, (hs.2.2.2.2.2.2.1).1, (hs.2.2.2.2.2.2.1).2.1, (hs.2.2.2.2.2.2.1).2.2.1, (hs.2.2.2.2.2.2.1).2.2.2.1, (hs.2.2.2.2.2.2.1).2.2.2.2.1, (hs.2.2.2.2.2.2.1).2.2.2.2.2.1, (hs.2.2.2.2.2.2.1).2.2.2.2.2.2.1, (hs.2.2.2.2.2.2.1).2.2.2.2.2.2.2.1, (hs.2.2.2.2.2.2.1).2.2.2.2.2.2.2.2.1, (hs.2.2.2.2.2.2.1).2.2.2.2.2.2.2.2.2.1, (hs.2.2.2.2.2.2.1).2.2.2.2.2.2.2.2.2.2.1, (hs.2.2.2.2.2.2.1).2.2.2.2.2.2.2.2.2.2.2.1, (hs.2.2.2.2.2.2.1).2.2.2.2.2.2.2.2.2.2.2.2, (hs.2.2.2.2.2.2.2.1).1, (hs.2.2.2.2.2.2.2.1).2.1, (hs.2.2.2.2.2.2.2.1).2.2.1, (hs.2.2.2.2.2.2.2.1).2.2.2.1, (hs.2.2.2.2.2.2.2.1).2.2.2.2.1, (hs.2.2.2.2.2.2.2.1).2.2.2.2.2.1, (hs.2.2.2.2.2.2.2.1).2.2.2.2.2.2.1, (hs.2.2.2.2.2.2.2.1).2.2.2.2.2.2.2.1, (hs.2.2.2.2.2.2.2.1).2.2.2.2.2.2.2.2.1, (hs.2.2.2.2.2.2.2.1).2.2.2.2.2.2.2.2.2.1, (hs.2.2.2.2.2.2.2.1).2.2.2.2.2.2.2.2.2.2.1, (hs.2.2.2.2.2.2.2.1).2.2.2.2.2.2.2.2.2.2.2.1, (hs.2.2.2.2.2.2.2.1).2.2.2.2.2.2.2.2.2.2.2.2, hs.2.2.2.2.2.2.2.2.1, hs.2.2.2.2.2.2.2.2.2.2, hib, hcb, hip, hcp, hio, hco, e1, e2, e3, e4, f1, f2, f3, f4, f5, f6, hk, g3, n100, not_false_eq_true, ↓reduceIte]
theorem rn_amount {d a s b p : Nat} {h : Sp} {q : Qp} {G : Gm} {I : Im} (K : CT G I a s h q) (hb : b < hN h) (hp : p < hP h) : run (d + 1) mX6_amount [.ref a, .ref s, .int (nI b), .int (nI p)] G I = some (some (.int (nI (passP h b (qD q b) p (qP q p)))), G, I) := by
  obtain ⟨ha, hs, hd, hv, ho, hq, hqo⟩ := K
  have hN6 := ho.1
  have hP6 := ho.2.1
  have hib := inb_n (show b < 6 by omega) (by omega)
  have hcb := nI_clamp (show b < 2 ^ 31 by omega)
  have hip := inb_n (show p < 6 by omega) (by omega)
  have hcp := nI_clamp (show p < 2 ^ 31 by omega)
  have e1 := (hq.1 b hb).1
  have e2 := hq.2.1 p hp
  have hpa := rn_passing (d := d) hs hv ho hb hp (hqo.1 b hb) (hqo.2.1 p hp)
  simp only [rX6_amount, xX6_amount_0, xX6_amount_1, xX6_amount_2, xX6_amount_3, xX6_amount_6, xX6_amount_7, xX6_amount_8, xX6_amount_9, xX6_amount_10, xX6_amount_13, xX6_amount_14, xX6_amount_15, xX6_amount_18, cK_some, ofR_some, ofR_none, Option.toList_some, Option.toList_none, List.cons_append, List.nil_append, isL_i, isL_r, isL_u, isL_2, cs_0, cs_i, cs_r, cs_l, cs_ii, cs_ir, cs_ri, cs_rr, cs_iir, cs_irr, ha.1, ha.2.1, ha.2.2.1, ha.2.2.2.1, ha.2.2.2.2.1, ha.2.2.2.2.2.1, ha.2.2.2.2.2.2, hs.1, hs.2.1, hs.2.2.1, hs.2.2.2.1, hs.2.2.2.2.1, hs.2.2.2.2.2.1, (hs.2.2.2.2.2.2.1).1, (hs.2.2.2.2.2.2.1).2.1, (hs.2.2.2.2.2.2.1).2.2.1, (hs.2.2.2.2.2.2.1).2.2.2.1, (hs.2.2.2.2.2.2.1).2.2.2.2.1, (hs.2.2.2.2.2.2.1).2.2.2.2.2.1, (hs.2.2.2.2.2.2.1).2.2.2.2.2.2.1, (hs.2.2.2.2.2.2.1).2.2.2.2.2.2.2.1, (hs.2.2.2.2.2.2.1).2.2.2.2.2.2.2.2.1, (hs.2.2.2.2.2.2.1).2.2.2.2.2.2.2.2.2.1, (hs.2.2.2.2.2.2.1).2.2.2.2.2.2.2.2.2.2.1, (hs.2.2.2.2.2.2.1).2.2.2.2.2.2.2.2.2.2.2.1, (hs.2.2.2.2.2.2.1).2.2.2.2.2.2.2.2.2.2.2.2, (hs.2.2.2.2.2.2.2.1).1, (hs.2.2.2.2.2.2.2.1).2.1, (hs.2.2.2.2.2.2.2.1).2.2.1, (hs.2.2.2.2.2.2.2.1).2.2.2.1, (hs.2.2.2.2.2.2.2.1).2.2.2.2.1, (hs.2.2.2.2.2.2.2.1).2.2.2.2.2.1, (hs.2.2.2.2.2.2.2.1).2.2.2.2.2.2.1, (hs.2.2.2.2.2.2.2.1).2.2.2.2.2.2.2.1, (hs.2.2.2.2.2.2.2.1).2.2.2.2.2.2.2.2.1, (hs.2.2.2.2.2.2.2.1).2.2.2.2.2.2.2.2.2.1, (hs.2.2.2.2.2.2.2.1).2.2.2.2.2.2.2.2.2.2.1, (hs.2.2.2.2.2.2.2.1).2.2.2.2.2.2.2.2.2.2.2.1, (hs.2.2.2.2.2.2.2.1).2.2.2.2.2.2.2.2.2.2.2.2, hs.2.2.2.2.2.2.2.2.1, hs.2.2.2.2.2.2.2.2.2.2, hib, hcb, hip, hcp, e1, e2, hpa]
theorem wipe_ok {h : Sp} {q : Qp} {b p : Nat} (ho : SpOk h) (hqo : QpOk h q) (hb : b < hN h) (hp : p < hP h) :
    QpOk h (up (qD q) b (qD q b - passP h b (qD q b) p (qP q p)), qC q, up (qP q) p (qP q p + passP h b (qD q b) p (qP q p)), qS q, qM q, qL q) := by
  have h1 := passP_le (h := h) (b := b) (d := qD q b) (p := p) (w := qP q p) (by have := ho.2.2.2.1; omega)
  refine ⟨fun i hi => ?_, fun i hi => ?_, hqo.2.2⟩
  · show up (qD q) b _ i ≤ 99
    have := hqo.1 b hb
    by_cases e : i = b
    · rw [e, up_s]; omega
    · rw [up_o e]; exact hqo.1 i hi
  · show up (qP q) p _ i ≤ _
    have := hqo.2.1 p hp
    by_cases e : i = p
    · rw [e, up_s]; omega
    · rw [up_o e]; exact hqo.2.1 i hi
theorem wipeP_ok {h : Sp} {q : Qp} {b p : Nat} (ho : SpOk h) (hqo : QpOk h q) (hb : b < hN h) (hp : p < hP h) : QpOk h (wipeP h q b p) := mins_ok _ (wipe_ok ho hqo hb hp)
theorem rn_doWipe {d a s b p : Nat} {h : Sp} {q : Qp} {G : Gm} {I : Im} (K : CT G I a s h q) (hb : b < hN h) (hp : p < hP h) :
    ∃ I', run (d + 2) mX6_doWipe [.ref a, .ref s, .int (nI b), .int (nI p)] G I = some (some (.int (nI (passP h b (qD q b) p (qP q p)))), G, I') ∧ CT G I' a s h (wipeP h q b p) ∧ Fr (inSc a) I I' := by
  have ham := rn_amount (d := d) K hb hp
  obtain ⟨ha, hs, hd, hv, ho, hq, hqo⟩ := id K
  have hN6 := ho.1
  have hP6 := ho.2.1
  have hib := inb_n (show b < 6 by omega) (by omega)
  have hcb := nI_clamp (show b < 2 ^ 31 by omega)
  have hip := inb_n (show p < 6 by omega) (by omega)
  have hcp := nI_clamp (show p < 2 ^ 31 by omega)
  have e1 := (hq.1 b hb).1
  have e2 := hq.2.1 p hp
  have h1 := passP_le (h := h) (b := b) (d := qD q b) (p := p) (w := qP q p) (by have := ho.2.2.2.1; omega)
  have f1 := pk_sub (show passP h b (qD q b) p (qP q p) ≤ qD q b by omega)
  have hf1 : Fr (inSc a) I (s2 (s2 I (a + 1) b (nI (qD q b - passP h b (qD q b) p (qP q p)))) (a + 3) p (nI (qP q p + passP h b (qD q b) p (qP q p)))) := (Fr.rf.s2 (show inSc a (a + 1) from ⟨by omega, by omega⟩)).s2 (show inSc a (a + 3) from ⟨by omega, by omega⟩)
  have hq1 := (hq.setD (b := b) (x := qD q b - passP h b (qD q b) p (qP q p))).setP (b := p) (x := qP q p + passP h b (qD q b) p (qP q p))
  obtain ⟨I', g1, g2, g3⟩ := rn_letPass (d := d) (n := hWipe h) ha hs hd (hv.sc hf1 hd) ho hq1 (wipe_ok ho hqo hb hp) (by have := ho.2.2.2.2.1; omega)
  have eW : s2 (s2 I (a + 1) b (nI (qD q b - passP h b (qD q b) p (qP q p)))) (a + 3) p (nI (qP q p + passP h b (qD q b) p (qP q p))) s 1 = nI (hWipe h) := (hv.sc hf1 hd).2.1.2.1
  refine ⟨I', ?_, K.to g2 (wipeP_ok ho hqo hb hp) (hf1.tr g3), hf1.tr g3⟩
  simp only [rX6_doWipe, xX6_doWipe_0, xX6_doWipe_1, xX6_doWipe_2, xX6_doWipe_3, xX6_doWipe_4, xX6_doWipe_7, xX6_doWipe_9, xX6_doWipe_10, xX6_doWipe_13, xX6_doWipe_14, xX6_doWipe_15, xX6_doWipe_16, xX6_doWipe_18, xX6_doWipe_19, xX6_doWipe_20, xX6_doWipe_21, xX6_doWipe_24, xX6_doWipe_25, xX6_doWipe_26, xX6_doWipe_27, xX6_doWipe_29, xX6_doWipe_30, xX6_doWipe_31, xX6_doWipe_32, xX6_doWipe_33, xX6_doWipe_34, xX6_doWipe_37, xX6_doWipe_40, xX6_doWipe_42, cK_some, ofR_some, ofR_none, Option.toList_some, Option.toList_none, List.cons_append, List.nil_append, isL_i, isL_r, isL_u, isL_2, cs_0, cs_i, cs_r, cs_l, cs_ii, cs_ir, cs_ri, cs_rr, cs_iir, cs_irr, ha.1, ha.2.1, ha.2.2.1, ha.2.2.2.1, ha.2.2.2.2.1, ha.2.2.2.2.2.1, ha.2.2.2.2.2.2, hs.1, hs.2.1, hs.2.2.1, hs.2.2.2.1, hs.2.2.2.2.1, hs.2.2.2.2.2.1, (hs.2.2.2.2.2.2.1).1, (hs.2.2.2.2.2.2.1).2.1, (hs.2.2.2.2.2.2.1).2.2.1, (hs.2.2.2.2.2.2.1).2.2.2.1, (hs.2.2.2.2.2.2.1).2.2.2.2.1, (hs.2.2.2.2.2.2.1).2.2.2.2.2.1, (hs.2.2.2.2.2.2.1).2.2.2.2.2.2.1, (hs.2.2.2.2.2.2.1).2.2.2.2.2.2.2.1, (hs.2.2.2.2.2.2.1).2.2.2.2.2.2.2.2.1, (hs.2.2.2.2.2.2.1).2.2.2.2.2.2.2.2.2.1, (hs.2.2.2.2.2.2.1).2.2.2.2.2.2.2.2.2.2.1, (hs.2.2.2.2.2.2.1).2.2.2.2.2.2.2.2.2.2.2.1, (hs.2.2.2.2.2.2.1).2.2.2.2.2.2.2.2.2.2.2.2, (hs.2.2.2.2.2.2.2.1).1, (hs.2.2.2.2.2.2.2.1).2.1, (hs.2.2.2.2.2.2.2.1).2.2.1, (hs.2.2.2.2.2.2.2.1).2.2.2.1, (hs.2.2.2.2.2.2.2.1).2.2.2.2.1, (hs.2.2.2.2.2.2.2.1).2.2.2.2.2.1, (hs.2.2.2.2.2.2.2.1).2.2.2.2.2.2.1, (hs.2.2.2.2.2.2.2.1).2.2.2.2.2.2.2.1, (hs.2.2.2.2.2.2.2.1).2.2.2.2.2.2.2.2.1, (hs.2.2.2.2.2.2.2.1).2.2.2.2.2.2.2.2.2.1, (hs.2.2.2.2.2.2.2.1).2.2.2.2.2.2.2.2.2.2.1, (hs.2.2.2.2.2.2.2.1).2.2.2.2.2.2.2.2.2.2.2.1, (hs.2.2.2.2.2.2.2.1).2.2.2.2.2.2.2.2.2.2.2.2, hs.2.2.2.2.2.2.2.2.1, hs.2.2.2.2.2.2.2.2.2.2, hib, hcb, hip, hcp, e1, e2, ham, f1, s2_ne (show a + 3 ≠ a + 1 by omega), nI_add, eW, g1]
