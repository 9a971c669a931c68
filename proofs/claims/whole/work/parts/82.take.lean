/-! the class takes words, wholes, signs -/
/-- the texts as numbers -/
def wN (i : Nat) : List Nat := (sB.getD i []).map (fun x => x.toBitVec.toNat)
theorem wN_ok : ∀ i : Fin 49, (i : Nat) = 24 ∨ (strB (1000000 + i) = some ((wN i).map nI) ∧ (wN i).length ≤ 8 ∧ (wN i).all (fun b => decide (97 ≤ b ∧ b ≤ 122)) = true) := by decide +kernel
/-- a text at a -/
def StV (a : Nat) (w : List Nat) : Prop := strB a = some (w.map nI) ∧ w.length ≤ 8 ∧ ∀ j, j < w.length → 97 ≤ w.getD j 0 ∧ w.getD j 0 ≤ 122
theorem stV (i : Fin 49) (h24 : (i : Nat) ≠ 24) : StV (1000000 + i) (wN i) := by
  obtain ⟨h1, h2, h3⟩ := (wN_ok i).resolve_left h24
  refine ⟨h1, h2, fun j hj => ?_⟩
  have h4 := List.all_eq_true.mp h3 ((wN i)[j]'hj) (List.getElem_mem hj)
  rw [List.getD_eq_getElem?_getD, List.getElem?_eq_getElem hj]
  exact of_decide_eq_true h4
/-- the token is the word w -/
def wd (B : Nat → Nat) (k : Tk) (w : List Nat) : Bool := decide (kK k = 1 ∧ kE k - kS k = w.length ∧ ∀ j, j < w.length → B (kS k + j) = w.getD j 0)
theorem tk_1 {B : Nat → Nat} {e a : Nat} (h : kK (tk B e a) = 1) : kS (tk B e a) < e ∧ kE (tk B e a) = runB isL B e 900 (kS (tk B e a)) ∧ kE (tk B e a) - kS (tk B e a) ≤ 8 ∧ isL (B (kS (tk B e a))) = true := by
  unfold tk at *
  dsimp only at *
  generalize runB isSp B e 900 a = s at *
  by_cases c0 : e ≤ s
  · rw [if_pos c0] at h; exact absurd h (show ¬ 0 = 1 by decide)
  · rw [if_neg c0] at h ⊢
    by_cases c1 : isL (B s) = true
    · rw [if_pos c1] at h ⊢
      have h' : (if runB isL B e 900 s - s ≤ 8 then 1 else 4) = 1 := h
      by_cases c2 : runB isL B e 900 s - s ≤ 8
      · exact ⟨by show s < e; omega, rfl, c2, c1⟩
      · rw [if_neg c2] at h'; omega
    · rw [if_neg c1] at h
      by_cases c2 : isD (B s) = true
      · rw [if_pos c2] at h
        have h' : (if runB isD B e 900 s - s ≤ 3 then 2 else 4) = 1 := h
        split at h' <;> omega
      · rw [if_neg c2] at h
        by_cases c3 : B s = 59 ∨ B s = 44
        · rw [if_pos c3] at h; exact absurd h (show ¬ 3 = 1 by decide)
        · rw [if_neg c3] at h; exact absurd h (show ¬ 4 = 1 by decide)
theorem tk_3 {B : Nat → Nat} {e a : Nat} (h : kK (tk B e a) = 3) : kS (tk B e a) < e ∧ (B (kS (tk B e a)) = 59 ∨ B (kS (tk B e a)) = 44) := by
  unfold tk at *
  dsimp only at *
  generalize runB isSp B e 900 a = s at *
  by_cases c0 : e ≤ s
  · rw [if_pos c0] at h; exact absurd h (show ¬ 0 = 3 by decide)
  · rw [if_neg c0] at h ⊢
    by_cases c1 : isL (B s) = true
    · rw [if_pos c1] at h
      have h' : (if runB isL B e 900 s - s ≤ 8 then 1 else 4) = 3 := h
      split at h' <;> omega
    · rw [if_neg c1] at h ⊢
      by_cases c2 : isD (B s) = true
      · rw [if_pos c2] at h
        have h' : (if runB isD B e 900 s - s ≤ 3 then 2 else 4) = 3 := h
        split at h' <;> omega
      · rw [if_neg c2] at h ⊢
        by_cases c3 : B s = 59 ∨ B s = 44
        · rw [if_pos c3]; exact ⟨by show s < e; omega, c3⟩
        · rw [if_neg c3] at h; exact absurd h (show ¬ 4 = 3 by decide)
theorem gD_map {w : List Nat} {j : Nat} (hj : j < w.length) : (w.map nI).getD j 0 = nI (w.getD j 0) := by
  rw [List.getD_eq_getElem?_getD, List.getElem?_map, List.getElem?_eq_getElem hj, List.getD_eq_getElem?_getD, List.getElem?_eq_getElem hj]
  rfl
theorem yB_w {b c : Nat} (hb : b < 256) (hc : c < 128) : (yB b = nI c) = (b = c) := by
  have h1 := yB_lo ⟨c, hc⟩
  try dsimp only at h1
  rw [← h1]
  have h2 := yB_eq ⟨b, hb⟩ ⟨c, by omega⟩
  try dsimp only at h2
  rw [h2]
  exact propext ⟨fun h => congrArg Fin.val h, fun h => Fin.ext h⟩
theorem c_isWord {d t u e a p : Nat} {w : List Nat} {B : Nat → Nat} {G : Gm} {I : Im} (hL : TpL G t u) (hX : TxV I t B e) (hK : TkC I t (tk B e p)) (hw : StV a w) : run d mX8_isWord [.ref t, .ref a] G I = some (some (.int (bI (wd B (tk B e p) w))), G, I) := by
  obtain ⟨l1, l2, l3, l4, l5, l6, l7, l8, l9, l10, l11, l12⟩ := hL
  obtain ⟨k1, k2, k3, k4⟩ := hK
  obtain ⟨w1, w2, w3⟩ := hw
  have he := hX.2.1
  have := True.intro
  have r18 : ∀ {ls : List Slot} {y : Int32}, ex d mX8_isWord 18 ls [.ref a, .int y] G I = ex d mX8_isWord 21 ls [.int (nI w.length), .int y] G I := by
    intro ls y
    have h := xX8_isWord_18 (d := d) (G := G) (I := I) (ls := ls) (st := [.int y]) cs_i w1
    rwa [List.length_map] at h
  have r30 : ∀ {ls : List Slot} {y : Int32}, ex d mX8_isWord 30 ls [.ref a, .int y] G I = ex d mX8_isWord 33 ls [.int (nI w.length), .int y] G I := by
    intro ls y
    have h := xX8_isWord_30 (d := d) (G := G) (I := I) (ls := ls) (st := [.int y]) cs_i w1
    rwa [List.length_map] at h
  by_cases c1 : kK (tk B e p) = 1
  · obtain ⟨s1, s2', s3, s4⟩ := tk_1 c1
    have hrun := runB_p (p := isL) (B := B) (e := e) 900 (kS (tk B e p))
    rw [← s2'] at hrun
    have hle := runB_le (p := isL) (B := B) (e := e) 900 (kS (tk B e p))
    rw [← s2'] at hle
    have hke := runB_e (p := isL) (B := B) (e := e) 900 (kS (tk B e p)) (by omega)
    rw [← s2'] at hke
    rw [c1] at k3
    have hsu := pk_sub hle
    by_cases c2 : kE (tk B e p) - kS (tk B e p) = w.length
    · have c2' : (nI (kE (tk B e p) - kS (tk B e p)) = nI w.length) = True := eq_true (by rw [c2])
      have key : ∀ n j, j + n = w.length → ∃ b : Bool, (b = true ↔ ∀ i, j ≤ i → i < w.length → B (kS (tk B e p) + i) = w.getD i 0) ∧ ex d mX8_isWord 28 [.val (.ref t), .val (.ref a), .val (.int (nI j))] [] G I = some (some (.int (bI b)), G, I) := by
        intro n
        induction n with
        | zero =>
          intro j hj
          refine ⟨true, ⟨fun _ i h1 h2 => by omega, fun _ => rfl⟩, ?_⟩
          have ej : j = w.length := by omega
          rw [xX8_isWord_28, ej]
          simp (disch := first | assumption | (simp (disch := omega) only [cK_some, ofR_some, ofR_none, Option.toList_some, Option.toList_none, List.cons_append, List.nil_append, isL_i, isL_r, isL_u, isL_2, cs_0, cs_i, cs_r, cs_l, cs_ii, cs_ir, cs_ri, cs_rr, cs_iir, cs_irr, cs_iii, cs_iri, cs_rii, cs_rir, cs_rri, cs_rrr, cs_iiii, cs_iiir, cs_iiri, cs_iirr, cs_irii, cs_irir, cs_irri, cs_irrr, cs_riii, cs_riir, cs_riri, cs_rirr, cs_rrii, cs_rrir, cs_rrri, cs_rrrr, inb_n, bq4, bq5, n100, not_false_eq_true, isB_0, isB_1, nI_clamp, nI_nneg, Nat.zero_add, Nat.le_refl]; done) | omega | (simp (disch := omega) only [cK_some, ofR_some, ofR_none, Option.toList_some, Option.toList_none, List.cons_append, List.nil_append, isL_i, isL_r, isL_u, isL_2, cs_0, cs_i, cs_r, cs_l, cs_ii, cs_ir, cs_ri, cs_rr, cs_iir, cs_irr, cs_iii, cs_iri, cs_rii, cs_rir, cs_rri, cs_rrr, cs_iiii, cs_iiir, cs_iiri, cs_iirr, cs_irii, cs_irir, cs_irri, cs_irrr, cs_riii, cs_riir, cs_riri, cs_rirr, cs_rrii, cs_rrir, cs_rrri, cs_rrrr, inb_n, bq4, bq5, n100, not_false_eq_true, isB_0, isB_1, nI_clamp, nI_nneg, Nat.zero_add, Nat.le_refl]; omega)) only [xX8_isWord_29, xX8_isWord_33, xX8_isWord_36, xX8_isWord_37, xX8_isWord_40, xX8_isWord_41, xX8_isWord_44, xX8_isWord_45, xX8_isWord_46, xX8_isWord_47, xX8_isWord_48, xX8_isWord_49, xX8_isWord_52, xX8_isWord_55, xX8_isWord_56, xX8_isWord_57, xX8_isWord_60, xX8_isWord_63, xX8_isWord_64, cK_some, ofR_some, ofR_none, Option.toList_some, Option.toList_none, List.cons_append, List.nil_append, isL_i, isL_r, isL_u, isL_2, cs_0, cs_i, cs_r, cs_l, cs_ii, cs_ir, cs_ri, cs_rr, cs_iir, cs_irr, cs_iii, cs_iri, cs_rii, cs_rir, cs_rri, cs_rrr, cs_iiii, cs_iiir, cs_iiri, cs_iirr, cs_irii, cs_irir, cs_irri, cs_irrr, cs_riii, cs_riir, cs_riri, cs_rirr, cs_rrii, cs_rrir, cs_rrri, cs_rrrr, r30, bI, Nat.add_sub_cancel, Nat.add_zero, Nat.zero_add, nI_lt, nI_nlt, nI_le, nI_ge, nI_pos, pk_sub, nI_clamp, s2_ne, s2_o, s2_s, nI_add, inb_n, nI_nn, zq0, zq1, ↓reduceIte]
        | succ n ih =>
          intro j hj
          obtain ⟨b, b1, b2⟩ := ih (j + 1) (by omega)
          obtain ⟨eB, hB⟩ := hX.2.2 (kS (tk B e p) + j) (by omega)
          have hjw : j < w.length := by omega
          have hc := w3 j hjw
          have r49 : ∀ {ls : List Slot} {y : Int32}, ex d mX8_isWord 49 ls [.int (nI j), .ref a, .int y] G I = ex d mX8_isWord 52 ls [.int (nI (w.getD j 0)), .int y] G I := by
            intro ls y
            have h := xX8_isWord_49 (d := d) (G := G) (I := I) (ls := ls) (j := nI j) (st := [.int y]) cs_i w1 (by rw [List.length_map]; exact inb_n hjw (by omega))
            rwa [nI_clamp (by omega), gD_map hjw] at h
          have hq := yB_w (b := B (kS (tk B e p) + j)) (c := w.getD j 0) hB (by omega)
          by_cases c : B (kS (tk B e p) + j) = w.getD j 0
          · have hq' : (yB (B (kS (tk B e p) + j)) = nI (w.getD j 0)) = True := by rw [hq]; exact eq_true c
            refine ⟨b, b1.trans ⟨fun H i h1 h2 => ?_, fun H i h1 h2 => H i (by omega) h2⟩, ?_⟩
            · by_cases e1 : i = j
              · rw [e1]; exact c
              · exact H i (by omega) h2
            · rw [xX8_isWord_28]
              simp (disch := first | assumption | (simp (disch := omega) only [cK_some, ofR_some, ofR_none, Option.toList_some, Option.toList_none, List.cons_append, List.nil_append, isL_i, isL_r, isL_u, isL_2, cs_0, cs_i, cs_r, cs_l, cs_ii, cs_ir, cs_ri, cs_rr, cs_iir, cs_irr, cs_iii, cs_iri, cs_rii, cs_rir, cs_rri, cs_rrr, cs_iiii, cs_iiir, cs_iiri, cs_iirr, cs_irii, cs_irir, cs_irri, cs_irrr, cs_riii, cs_riir, cs_riri, cs_rirr, cs_rrii, cs_rrir, cs_rrri, cs_rrrr, l1, l8, bq1, inb_n, bq4, bq5, n100, not_false_eq_true, isB_0, isB_1, nI_clamp, nI_nneg, Nat.zero_add, Nat.le_refl]; done) | omega | (simp (disch := omega) only [cK_some, ofR_some, ofR_none, Option.toList_some, Option.toList_none, List.cons_append, List.nil_append, isL_i, isL_r, isL_u, isL_2, cs_0, cs_i, cs_r, cs_l, cs_ii, cs_ir, cs_ri, cs_rr, cs_iir, cs_irr, cs_iii, cs_iri, cs_rii, cs_rir, cs_rri, cs_rrr, cs_iiii, cs_iiir, cs_iiri, cs_iirr, cs_irii, cs_irir, cs_irri, cs_irrr, cs_riii, cs_riir, cs_riri, cs_rirr, cs_rrii, cs_rrir, cs_rrri, cs_rrrr, l1, l8, bq1, inb_n, bq4, bq5, n100, not_false_eq_true, isB_0, isB_1, nI_clamp, nI_nneg, Nat.zero_add, Nat.le_refl]; omega)) only [xX8_isWord_29, xX8_isWord_33, xX8_isWord_36, xX8_isWord_37, xX8_isWord_40, xX8_isWord_41, xX8_isWord_44, xX8_isWord_45, xX8_isWord_46, xX8_isWord_47, xX8_isWord_48, xX8_isWord_52, xX8_isWord_55, xX8_isWord_56, xX8_isWord_57, xX8_isWord_60, cK_some, ofR_some, ofR_none, Option.toList_some, Option.toList_none, List.cons_append, List.nil_append, isL_i, isL_r, isL_u, isL_2, cs_0, cs_i, cs_r, cs_l, cs_ii, cs_ir, cs_ri, cs_rr, cs_iir, cs_irr, cs_iii, cs_iri, cs_rii, cs_rir, cs_rri, cs_rrr, cs_iiii, cs_iiir, cs_iiri, cs_iirr, cs_irii, cs_irir, cs_irri, cs_irrr, cs_riii, cs_riir, cs_riri, cs_rirr, cs_rrii, cs_rrir, cs_rrri, cs_rrrr, r30, l2, k2, eB, r49, hq', Nat.add_sub_cancel, Nat.add_zero, Nat.zero_add, nI_lt, nI_nlt, nI_le, nI_ge, nI_pos, pk_sub, nI_clamp, s2_ne, s2_o, s2_s, nI_add, inb_n, nI_nn, zq0, zq1, ↓reduceIte]
              exact b2
          · have hq' : (yB (B (kS (tk B e p) + j)) = nI (w.getD j 0)) = False := by rw [hq]; exact eq_false c
            refine ⟨false, ⟨fun x => (by cases x), fun H => absurd (H j (Nat.le_refl _) hjw) c⟩, ?_⟩
            rw [xX8_isWord_28]
            simp (disch := first | assumption | (simp (disch := omega) only [cK_some, ofR_some, ofR_none, Option.toList_some, Option.toList_none, List.cons_append, List.nil_append, isL_i, isL_r, isL_u, isL_2, cs_0, cs_i, cs_r, cs_l, cs_ii, cs_ir, cs_ri, cs_rr, cs_iir, cs_irr, cs_iii, cs_iri, cs_rii, cs_rir, cs_rri, cs_rrr, cs_iiii, cs_iiir, cs_iiri, cs_iirr, cs_irii, cs_irir, cs_irri, cs_irrr, cs_riii, cs_riir, cs_riri, cs_rirr, cs_rrii, cs_rrir, cs_rrri, cs_rrrr, l1, l8, bq1, inb_n, bq4, bq5, n100, not_false_eq_true, isB_0, isB_1, nI_clamp, nI_nneg, Nat.zero_add, Nat.le_refl]; done) | omega | (simp (disch := omega) only [cK_some, ofR_some, ofR_none, Option.toList_some, Option.toList_none, List.cons_append, List.nil_append, isL_i, isL_r, isL_u, isL_2, cs_0, cs_i, cs_r, cs_l, cs_ii, cs_ir, cs_ri, cs_rr, cs_iir, cs_irr, cs_iii, cs_iri, cs_rii, cs_rir, cs_rri, cs_rrr, cs_iiii, cs_iiir, cs_iiri, cs_iirr, cs_irii, cs_irir, cs_irri, cs_irrr, cs_riii, cs_riir, cs_riri, cs_rirr, cs_rrii, cs_rrir, cs_rrri, cs_rrrr, l1, l8, bq1, inb_n, bq4, bq5, n100, not_false_eq_true, isB_0, isB_1, nI_clamp, nI_nneg, Nat.zero_add, Nat.le_refl]; omega)) only [xX8_isWord_29, xX8_isWord_33, xX8_isWord_36, xX8_isWord_37, xX8_isWord_40, xX8_isWord_41, xX8_isWord_44, xX8_isWord_45, xX8_isWord_46, xX8_isWord_47, xX8_isWord_48, xX8_isWord_52, xX8_isWord_55, xX8_isWord_56, xX8_isWord_57, xX8_isWord_60, cK_some, ofR_some, ofR_none, Option.toList_some, Option.toList_none, List.cons_append, List.nil_append, isL_i, isL_r, isL_u, isL_2, cs_0, cs_i, cs_r, cs_l, cs_ii, cs_ir, cs_ri, cs_rr, cs_iir, cs_irr, cs_iii, cs_iri, cs_rii, cs_rir, cs_rri, cs_rrr, cs_iiii, cs_iiir, cs_iiri, cs_iirr, cs_irii, cs_irir, cs_irri, cs_irrr, cs_riii, cs_riir, cs_riri, cs_rirr, cs_rrii, cs_rrir, cs_rrri, cs_rrrr, r30, l2, k2, eB, r49, hq', bI, Bool.false_eq_true, Nat.add_sub_cancel, Nat.add_zero, Nat.zero_add, nI_lt, nI_nlt, nI_le, nI_ge, nI_pos, pk_sub, nI_clamp, s2_ne, s2_o, s2_s, nI_add, inb_n, nI_nn, zq0, zq1, ↓reduceIte]
      obtain ⟨b, b1, b2⟩ := key w.length 0 (by omega)
      have eb : b = wd B (tk B e p) w := by
        unfold wd
        rw [Bool.eq_iff_iff, b1, decide_eq_true_iff]
        exact ⟨fun H => ⟨c1, c2, fun j hj => H j (Nat.zero_le _) hj⟩, fun H i _ h2 => H.2.2 i h2⟩
      rw [eb] at b2
      simp (disch := first | assumption | (simp (disch := omega) only [cK_some, ofR_some, ofR_none, Option.toList_some, Option.toList_none, List.cons_append, List.nil_append, isL_i, isL_r, isL_u, isL_2, cs_0, cs_i, cs_r, cs_l, cs_ii, cs_ir, cs_ri, cs_rr, cs_iir, cs_irr, cs_iii, cs_iri, cs_rii, cs_rir, cs_rri, cs_rrr, cs_iiii, cs_iiir, cs_iiri, cs_iirr, cs_irii, cs_irir, cs_irri, cs_irrr, cs_riii, cs_riir, cs_riri, cs_rirr, cs_rrii, cs_rrir, cs_rrri, cs_rrrr, l1, inb_n, bq4, bq5, n100, not_false_eq_true, isB_0, isB_1, nI_clamp, nI_nneg, Nat.zero_add, Nat.le_refl]; done) | omega | (simp (disch := omega) only [cK_some, ofR_some, ofR_none, Option.toList_some, Option.toList_none, List.cons_append, List.nil_append, isL_i, isL_r, isL_u, isL_2, cs_0, cs_i, cs_r, cs_l, cs_ii, cs_ir, cs_ri, cs_rr, cs_iir, cs_irr, cs_iii, cs_iri, cs_rii, cs_rir, cs_rri, cs_rrr, cs_iiii, cs_iiir, cs_iiri, cs_iirr, cs_irii, cs_irir, cs_irri, cs_irrr, cs_riii, cs_riir, cs_riri, cs_rirr, cs_rrii, cs_rrir, cs_rrri, cs_rrrr, l1, inb_n, bq4, bq5, n100, not_false_eq_true, isB_0, isB_1, nI_clamp, nI_nneg, Nat.zero_add, Nat.le_refl]; omega)) only [xX8_isWord_0, xX8_isWord_1, xX8_isWord_4, xX8_isWord_5, xX8_isWord_8, xX8_isWord_9, xX8_isWord_12, xX8_isWord_13, xX8_isWord_16, xX8_isWord_17, xX8_isWord_21, xX8_isWord_24, xX8_isWord_25, xX8_isWord_26, xX8_isWord_27, cK_some, ofR_some, ofR_none, Option.toList_some, Option.toList_none, List.cons_append, List.nil_append, isL_i, isL_r, isL_u, isL_2, cs_0, cs_i, cs_r, cs_l, cs_ii, cs_ir, cs_ri, cs_rr, cs_iir, cs_irr, cs_iii, cs_iri, cs_rii, cs_rir, cs_rri, cs_rrr, cs_iiii, cs_iiir, cs_iiri, cs_iirr, cs_irii, cs_irir, cs_irri, cs_irrr, cs_riii, cs_riir, cs_riri, cs_rirr, cs_rrii, cs_rrir, cs_rrri, cs_rrrr, rX8_isWord, r18, k3, k1, k2, hsu, c2', Nat.add_sub_cancel, Nat.add_zero, Nat.zero_add, nI_lt, nI_nlt, nI_le, nI_ge, nI_pos, pk_sub, nI_clamp, s2_ne, s2_o, s2_s, nI_add, inb_n, nI_nn, zq0, zq1, ↓reduceIte]
      exact b2
    · have c2' : (nI (kE (tk B e p) - kS (tk B e p)) = nI w.length) = False := eq_false (fun z => c2 ((nI_eq (by omega) (by omega)).mp z))
      have eb : wd B (tk B e p) w = false := decide_eq_false (fun z => c2 z.2.1)
      rw [eb]
      simp (disch := first | assumption | (simp (disch := omega) only [cK_some, ofR_some, ofR_none, Option.toList_some, Option.toList_none, List.cons_append, List.nil_append, isL_i, isL_r, isL_u, isL_2, cs_0, cs_i, cs_r, cs_l, cs_ii, cs_ir, cs_ri, cs_rr, cs_iir, cs_irr, cs_iii, cs_iri, cs_rii, cs_rir, cs_rri, cs_rrr, cs_iiii, cs_iiir, cs_iiri, cs_iirr, cs_irii, cs_irir, cs_irri, cs_irrr, cs_riii, cs_riir, cs_riri, cs_rirr, cs_rrii, cs_rrir, cs_rrri, cs_rrrr, l1, inb_n, bq4, bq5, n100, not_false_eq_true, isB_0, isB_1, nI_clamp, nI_nneg, Nat.zero_add, Nat.le_refl]; done) | omega | (simp (disch := omega) only [cK_some, ofR_some, ofR_none, Option.toList_some, Option.toList_none, List.cons_append, List.nil_append, isL_i, isL_r, isL_u, isL_2, cs_0, cs_i, cs_r, cs_l, cs_ii, cs_ir, cs_ri, cs_rr, cs_iir, cs_irr, cs_iii, cs_iri, cs_rii, cs_rir, cs_rri, cs_rrr, cs_iiii, cs_iiir, cs_iiri, cs_iirr, cs_irii, cs_irir, cs_irri, cs_irrr, cs_riii, cs_riir, cs_riri, cs_rirr, cs_rrii, cs_rrir, cs_rrri, cs_rrrr, l1, inb_n, bq4, bq5, n100, not_false_eq_true, isB_0, isB_1, nI_clamp, nI_nneg, Nat.zero_add, Nat.le_refl]; omega)) only [xX8_isWord_0, xX8_isWord_1, xX8_isWord_4, xX8_isWord_5, xX8_isWord_8, xX8_isWord_9, xX8_isWord_12, xX8_isWord_13, xX8_isWord_16, xX8_isWord_17, xX8_isWord_21, xX8_isWord_24, xX8_isWord_25, xX8_isWord_26, xX8_isWord_27, cK_some, ofR_some, ofR_none, Option.toList_some, Option.toList_none, List.cons_append, List.nil_append, isL_i, isL_r, isL_u, isL_2, cs_0, cs_i, cs_r, cs_l, cs_ii, cs_ir, cs_ri, cs_rr, cs_iir, cs_irr, cs_iii, cs_iri, cs_rii, cs_rir, cs_rri, cs_rrr, cs_iiii, cs_iiir, cs_iiri, cs_iirr, cs_irii, cs_irir, cs_irri, cs_irrr, cs_riii, cs_riir, cs_riri, cs_rirr, cs_rrii, cs_rrir, cs_rrri, cs_rrrr, rX8_isWord, r18, k3, k1, k2, hsu, c2', bI, Bool.false_eq_true, Nat.add_sub_cancel, Nat.add_zero, Nat.zero_add, nI_lt, nI_nlt, nI_le, nI_ge, nI_pos, pk_sub, nI_clamp, s2_ne, s2_o, s2_s, nI_add, inb_n, nI_nn, zq0, zq1, ↓reduceIte]
  · have hk4 := (tk_v (B := B) (e := e) (a := p))
    have eb : wd B (tk B e p) w = false := decide_eq_false (fun z => c1 z.1)
    rw [eb]
    have c1' : (nI (kK (tk B e p)) = nI 1) = False := eq_false (fun z => c1 (by
      have h5 : kK (tk B e p) ≤ 4 := by
        unfold tk kK
        dsimp only
        split
        · show 0 ≤ 4; omega
        · split
          · show (if _ then 1 else 4) ≤ 4
            split <;> omega
          · split
            · show (if _ then 2 else 4) ≤ 4
              split <;> omega
            · split
              · show 3 ≤ 4; omega
              · show 4 ≤ 4; omega
      exact (nI_eq (by omega) (by omega)).mp z))
    simp (disch := first | assumption | (simp (disch := omega) only [cK_some, ofR_some, ofR_none, Option.toList_some, Option.toList_none, List.cons_append, List.nil_append, isL_i, isL_r, isL_u, isL_2, cs_0, cs_i, cs_r, cs_l, cs_ii, cs_ir, cs_ri, cs_rr, cs_iir, cs_irr, cs_iii, cs_iri, cs_rii, cs_rir, cs_rri, cs_rrr, cs_iiii, cs_iiir, cs_iiri, cs_iirr, cs_irii, cs_irir, cs_irri, cs_irrr, cs_riii, cs_riir, cs_riri, cs_rirr, cs_rrii, cs_rrir, cs_rrri, cs_rrrr, l1, inb_n, bq4, bq5, n100, not_false_eq_true, isB_0, isB_1, nI_clamp, nI_nneg, Nat.zero_add, Nat.le_refl]; done) | omega | (simp (disch := omega) only [cK_some, ofR_some, ofR_none, Option.toList_some, Option.toList_none, List.cons_append, List.nil_append, isL_i, isL_r, isL_u, isL_2, cs_0, cs_i, cs_r, cs_l, cs_ii, cs_ir, cs_ri, cs_rr, cs_iir, cs_irr, cs_iii, cs_iri, cs_rii, cs_rir, cs_rri, cs_rrr, cs_iiii, cs_iiir, cs_iiri, cs_iirr, cs_irii, cs_irir, cs_irri, cs_irrr, cs_riii, cs_riir, cs_riri, cs_rirr, cs_rrii, cs_rrir, cs_rrri, cs_rrrr, l1, inb_n, bq4, bq5, n100, not_false_eq_true, isB_0, isB_1, nI_clamp, nI_nneg, Nat.zero_add, Nat.le_refl]; omega)) only [xX8_isWord_0, xX8_isWord_1, xX8_isWord_4, xX8_isWord_5, xX8_isWord_8, xX8_isWord_9, xX8_isWord_12, xX8_isWord_13, xX8_isWord_16, xX8_isWord_17, xX8_isWord_21, xX8_isWord_24, xX8_isWord_25, xX8_isWord_26, xX8_isWord_27, cK_some, ofR_some, ofR_none, Option.toList_some, Option.toList_none, List.cons_append, List.nil_append, isL_i, isL_r, isL_u, isL_2, cs_0, cs_i, cs_r, cs_l, cs_ii, cs_ir, cs_ri, cs_rr, cs_iir, cs_irr, cs_iii, cs_iri, cs_rii, cs_rir, cs_rri, cs_rrr, cs_iiii, cs_iiir, cs_iiri, cs_iirr, cs_irii, cs_irir, cs_irri, cs_irrr, cs_riii, cs_riir, cs_riri, cs_rirr, cs_rrii, cs_rrir, cs_rrri, cs_rrrr, rX8_isWord, k3, c1', bI, Bool.false_eq_true, Nat.add_sub_cancel, Nat.add_zero, Nat.zero_add, nI_lt, nI_nlt, nI_le, nI_ge, nI_pos, pk_sub, nI_clamp, s2_ne, s2_o, s2_s, nI_add, inb_n, nI_nn, zq0, zq1, ↓reduceIte]
theorem tk_k4 {B : Nat → Nat} {e p : Nat} : kK (tk B e p) ≤ 4 := by
  unfold tk kK
  dsimp only
  split
  · show 0 ≤ 4; omega
  · split
    · show (if _ then 1 else 4) ≤ 4
      split <;> omega
    · split
      · show (if _ then 2 else 4) ≤ 4
        split <;> omega
      · split
        · show 3 ≤ 4; omega
        · show 4 ≤ 4; omega
/-- the token is the sign c -/
def sg (B : Nat → Nat) (k : Tk) (c : Nat) : Bool := decide (kK k = 3 ∧ B (kS k) = c)
theorem c_isSign {d t u e c p : Nat} {B : Nat → Nat} {G : Gm} {I : Im} (hL : TpL G t u) (hX : TxV I t B e) (hK : TkC I t (tk B e p)) (hc : c < 128) : run d mX8_isSign [.ref t, .int (nI c)] G I = some (some (.int (bI (sg B (tk B e p) c))), G, I) := by
  obtain ⟨l1, l2, l3, l4, l5, l6, l7, l8, l9, l10, l11, l12⟩ := hL
  obtain ⟨k1, k2, k3, k4⟩ := hK
  have he := hX.2.1
  have := True.intro
  by_cases c1 : kK (tk B e p) = 3
  · obtain ⟨s1, -⟩ := tk_3 c1
    obtain ⟨eB, hB⟩ := hX.2.2 (kS (tk B e p)) s1
    rw [c1] at k3
    have hq := yB_w (b := B (kS (tk B e p))) (c := c) hB hc
    by_cases c2 : B (kS (tk B e p)) = c
    · have hq' : (yB (B (kS (tk B e p))) = nI c) = True := by rw [hq]; exact eq_true c2
      rw [show sg B (tk B e p) c = true from decide_eq_true ⟨c1, c2⟩]
      simp (disch := first | assumption | (simp (disch := omega) only [cK_some, ofR_some, ofR_none, Option.toList_some, Option.toList_none, List.cons_append, List.nil_append, isL_i, isL_r, isL_u, isL_2, cs_0, cs_i, cs_r, cs_l, cs_ii, cs_ir, cs_ri, cs_rr, cs_iir, cs_irr, cs_iii, cs_iri, cs_rii, cs_rir, cs_rri, cs_rrr, cs_iiii, cs_iiir, cs_iiri, cs_iirr, cs_irii, cs_irir, cs_irri, cs_irrr, cs_riii, cs_riir, cs_riri, cs_rirr, cs_rrii, cs_rrir, cs_rrri, cs_rrrr, l1, l8, bq1, inb_n, bq4, bq5, n100, not_false_eq_true, isB_0, isB_1, nI_clamp, nI_nneg, Nat.zero_add, Nat.le_refl]; done) | omega | (simp (disch := omega) only [cK_some, ofR_some, ofR_none, Option.toList_some, Option.toList_none, List.cons_append, List.nil_append, isL_i, isL_r, isL_u, isL_2, cs_0, cs_i, cs_r, cs_l, cs_ii, cs_ir, cs_ri, cs_rr, cs_iir, cs_irr, cs_iii, cs_iri, cs_rii, cs_rir, cs_rri, cs_rrr, cs_iiii, cs_iiir, cs_iiri, cs_iirr, cs_irii, cs_irir, cs_irri, cs_irrr, cs_riii, cs_riir, cs_riri, cs_rirr, cs_rrii, cs_rrir, cs_rrri, cs_rrrr, l1, l8, bq1, inb_n, bq4, bq5, n100, not_false_eq_true, isB_0, isB_1, nI_clamp, nI_nneg, Nat.zero_add, Nat.le_refl]; omega)) only [xX8_isSign_0, xX8_isSign_1, xX8_isSign_4, xX8_isSign_5, xX8_isSign_8, xX8_isSign_9, xX8_isSign_12, xX8_isSign_13, xX8_isSign_16, xX8_isSign_17, xX8_isSign_18, xX8_isSign_21, xX8_isSign_22, xX8_isSign_25, xX8_isSign_26, cK_some, ofR_some, ofR_none, Option.toList_some, Option.toList_none, List.cons_append, List.nil_append, isL_i, isL_r, isL_u, isL_2, cs_0, cs_i, cs_r, cs_l, cs_ii, cs_ir, cs_ri, cs_rr, cs_iir, cs_irr, cs_iii, cs_iri, cs_rii, cs_rir, cs_rri, cs_rrr, cs_iiii, cs_iiir, cs_iiri, cs_iirr, cs_irii, cs_irir, cs_irri, cs_irrr, cs_riii, cs_riir, cs_riri, cs_rirr, cs_rrii, cs_rrir, cs_rrri, cs_rrrr, rX8_isSign, k3, l2, k2, eB, hq', bI, Nat.add_sub_cancel, Nat.add_zero, Nat.zero_add, nI_lt, nI_nlt, nI_le, nI_ge, nI_pos, pk_sub, nI_clamp, s2_ne, s2_o, s2_s, nI_add, inb_n, nI_nn, zq0, zq1, ↓reduceIte]
    · have hq' : (yB (B (kS (tk B e p))) = nI c) = False := by rw [hq]; exact eq_false c2
      rw [show sg B (tk B e p) c = false from decide_eq_false (fun z => c2 z.2)]
      simp (disch := first | assumption | (simp (disch := omega) only [cK_some, ofR_some, ofR_none, Option.toList_some, Option.toList_none, List.cons_append, List.nil_append, isL_i, isL_r, isL_u, isL_2, cs_0, cs_i, cs_r, cs_l, cs_ii, cs_ir, cs_ri, cs_rr, cs_iir, cs_irr, cs_iii, cs_iri, cs_rii, cs_rir, cs_rri, cs_rrr, cs_iiii, cs_iiir, cs_iiri, cs_iirr, cs_irii, cs_irir, cs_irri, cs_irrr, cs_riii, cs_riir, cs_riri, cs_rirr, cs_rrii, cs_rrir, cs_rrri, cs_rrrr, l1, l8, bq1, inb_n, bq4, bq5, n100, not_false_eq_true, isB_0, isB_1, nI_clamp, nI_nneg, Nat.zero_add, Nat.le_refl]; done) | omega | (simp (disch := omega) only [cK_some, ofR_some, ofR_none, Option.toList_some, Option.toList_none, List.cons_append, List.nil_append, isL_i, isL_r, isL_u, isL_2, cs_0, cs_i, cs_r, cs_l, cs_ii, cs_ir, cs_ri, cs_rr, cs_iir, cs_irr, cs_iii, cs_iri, cs_rii, cs_rir, cs_rri, cs_rrr, cs_iiii, cs_iiir, cs_iiri, cs_iirr, cs_irii, cs_irir, cs_irri, cs_irrr, cs_riii, cs_riir, cs_riri, cs_rirr, cs_rrii, cs_rrir, cs_rrri, cs_rrrr, l1, l8, bq1, inb_n, bq4, bq5, n100, not_false_eq_true, isB_0, isB_1, nI_clamp, nI_nneg, Nat.zero_add, Nat.le_refl]; omega)) only [xX8_isSign_0, xX8_isSign_1, xX8_isSign_4, xX8_isSign_5, xX8_isSign_8, xX8_isSign_9, xX8_isSign_12, xX8_isSign_13, xX8_isSign_16, xX8_isSign_17, xX8_isSign_18, xX8_isSign_21, xX8_isSign_22, xX8_isSign_25, xX8_isSign_26, cK_some, ofR_some, ofR_none, Option.toList_some, Option.toList_none, List.cons_append, List.nil_append, isL_i, isL_r, isL_u, isL_2, cs_0, cs_i, cs_r, cs_l, cs_ii, cs_ir, cs_ri, cs_rr, cs_iir, cs_irr, cs_iii, cs_iri, cs_rii, cs_rir, cs_rri, cs_rrr, cs_iiii, cs_iiir, cs_iiri, cs_iirr, cs_irii, cs_irir, cs_irri, cs_irrr, cs_riii, cs_riir, cs_riri, cs_rirr, cs_rrii, cs_rrir, cs_rrri, cs_rrrr, rX8_isSign, k3, l2, k2, eB, hq', bI, Bool.false_eq_true, Nat.add_sub_cancel, Nat.add_zero, Nat.zero_add, nI_lt, nI_nlt, nI_le, nI_ge, nI_pos, pk_sub, nI_clamp, s2_ne, s2_o, s2_s, nI_add, inb_n, nI_nn, zq0, zq1, ↓reduceIte]
  · have h4 := tk_k4 (B := B) (e := e) (p := p)
    have c1' : (nI (kK (tk B e p)) = nI 3) = False := eq_false (fun z => c1 ((nI_eq (by omega) (by omega)).mp z))
    rw [show sg B (tk B e p) c = false from decide_eq_false (fun z => c1 z.1)]
    simp (disch := first | assumption | (simp (disch := omega) only [cK_some, ofR_some, ofR_none, Option.toList_some, Option.toList_none, List.cons_append, List.nil_append, isL_i, isL_r, isL_u, isL_2, cs_0, cs_i, cs_r, cs_l, cs_ii, cs_ir, cs_ri, cs_rr, cs_iir, cs_irr, cs_iii, cs_iri, cs_rii, cs_rir, cs_rri, cs_rrr, cs_iiii, cs_iiir, cs_iiri, cs_iirr, cs_irii, cs_irir, cs_irri, cs_irrr, cs_riii, cs_riir, cs_riri, cs_rirr, cs_rrii, cs_rrir, cs_rrri, cs_rrrr, l1, inb_n, bq4, bq5, n100, not_false_eq_true, isB_0, isB_1, nI_clamp, nI_nneg, Nat.zero_add, Nat.le_refl]; done) | omega | (simp (disch := omega) only [cK_some, ofR_some, ofR_none, Option.toList_some, Option.toList_none, List.cons_append, List.nil_append, isL_i, isL_r, isL_u, isL_2, cs_0, cs_i, cs_r, cs_l, cs_ii, cs_ir, cs_ri, cs_rr, cs_iir, cs_irr, cs_iii, cs_iri, cs_rii, cs_rir, cs_rri, cs_rrr, cs_iiii, cs_iiir, cs_iiri, cs_iirr, cs_irii, cs_irir, cs_irri, cs_irrr, cs_riii, cs_riir, cs_riri, cs_rirr, cs_rrii, cs_rrir, cs_rrri, cs_rrrr, l1, inb_n, bq4, bq5, n100, not_false_eq_true, isB_0, isB_1, nI_clamp, nI_nneg, Nat.zero_add, Nat.le_refl]; omega)) only [xX8_isSign_0, xX8_isSign_1, xX8_isSign_4, xX8_isSign_5, xX8_isSign_8, xX8_isSign_9, xX8_isSign_12, xX8_isSign_13, xX8_isSign_16, xX8_isSign_17, xX8_isSign_18, xX8_isSign_21, xX8_isSign_22, xX8_isSign_25, xX8_isSign_26, cK_some, ofR_some, ofR_none, Option.toList_some, Option.toList_none, List.cons_append, List.nil_append, isL_i, isL_r, isL_u, isL_2, cs_0, cs_i, cs_r, cs_l, cs_ii, cs_ir, cs_ri, cs_rr, cs_iir, cs_irr, cs_iii, cs_iri, cs_rii, cs_rir, cs_rri, cs_rrr, cs_iiii, cs_iiir, cs_iiri, cs_iirr, cs_irii, cs_irir, cs_irri, cs_irrr, cs_riii, cs_riir, cs_riri, cs_rirr, cs_rrii, cs_rrir, cs_rrri, cs_rrrr, rX8_isSign, k3, c1', bI, Bool.false_eq_true, Nat.add_sub_cancel, Nat.add_zero, Nat.zero_add, nI_lt, nI_nlt, nI_le, nI_ge, nI_pos, pk_sub, nI_clamp, s2_ne, s2_o, s2_s, nI_add, inb_n, nI_nn, zq0, zq1, ↓reduceIte]
/-- what the class' reading may write of its tape -/
def FQ (t : Nat) (I I' : Im) : Prop := (∀ c, c ≠ t → I' c = I c) ∧ ∀ j, j ≠ 3 → j ≠ 4 → j ≠ 5 → j ≠ 6 → j ≠ 7 → j ≠ 15 → I' t j = I t j
theorem FQ.rf {t : Nat} {I : Im} : FQ t I I := ⟨fun _ _ => rfl, fun _ _ _ _ _ _ _ => rfl⟩
theorem FQ.tr {t : Nat} {I I1 I2 : Im} (h1 : FQ t I I1) (h2 : FQ t I1 I2) : FQ t I I2 := ⟨fun c hc => (h2.1 c hc).trans (h1.1 c hc), fun j a b c d e f => (h2.2 j a b c d e f).trans (h1.2 j a b c d e f)⟩
theorem FS.q {t : Nat} {I I' : Im} (h : FS t I I') : FQ t I I' := ⟨h.1, fun j a b c d _ _ => h.2 j a b c d⟩
theorem TxV.fq {I I' : Im} {t e : Nat} {B : Nat → Nat} (h : TxV I t B e) (hf : FQ t I I') : TxV I' t B e := h.fr (hf.2 2 (by decide) (by decide) (by decide) (by decide) (by decide) (by decide)) (hf.1 _ (by omega))
/-- the class has found a fault: its kind, its place -/
def FlC (I : Im) (t : Nat) (r : Nat × Nat) : Prop := I t 7 = nI r.1 ∧ I t 15 = nI r.2
theorem c_fail {d t u n p : Nat} {G : Gm} {I : Im} (hL : TpL G t u) (h5 : I t 5 = nI p) : ∃ I', run d mX8_fail [.ref t, .int (nI n)] G I = some (some (.int (nI 0)), G, I') ∧ FlC I' t (n, p) ∧ FQ t I I' := by
  obtain ⟨l1, -⟩ := hL
  have := True.intro
  refine ⟨s2 (s2 I t 7 (nI n)) t 15 (nI p), ?_, ⟨by rw [s2_o (by decide), s2_s], s2_s⟩, ⟨fun c hc => by rw [s2_ne hc, s2_ne hc], fun j a b c d e f => by rw [s2_o f, s2_o e]⟩⟩
  simp (disch := first | assumption | (simp (disch := omega) only [cK_some, ofR_some, ofR_none, Option.toList_some, Option.toList_none, List.cons_append, List.nil_append, isL_i, isL_r, isL_u, isL_2, cs_0, cs_i, cs_r, cs_l, cs_ii, cs_ir, cs_ri, cs_rr, cs_iir, cs_irr, cs_iii, cs_iri, cs_rii, cs_rir, cs_rri, cs_rrr, cs_iiii, cs_iiir, cs_iiri, cs_iirr, cs_irii, cs_irir, cs_irri, cs_irrr, cs_riii, cs_riir, cs_riri, cs_rirr, cs_rrii, cs_rrir, cs_rrri, cs_rrrr, l1, inb_n, bq4, bq5, n100, not_false_eq_true, isB_0, isB_1, nI_clamp, nI_nneg, Nat.zero_add, Nat.le_refl]; done) | omega | (simp (disch := omega) only [cK_some, ofR_some, ofR_none, Option.toList_some, Option.toList_none, List.cons_append, List.nil_append, isL_i, isL_r, isL_u, isL_2, cs_0, cs_i, cs_r, cs_l, cs_ii, cs_ir, cs_ri, cs_rr, cs_iir, cs_irr, cs_iii, cs_iri, cs_rii, cs_rir, cs_rri, cs_rrr, cs_iiii, cs_iiir, cs_iiri, cs_iirr, cs_irii, cs_irir, cs_irri, cs_irrr, cs_riii, cs_riir, cs_riri, cs_rirr, cs_rrii, cs_rrir, cs_rrri, cs_rrrr, l1, inb_n, bq4, bq5, n100, not_false_eq_true, isB_0, isB_1, nI_clamp, nI_nneg, Nat.zero_add, Nat.le_refl]; omega)) only [xX8_fail_0, xX8_fail_1, xX8_fail_2, xX8_fail_5, xX8_fail_6, xX8_fail_7, xX8_fail_10, xX8_fail_13, xX8_fail_14, cK_some, ofR_some, ofR_none, Option.toList_some, Option.toList_none, List.cons_append, List.nil_append, isL_i, isL_r, isL_u, isL_2, cs_0, cs_i, cs_r, cs_l, cs_ii, cs_ir, cs_ri, cs_rr, cs_iir, cs_irr, cs_iii, cs_iri, cs_rii, cs_rir, cs_rri, cs_rrr, cs_iiii, cs_iiir, cs_iiri, cs_iirr, cs_irii, cs_irir, cs_irri, cs_irrr, cs_riii, cs_riir, cs_riri, cs_rirr, cs_rrii, cs_rrir, cs_rrri, cs_rrrr, rX8_fail, h5, Nat.add_sub_cancel, Nat.add_zero, Nat.zero_add, nI_lt, nI_nlt, nI_le, nI_ge, nI_pos, pk_sub, nI_clamp, s2_ne, s2_o, s2_s, nI_add, inb_n, nI_nn, zq0, zq1, ↓reduceIte]
abbrev Er : Type := Nat × Nat
/-- a word is taken: where its token ends; or the fault -/
def pW (B : Nat → Nat) (e a : Nat) (w : List Nat) : Er ⊕ Nat := if wd B (tk B e a) w = true then .inr (kE (tk B e a)) else .inl (1, kS (tk B e a))
def pC (B : Nat → Nat) (e a c : Nat) : Er ⊕ Nat := if sg B (tk B e a) c = true then .inr (kE (tk B e a)) else .inl (1, kS (tk B e a))
/-- a whole is taken: it, where its token ends -/
def pN (B : Nat → Nat) (e a lo hi : Nat) : Er ⊕ (Nat × Nat) := if kK (tk B e a) = 2 then (if lo ≤ kV (tk B e a) ∧ kV (tk B e a) ≤ hi then .inr (kV (tk B e a), kE (tk B e a)) else .inl (4, kS (tk B e a))) else .inl (1, kS (tk B e a))
/-- the class' tape between two tokens, at a -/
def CpV (G : Gm) (I : Im) (t u : Nat) (B : Nat → Nat) (e a : Nat) : Prop := TpL G t u ∧ TxV I t B e ∧ I t 3 = nI a ∧ a ≤ e
/-- the class' answer: went on to a', or a fault -/
def AnC (I0 I : Im) (t : Nat) (b : Bool) (r : Er ⊕ Nat) : Prop := match r with
  | .inl x => b = false ∧ FlC I t x
  | .inr a => b = true ∧ I t 3 = nI a ∧ I t 7 = I0 t 7
theorem c_takeWord {d t u e a x : Nat} {w : List Nat} {B : Nat → Nat} {G : Gm} {I : Im} (H : CpV G I t u B e a) (hw : StV x w) :
    ∃ b I', run (d + 3) mX8_takeWord [.ref t, .ref x] G I = some (some (.int (bI b)), G, I') ∧ AnC I I' t b (pW B e a w) ∧ FQ t I I' := by
  obtain ⟨hL, hX, ha, hae⟩ := H
  obtain ⟨y, g1, g2, g3⟩ := c_scan (d := d) hL hX ha hae
  have g4 := c_isWord (d := d + 2) hL (hX.fs g3) g2 hw
  have hL' := hL
  obtain ⟨l1, -⟩ := hL'
  have := True.intro
  unfold pW
  cases hb : wd B (tk B e a) w with
  | true =>
    rw [hb] at g4
    have g4' : run (d + 2) mX8_isWord [.ref t, .ref x] G y = some (some (.int (nI 1)), G, y) := g4
    refine ⟨true, y, ?_, ?_, g3.q⟩
    · simp (disch := first | assumption | (simp (disch := omega) only [cK_some, ofR_some, ofR_none, Option.toList_some, Option.toList_none, List.cons_append, List.nil_append, isL_i, isL_r, isL_u, isL_2, cs_0, cs_i, cs_r, cs_l, cs_ii, cs_ir, cs_ri, cs_rr, cs_iir, cs_irr, cs_iii, cs_iri, cs_rii, cs_rir, cs_rri, cs_rrr, cs_iiii, cs_iiir, cs_iiri, cs_iirr, cs_irii, cs_irir, cs_irri, cs_irrr, cs_riii, cs_riir, cs_riri, cs_rirr, cs_rrii, cs_rrir, cs_rrri, cs_rrrr, l1, inb_n, bq4, bq5, n100, not_false_eq_true, isB_0, isB_1, nI_clamp, nI_nneg, Nat.zero_add, Nat.le_refl]; done) | omega | (simp (disch := omega) only [cK_some, ofR_some, ofR_none, Option.toList_some, Option.toList_none, List.cons_append, List.nil_append, isL_i, isL_r, isL_u, isL_2, cs_0, cs_i, cs_r, cs_l, cs_ii, cs_ir, cs_ri, cs_rr, cs_iir, cs_irr, cs_iii, cs_iri, cs_rii, cs_rir, cs_rri, cs_rrr, cs_iiii, cs_iiir, cs_iiri, cs_iirr, cs_irii, cs_irir, cs_irri, cs_irrr, cs_riii, cs_riir, cs_riri, cs_rirr, cs_rrii, cs_rrir, cs_rrri, cs_rrrr, l1, inb_n, bq4, bq5, n100, not_false_eq_true, isB_0, isB_1, nI_clamp, nI_nneg, Nat.zero_add, Nat.le_refl]; omega)) only [xX8_takeWord_0, xX8_takeWord_1, xX8_takeWord_4, xX8_takeWord_5, xX8_takeWord_6, xX8_takeWord_9, xX8_takeWord_12, xX8_takeWord_13, xX8_takeWord_16, xX8_takeWord_17, xX8_takeWord_18, xX8_takeWord_21, cK_some, ofR_some, ofR_none, Option.toList_some, Option.toList_none, List.cons_append, List.nil_append, isL_i, isL_r, isL_u, isL_2, cs_0, cs_i, cs_r, cs_l, cs_ii, cs_ir, cs_ri, cs_rr, cs_iir, cs_irr, cs_iii, cs_iri, cs_rii, cs_rir, cs_rri, cs_rrr, cs_iiii, cs_iiir, cs_iiri, cs_iirr, cs_irii, cs_irir, cs_irri, cs_irrr, cs_riii, cs_riir, cs_riri, cs_rirr, cs_rrii, cs_rrir, cs_rrri, cs_rrrr, rX8_takeWord, g1, g4', bI, Nat.add_sub_cancel, Nat.add_zero, Nat.zero_add, nI_lt, nI_nlt, nI_le, nI_ge, nI_pos, pk_sub, nI_clamp, s2_ne, s2_o, s2_s, nI_add, inb_n, nI_nn, zq0, zq1, ↓reduceIte]
    · rw [if_pos rfl]; exact ⟨rfl, g2.1, g3.2 7 (by decide) (by decide) (by decide) (by decide)⟩
  | false =>
    rw [hb] at g4
    have g4' : run (d + 2) mX8_isWord [.ref t, .ref x] G y = some (some (.int (nI 0)), G, y) := g4
    obtain ⟨z, f1, f2, f3⟩ := c_fail (d := d + 2) (n := 1) hL g2.2.1
    refine ⟨false, z, ?_, ?_, g3.q.tr f3⟩
    · simp (disch := first | assumption | (simp (disch := omega) only [cK_some, ofR_some, ofR_none, Option.toList_some, Option.toList_none, List.cons_append, List.nil_append, isL_i, isL_r, isL_u, isL_2, cs_0, cs_i, cs_r, cs_l, cs_ii, cs_ir, cs_ri, cs_rr, cs_iir, cs_irr, cs_iii, cs_iri, cs_rii, cs_rir, cs_rri, cs_rrr, cs_iiii, cs_iiir, cs_iiri, cs_iirr, cs_irii, cs_irir, cs_irri, cs_irrr, cs_riii, cs_riir, cs_riri, cs_rirr, cs_rrii, cs_rrir, cs_rrri, cs_rrrr, l1, inb_n, bq4, bq5, n100, not_false_eq_true, isB_0, isB_1, nI_clamp, nI_nneg, Nat.zero_add, Nat.le_refl]; done) | omega | (simp (disch := omega) only [cK_some, ofR_some, ofR_none, Option.toList_some, Option.toList_none, List.cons_append, List.nil_append, isL_i, isL_r, isL_u, isL_2, cs_0, cs_i, cs_r, cs_l, cs_ii, cs_ir, cs_ri, cs_rr, cs_iir, cs_irr, cs_iii, cs_iri, cs_rii, cs_rir, cs_rri, cs_rrr, cs_iiii, cs_iiir, cs_iiri, cs_iirr, cs_irii, cs_irir, cs_irri, cs_irrr, cs_riii, cs_riir, cs_riri, cs_rirr, cs_rrii, cs_rrir, cs_rrri, cs_rrrr, l1, inb_n, bq4, bq5, n100, not_false_eq_true, isB_0, isB_1, nI_clamp, nI_nneg, Nat.zero_add, Nat.le_refl]; omega)) only [xX8_takeWord_0, xX8_takeWord_1, xX8_takeWord_4, xX8_takeWord_5, xX8_takeWord_6, xX8_takeWord_9, xX8_takeWord_12, xX8_takeWord_13, xX8_takeWord_16, xX8_takeWord_17, xX8_takeWord_18, xX8_takeWord_21, cK_some, ofR_some, ofR_none, Option.toList_some, Option.toList_none, List.cons_append, List.nil_append, isL_i, isL_r, isL_u, isL_2, cs_0, cs_i, cs_r, cs_l, cs_ii, cs_ir, cs_ri, cs_rr, cs_iir, cs_irr, cs_iii, cs_iri, cs_rii, cs_rir, cs_rri, cs_rrr, cs_iiii, cs_iiir, cs_iiri, cs_iirr, cs_irii, cs_irir, cs_irri, cs_irrr, cs_riii, cs_riir, cs_riri, cs_rirr, cs_rrii, cs_rrir, cs_rrri, cs_rrrr, rX8_takeWord, g1, g4', f1, bI, Bool.false_eq_true, Nat.add_sub_cancel, Nat.add_zero, Nat.zero_add, nI_lt, nI_nlt, nI_le, nI_ge, nI_pos, pk_sub, nI_clamp, s2_ne, s2_o, s2_s, nI_add, inb_n, nI_nn, zq0, zq1, ↓reduceIte]
    · rw [if_neg (by decide)]; exact ⟨rfl, f2⟩
theorem c_takeSign {d t u e a c : Nat} {B : Nat → Nat} {G : Gm} {I : Im} (H : CpV G I t u B e a) (hc : c < 128) :
    ∃ b I', run (d + 3) mX8_takeSign [.ref t, .int (nI c)] G I = some (some (.int (bI b)), G, I') ∧ AnC I I' t b (pC B e a c) ∧ FQ t I I' := by
  obtain ⟨hL, hX, ha, hae⟩ := H
  obtain ⟨y, g1, g2, g3⟩ := c_scan (d := d) hL hX ha hae
  have g4 := c_isSign (d := d + 2) hL (hX.fs g3) g2 hc
  have hL' := hL
  obtain ⟨l1, -⟩ := hL'
  have := True.intro
  unfold pC
  cases hb : sg B (tk B e a) c with
  | true =>
    rw [hb] at g4
    have g4' : run (d + 2) mX8_isSign [.ref t, .int (nI c)] G y = some (some (.int (nI 1)), G, y) := g4
    refine ⟨true, y, ?_, ?_, g3.q⟩
    · simp (disch := first | assumption | (simp (disch := omega) only [cK_some, ofR_some, ofR_none, Option.toList_some, Option.toList_none, List.cons_append, List.nil_append, isL_i, isL_r, isL_u, isL_2, cs_0, cs_i, cs_r, cs_l, cs_ii, cs_ir, cs_ri, cs_rr, cs_iir, cs_irr, cs_iii, cs_iri, cs_rii, cs_rir, cs_rri, cs_rrr, cs_iiii, cs_iiir, cs_iiri, cs_iirr, cs_irii, cs_irir, cs_irri, cs_irrr, cs_riii, cs_riir, cs_riri, cs_rirr, cs_rrii, cs_rrir, cs_rrri, cs_rrrr, l1, inb_n, bq4, bq5, n100, not_false_eq_true, isB_0, isB_1, nI_clamp, nI_nneg, Nat.zero_add, Nat.le_refl]; done) | omega | (simp (disch := omega) only [cK_some, ofR_some, ofR_none, Option.toList_some, Option.toList_none, List.cons_append, List.nil_append, isL_i, isL_r, isL_u, isL_2, cs_0, cs_i, cs_r, cs_l, cs_ii, cs_ir, cs_ri, cs_rr, cs_iir, cs_irr, cs_iii, cs_iri, cs_rii, cs_rir, cs_rri, cs_rrr, cs_iiii, cs_iiir, cs_iiri, cs_iirr, cs_irii, cs_irir, cs_irri, cs_irrr, cs_riii, cs_riir, cs_riri, cs_rirr, cs_rrii, cs_rrir, cs_rrri, cs_rrrr, l1, inb_n, bq4, bq5, n100, not_false_eq_true, isB_0, isB_1, nI_clamp, nI_nneg, Nat.zero_add, Nat.le_refl]; omega)) only [xX8_takeSign_0, xX8_takeSign_1, xX8_takeSign_4, xX8_takeSign_5, xX8_takeSign_6, xX8_takeSign_9, xX8_takeSign_12, xX8_takeSign_13, xX8_takeSign_16, xX8_takeSign_17, xX8_takeSign_18, xX8_takeSign_21, cK_some, ofR_some, ofR_none, Option.toList_some, Option.toList_none, List.cons_append, List.nil_append, isL_i, isL_r, isL_u, isL_2, cs_0, cs_i, cs_r, cs_l, cs_ii, cs_ir, cs_ri, cs_rr, cs_iir, cs_irr, cs_iii, cs_iri, cs_rii, cs_rir, cs_rri, cs_rrr, cs_iiii, cs_iiir, cs_iiri, cs_iirr, cs_irii, cs_irir, cs_irri, cs_irrr, cs_riii, cs_riir, cs_riri, cs_rirr, cs_rrii, cs_rrir, cs_rrri, cs_rrrr, rX8_takeSign, g1, g4', bI, Nat.add_sub_cancel, Nat.add_zero, Nat.zero_add, nI_lt, nI_nlt, nI_le, nI_ge, nI_pos, pk_sub, nI_clamp, s2_ne, s2_o, s2_s, nI_add, inb_n, nI_nn, zq0, zq1, ↓reduceIte]
    · rw [if_pos rfl]; exact ⟨rfl, g2.1, g3.2 7 (by decide) (by decide) (by decide) (by decide)⟩
  | false =>
    rw [hb] at g4
    have g4' : run (d + 2) mX8_isSign [.ref t, .int (nI c)] G y = some (some (.int (nI 0)), G, y) := g4
    obtain ⟨z, f1, f2, f3⟩ := c_fail (d := d + 2) (n := 1) hL g2.2.1
    refine ⟨false, z, ?_, ?_, g3.q.tr f3⟩
    · simp (disch := first | assumption | (simp (disch := omega) only [cK_some, ofR_some, ofR_none, Option.toList_some, Option.toList_none, List.cons_append, List.nil_append, isL_i, isL_r, isL_u, isL_2, cs_0, cs_i, cs_r, cs_l, cs_ii, cs_ir, cs_ri, cs_rr, cs_iir, cs_irr, cs_iii, cs_iri, cs_rii, cs_rir, cs_rri, cs_rrr, cs_iiii, cs_iiir, cs_iiri, cs_iirr, cs_irii, cs_irir, cs_irri, cs_irrr, cs_riii, cs_riir, cs_riri, cs_rirr, cs_rrii, cs_rrir, cs_rrri, cs_rrrr, l1, inb_n, bq4, bq5, n100, not_false_eq_true, isB_0, isB_1, nI_clamp, nI_nneg, Nat.zero_add, Nat.le_refl]; done) | omega | (simp (disch := omega) only [cK_some, ofR_some, ofR_none, Option.toList_some, Option.toList_none, List.cons_append, List.nil_append, isL_i, isL_r, isL_u, isL_2, cs_0, cs_i, cs_r, cs_l, cs_ii, cs_ir, cs_ri, cs_rr, cs_iir, cs_irr, cs_iii, cs_iri, cs_rii, cs_rir, cs_rri, cs_rrr, cs_iiii, cs_iiir, cs_iiri, cs_iirr, cs_irii, cs_irir, cs_irri, cs_irrr, cs_riii, cs_riir, cs_riri, cs_rirr, cs_rrii, cs_rrir, cs_rrri, cs_rrrr, l1, inb_n, bq4, bq5, n100, not_false_eq_true, isB_0, isB_1, nI_clamp, nI_nneg, Nat.zero_add, Nat.le_refl]; omega)) only [xX8_takeSign_0, xX8_takeSign_1, xX8_takeSign_4, xX8_takeSign_5, xX8_takeSign_6, xX8_takeSign_9, xX8_takeSign_12, xX8_takeSign_13, xX8_takeSign_16, xX8_takeSign_17, xX8_takeSign_18, xX8_takeSign_21, cK_some, ofR_some, ofR_none, Option.toList_some, Option.toList_none, List.cons_append, List.nil_append, isL_i, isL_r, isL_u, isL_2, cs_0, cs_i, cs_r, cs_l, cs_ii, cs_ir, cs_ri, cs_rr, cs_iir, cs_irr, cs_iii, cs_iri, cs_rii, cs_rir, cs_rri, cs_rrr, cs_iiii, cs_iiir, cs_iiri, cs_iirr, cs_irii, cs_irir, cs_irri, cs_irrr, cs_riii, cs_riir, cs_riri, cs_rirr, cs_rrii, cs_rrir, cs_rrri, cs_rrrr, rX8_takeSign, g1, g4', f1, bI, Bool.false_eq_true, Nat.add_sub_cancel, Nat.add_zero, Nat.zero_add, nI_lt, nI_nlt, nI_le, nI_ge, nI_pos, pk_sub, nI_clamp, s2_ne, s2_o, s2_s, nI_add, inb_n, nI_nn, zq0, zq1, ↓reduceIte]
    · rw [if_neg (by decide)]; exact ⟨rfl, f2⟩
def AnV (I0 I : Im) (t : Nat) (b : Bool) (s : Nat) (r : Er ⊕ (Nat × Nat)) : Prop := match r with
  | .inl x => b = false ∧ FlC I t x
  | .inr v => b = true ∧ I t 3 = nI v.2 ∧ I t 6 = nI v.1 ∧ I t 5 = nI s ∧ I t 7 = I0 t 7
theorem c_takeWhole {d t u e a lo hi : Nat} {B : Nat → Nat} {G : Gm} {I : Im} (H : CpV G I t u B e a) (hlo : lo < 1000) (hhi : hi < 1000) :
    ∃ b I', run (d + 3) mX8_takeWhole [.ref t, .int (nI lo), .int (nI hi)] G I = some (some (.int (bI b)), G, I') ∧ AnV I I' t b (kS (tk B e a)) (pN B e a lo hi) ∧ FQ t I I' := by
  obtain ⟨hL, hX, ha, hae⟩ := H
  obtain ⟨y, g1, g2, g3⟩ := c_scan (d := d) hL hX ha hae
  have hL' := hL
  obtain ⟨l1, -⟩ := hL'
  obtain ⟨k1, k2, k3, k4⟩ := g2
  have hk := tk_k4 (B := B) (e := e) (p := a)
  have hv := tk_v (B := B) (e := e) (a := a)
  have := True.intro
  unfold pN
  by_cases c1 : kK (tk B e a) = 2
  · rw [if_pos c1]
    have c1' : (nI (kK (tk B e a)) = nI 2) = True := eq_true (by rw [c1])
    by_cases c2 : lo ≤ kV (tk B e a)
    · have c2' : (nI (kV (tk B e a)) < nI lo) = False := eq_false (nI_nlt c2 (by omega))
      by_cases c3 : kV (tk B e a) ≤ hi
      · have c3' : (nI (kV (tk B e a)) ≤ nI hi) = True := eq_true (nI_le c3 (by omega))
        rw [if_pos ⟨c2, c3⟩]
        refine ⟨true, y, ?_, ⟨rfl, k1, k4, k2, g3.2 7 (by decide) (by decide) (by decide) (by decide)⟩, g3.q⟩
        simp (disch := first | assumption | (simp (disch := omega) only [cK_some, ofR_some, ofR_none, Option.toList_some, Option.toList_none, List.cons_append, List.nil_append, isL_i, isL_r, isL_u, isL_2, cs_0, cs_i, cs_r, cs_l, cs_ii, cs_ir, cs_ri, cs_rr, cs_iir, cs_irr, cs_iii, cs_iri, cs_rii, cs_rir, cs_rri, cs_rrr, cs_iiii, cs_iiir, cs_iiri, cs_iirr, cs_irii, cs_irir, cs_irri, cs_irrr, cs_riii, cs_riir, cs_riri, cs_rirr, cs_rrii, cs_rrir, cs_rrri, cs_rrrr, l1, inb_n, bq4, bq5, n100, not_false_eq_true, isB_0, isB_1, nI_clamp, nI_nneg, Nat.zero_add, Nat.le_refl]; done) | omega | (simp (disch := omega) only [cK_some, ofR_some, ofR_none, Option.toList_some, Option.toList_none, List.cons_append, List.nil_append, isL_i, isL_r, isL_u, isL_2, cs_0, cs_i, cs_r, cs_l, cs_ii, cs_ir, cs_ri, cs_rr, cs_iir, cs_irr, cs_iii, cs_iri, cs_rii, cs_rir, cs_rri, cs_rrr, cs_iiii, cs_iiir, cs_iiri, cs_iirr, cs_irii, cs_irir, cs_irri, cs_irrr, cs_riii, cs_riir, cs_riri, cs_rirr, cs_rrii, cs_rrir, cs_rrri, cs_rrrr, l1, inb_n, bq4, bq5, n100, not_false_eq_true, isB_0, isB_1, nI_clamp, nI_nneg, Nat.zero_add, Nat.le_refl]; omega)) only [xX8_takeWhole_0, xX8_takeWhole_1, xX8_takeWhole_4, xX8_takeWhole_5, xX8_takeWhole_8, xX8_takeWhole_9, xX8_takeWhole_12, xX8_takeWhole_13, xX8_takeWhole_14, xX8_takeWhole_17, xX8_takeWhole_18, xX8_takeWhole_19, xX8_takeWhole_22, xX8_takeWhole_23, xX8_takeWhole_26, xX8_takeWhole_27, xX8_takeWhole_30, xX8_takeWhole_31, xX8_takeWhole_34, xX8_takeWhole_35, xX8_takeWhole_36, xX8_takeWhole_39, xX8_takeWhole_42, xX8_takeWhole_43, cK_some, ofR_some, ofR_none, Option.toList_some, Option.toList_none, List.cons_append, List.nil_append, isL_i, isL_r, isL_u, isL_2, cs_0, cs_i, cs_r, cs_l, cs_ii, cs_ir, cs_ri, cs_rr, cs_iir, cs_irr, cs_iii, cs_iri, cs_rii, cs_rir, cs_rri, cs_rrr, cs_iiii, cs_iiir, cs_iiri, cs_iirr, cs_irii, cs_irir, cs_irri, cs_irrr, cs_riii, cs_riir, cs_riri, cs_rirr, cs_rrii, cs_rrir, cs_rrri, cs_rrrr, rX8_takeWhole, g1, k3, c1', k4, c2', c3', bI, Nat.add_sub_cancel, Nat.add_zero, Nat.zero_add, nI_lt, nI_nlt, nI_le, nI_ge, nI_pos, pk_sub, nI_clamp, s2_ne, s2_o, s2_s, nI_add, inb_n, nI_nn, zq0, zq1, ↓reduceIte]
      · have c3' : (nI (kV (tk B e a)) ≤ nI hi) = False := eq_false (nI_ge (by omega) (by omega))
        rw [if_neg (fun z => c3 z.2)]
        obtain ⟨z, f1, f2, f3⟩ := c_fail (d := d + 2) (n := 4) hL k2
        refine ⟨false, z, ?_, ⟨rfl, f2⟩, g3.q.tr f3⟩
        simp (disch := first | assumption | (simp (disch := omega) only [cK_some, ofR_some, ofR_none, Option.toList_some, Option.toList_none, List.cons_append, List.nil_append, isL_i, isL_r, isL_u, isL_2, cs_0, cs_i, cs_r, cs_l, cs_ii, cs_ir, cs_ri, cs_rr, cs_iir, cs_irr, cs_iii, cs_iri, cs_rii, cs_rir, cs_rri, cs_rrr, cs_iiii, cs_iiir, cs_iiri, cs_iirr, cs_irii, cs_irir, cs_irri, cs_irrr, cs_riii, cs_riir, cs_riri, cs_rirr, cs_rrii, cs_rrir, cs_rrri, cs_rrrr, l1, inb_n, bq4, bq5, n100, not_false_eq_true, isB_0, isB_1, nI_clamp, nI_nneg, Nat.zero_add, Nat.le_refl]; done) | omega | (simp (disch := omega) only [cK_some, ofR_some, ofR_none, Option.toList_some, Option.toList_none, List.cons_append, List.nil_append, isL_i, isL_r, isL_u, isL_2, cs_0, cs_i, cs_r, cs_l, cs_ii, cs_ir, cs_ri, cs_rr, cs_iir, cs_irr, cs_iii, cs_iri, cs_rii, cs_rir, cs_rri, cs_rrr, cs_iiii, cs_iiir, cs_iiri, cs_iirr, cs_irii, cs_irir, cs_irri, cs_irrr, cs_riii, cs_riir, cs_riri, cs_rirr, cs_rrii, cs_rrir, cs_rrri, cs_rrrr, l1, inb_n, bq4, bq5, n100, not_false_eq_true, isB_0, isB_1, nI_clamp, nI_nneg, Nat.zero_add, Nat.le_refl]; omega)) only [xX8_takeWhole_0, xX8_takeWhole_1, xX8_takeWhole_4, xX8_takeWhole_5, xX8_takeWhole_8, xX8_takeWhole_9, xX8_takeWhole_12, xX8_takeWhole_13, xX8_takeWhole_14, xX8_takeWhole_17, xX8_takeWhole_18, xX8_takeWhole_19, xX8_takeWhole_22, xX8_takeWhole_23, xX8_takeWhole_26, xX8_takeWhole_27, xX8_takeWhole_30, xX8_takeWhole_31, xX8_takeWhole_34, xX8_takeWhole_35, xX8_takeWhole_36, xX8_takeWhole_39, xX8_takeWhole_42, xX8_takeWhole_43, cK_some, ofR_some, ofR_none, Option.toList_some, Option.toList_none, List.cons_append, List.nil_append, isL_i, isL_r, isL_u, isL_2, cs_0, cs_i, cs_r, cs_l, cs_ii, cs_ir, cs_ri, cs_rr, cs_iir, cs_irr, cs_iii, cs_iri, cs_rii, cs_rir, cs_rri, cs_rrr, cs_iiii, cs_iiir, cs_iiri, cs_iirr, cs_irii, cs_irir, cs_irri, cs_irrr, cs_riii, cs_riir, cs_riri, cs_rirr, cs_rrii, cs_rrir, cs_rrri, cs_rrrr, rX8_takeWhole, g1, k3, c1', k4, c2', c3', f1, bI, Bool.false_eq_true, Nat.add_sub_cancel, Nat.add_zero, Nat.zero_add, nI_lt, nI_nlt, nI_le, nI_ge, nI_pos, pk_sub, nI_clamp, s2_ne, s2_o, s2_s, nI_add, inb_n, nI_nn, zq0, zq1, ↓reduceIte]
    · have c2' : (nI (kV (tk B e a)) < nI lo) = True := eq_true (nI_lt (by omega) (by omega))
      rw [if_neg (fun z => c2 z.1)]
      obtain ⟨z, f1, f2, f3⟩ := c_fail (d := d + 2) (n := 4) hL k2
      refine ⟨false, z, ?_, ⟨rfl, f2⟩, g3.q.tr f3⟩
      simp (disch := first | assumption | (simp (disch := omega) only [cK_some, ofR_some, ofR_none, Option.toList_some, Option.toList_none, List.cons_append, List.nil_append, isL_i, isL_r, isL_u, isL_2, cs_0, cs_i, cs_r, cs_l, cs_ii, cs_ir, cs_ri, cs_rr, cs_iir, cs_irr, cs_iii, cs_iri, cs_rii, cs_rir, cs_rri, cs_rrr, cs_iiii, cs_iiir, cs_iiri, cs_iirr, cs_irii, cs_irir, cs_irri, cs_irrr, cs_riii, cs_riir, cs_riri, cs_rirr, cs_rrii, cs_rrir, cs_rrri, cs_rrrr, l1, inb_n, bq4, bq5, n100, not_false_eq_true, isB_0, isB_1, nI_clamp, nI_nneg, Nat.zero_add, Nat.le_refl]; done) | omega | (simp (disch := omega) only [cK_some, ofR_some, ofR_none, Option.toList_some, Option.toList_none, List.cons_append, List.nil_append, isL_i, isL_r, isL_u, isL_2, cs_0, cs_i, cs_r, cs_l, cs_ii, cs_ir, cs_ri, cs_rr, cs_iir, cs_irr, cs_iii, cs_iri, cs_rii, cs_rir, cs_rri, cs_rrr, cs_iiii, cs_iiir, cs_iiri, cs_iirr, cs_irii, cs_irir, cs_irri, cs_irrr, cs_riii, cs_riir, cs_riri, cs_rirr, cs_rrii, cs_rrir, cs_rrri, cs_rrrr, l1, inb_n, bq4, bq5, n100, not_false_eq_true, isB_0, isB_1, nI_clamp, nI_nneg, Nat.zero_add, Nat.le_refl]; omega)) only [xX8_takeWhole_0, xX8_takeWhole_1, xX8_takeWhole_4, xX8_takeWhole_5, xX8_takeWhole_8, xX8_takeWhole_9, xX8_takeWhole_12, xX8_takeWhole_13, xX8_takeWhole_14, xX8_takeWhole_17, xX8_takeWhole_18, xX8_takeWhole_19, xX8_takeWhole_22, xX8_takeWhole_23, xX8_takeWhole_26, xX8_takeWhole_27, xX8_takeWhole_30, xX8_takeWhole_31, xX8_takeWhole_34, xX8_takeWhole_35, xX8_takeWhole_36, xX8_takeWhole_39, xX8_takeWhole_42, xX8_takeWhole_43, cK_some, ofR_some, ofR_none, Option.toList_some, Option.toList_none, List.cons_append, List.nil_append, isL_i, isL_r, isL_u, isL_2, cs_0, cs_i, cs_r, cs_l, cs_ii, cs_ir, cs_ri, cs_rr, cs_iir, cs_irr, cs_iii, cs_iri, cs_rii, cs_rir, cs_rri, cs_rrr, cs_iiii, cs_iiir, cs_iiri, cs_iirr, cs_irii, cs_irir, cs_irri, cs_irrr, cs_riii, cs_riir, cs_riri, cs_rirr, cs_rrii, cs_rrir, cs_rrri, cs_rrrr, rX8_takeWhole, g1, k3, c1', k4, c2', f1, bI, Bool.false_eq_true, Nat.add_sub_cancel, Nat.add_zero, Nat.zero_add, nI_lt, nI_nlt, nI_le, nI_ge, nI_pos, pk_sub, nI_clamp, s2_ne, s2_o, s2_s, nI_add, inb_n, nI_nn, zq0, zq1, ↓reduceIte]
  · rw [if_neg c1]
    have c1' : (nI (kK (tk B e a)) = nI 2) = False := eq_false (fun z => c1 ((nI_eq (by omega) (by omega)).mp z))
    obtain ⟨z, f1, f2, f3⟩ := c_fail (d := d + 2) (n := 1) hL k2
    refine ⟨false, z, ?_, ⟨rfl, f2⟩, g3.q.tr f3⟩
    simp (disch := first | assumption | (simp (disch := omega) only [cK_some, ofR_some, ofR_none, Option.toList_some, Option.toList_none, List.cons_append, List.nil_append, isL_i, isL_r, isL_u, isL_2, cs_0, cs_i, cs_r, cs_l, cs_ii, cs_ir, cs_ri, cs_rr, cs_iir, cs_irr, cs_iii, cs_iri, cs_rii, cs_rir, cs_rri, cs_rrr, cs_iiii, cs_iiir, cs_iiri, cs_iirr, cs_irii, cs_irir, cs_irri, cs_irrr, cs_riii, cs_riir, cs_riri, cs_rirr, cs_rrii, cs_rrir, cs_rrri, cs_rrrr, l1, inb_n, bq4, bq5, n100, not_false_eq_true, isB_0, isB_1, nI_clamp, nI_nneg, Nat.zero_add, Nat.le_refl]; done) | omega | (simp (disch := omega) only [cK_some, ofR_some, ofR_none, Option.toList_some, Option.toList_none, List.cons_append, List.nil_append, isL_i, isL_r, isL_u, isL_2, cs_0, cs_i, cs_r, cs_l, cs_ii, cs_ir, cs_ri, cs_rr, cs_iir, cs_irr, cs_iii, cs_iri, cs_rii, cs_rir, cs_rri, cs_rrr, cs_iiii, cs_iiir, cs_iiri, cs_iirr, cs_irii, cs_irir, cs_irri, cs_irrr, cs_riii, cs_riir, cs_riri, cs_rirr, cs_rrii, cs_rrir, cs_rrri, cs_rrrr, l1, inb_n, bq4, bq5, n100, not_false_eq_true, isB_0, isB_1, nI_clamp, nI_nneg, Nat.zero_add, Nat.le_refl]; omega)) only [xX8_takeWhole_0, xX8_takeWhole_1, xX8_takeWhole_4, xX8_takeWhole_5, xX8_takeWhole_8, xX8_takeWhole_9, xX8_takeWhole_12, xX8_takeWhole_13, xX8_takeWhole_14, xX8_takeWhole_17, xX8_takeWhole_18, xX8_takeWhole_19, xX8_takeWhole_22, xX8_takeWhole_23, xX8_takeWhole_26, xX8_takeWhole_27, xX8_takeWhole_30, xX8_takeWhole_31, xX8_takeWhole_34, xX8_takeWhole_35, xX8_takeWhole_36, xX8_takeWhole_39, xX8_takeWhole_42, xX8_takeWhole_43, cK_some, ofR_some, ofR_none, Option.toList_some, Option.toList_none, List.cons_append, List.nil_append, isL_i, isL_r, isL_u, isL_2, cs_0, cs_i, cs_r, cs_l, cs_ii, cs_ir, cs_ri, cs_rr, cs_iir, cs_irr, cs_iii, cs_iri, cs_rii, cs_rir, cs_rri, cs_rrr, cs_iiii, cs_iiir, cs_iiri, cs_iirr, cs_irii, cs_irir, cs_irri, cs_irrr, cs_riii, cs_riir, cs_riri, cs_rirr, cs_rrii, cs_rrir, cs_rrri, cs_rrrr, rX8_takeWhole, g1, k3, c1', f1, bI, Bool.false_eq_true, Nat.add_sub_cancel, Nat.add_zero, Nat.zero_add, nI_lt, nI_nlt, nI_le, nI_ge, nI_pos, pk_sub, nI_clamp, s2_ne, s2_o, s2_s, nI_add, inb_n, nI_nn, zq0, zq1, ↓reduceIte]
