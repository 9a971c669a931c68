/-! the model reads a bather -/
def kdS (B : Nat → Nat) (e a : Nat) : Er ⊕ Nat := match kdP B (tk B e a) with
  | none => .inl (1, kS (tk B e a))
  | some _ => .inr a
def kvE (B : Nat → Nat) (e : Nat) (y : Er ⊕ Nat) : Int32 := match y with
  | .inl _ => -1
  | .inr a => encM (kdP B (tk B e a))
def ba2 (B : Nat → Nat) (e : Nat) (r : RS) (y0 : Er ⊕ Nat) : Er ⊕ Nat := bnd (tw1 B e r y0) (kdS B e)
def ba3 (B : Nat → Nat) (e : Nat) (r : RS) (y0 : Er ⊕ Nat) : Er ⊕ Nat := adv B e (ba2 B e r y0)
def ba4 (B : Nat → Nat) (e : Nat) (r : RS) (y0 : Er ⊕ Nat) : Er ⊕ (Nat × Nat) := ptP B e 16 0 99 (ba3 B e r y0)
def ba5 (B : Nat → Nat) (e : Nat) (r : RS) (y0 : Er ⊕ Nat) : Er ⊕ (Nat × Nat) := ptP B e 21 0 9 (stN (ba4 B e r y0))
def ba6 (B : Nat → Nat) (e : Nat) (r : RS) (y0 : Er ⊕ Nat) : Er ⊕ (Nat × Nat) := ptP B e 22 0 99 (stN (ba5 B e r y0))
def ba7 (B : Nat → Nat) (e : Nat) (r : RS) (y0 : Er ⊕ Nat) : Er ⊕ (Nat × Nat) := ptP B e 23 1 9 (stN (ba6 B e r y0))
theorem kdP_1 {B : Nat → Nat} {k : Tk} {v : Nat} (h : kdP B k = some v) : kK k = 1 ∧ v ≤ 3 := by
  unfold kdP at h
  by_cases c1 : wd B k (wN 17) = true
  · rw [if_pos c1] at h; cases h; exact ⟨wd_1 c1, by omega⟩
  · rw [if_neg c1] at h
    by_cases c2 : wd B k (wN 18) = true
    · rw [if_pos c2] at h; cases h; exact ⟨wd_1 c2, by omega⟩
    · rw [if_neg c2] at h
      by_cases c3 : wd B k (wN 19) = true
      · rw [if_pos c3] at h; cases h; exact ⟨wd_1 c3, by omega⟩
      · rw [if_neg c3] at h
        by_cases c4 : wd B k (wN 20) = true
        · rw [if_pos c4] at h; cases h; exact ⟨wd_1 c4, by omega⟩
        · rw [if_neg c4] at h; cases h
theorem ba_all {B : Nat → Nat} {e : Nat} {r : RS} {y0 : Er ⊕ Nat} : (∀ x, stN (ba7 B e r y0) = .inl x → bnd y0 (fun a => lnBather B e a r) = .inl x) ∧ (∀ b, stN (ba7 B e r y0) = .inr b → ∃ a0 a1 k, y0 = .inr a0 ∧ pF B e a0 (rNn r) (rNm r) = .inr a1 ∧ kvE B e (tw1 B e r y0) = nI k ∧
    bnd y0 (fun a => lnBather B e a r) = .inr (b, addBather r k (vlN 0 (ba4 B e r y0)) (vlN 0 (ba5 B e r y0)) (vlN 0 (ba6 B e r y0)) (vlN 1 (ba7 B e r y0)) (kS (tk B e a0), kE (tk B e a0), false, rN r))) := by
  unfold ba7 ba6 ba5 ba4 ba3 ba2 tw1 ptP stN adv lnBather
  cases y0 with
  | inl x => exact ⟨fun x h => by cases h; rfl, fun b h => by cases h⟩
  | inr a0 =>
    simp only [bnd_r]
    cases h1 : pF B e a0 (rNn r) (rNm r) with
    | inl x =>
      simp only [bnd_l, bnd_r]
      exact ⟨fun x h => by cases h; rfl, fun b h => by cases h⟩
    | inr a1 =>
      simp only [bnd_l, bnd_r, kvE]
      unfold kdS pK
      cases h2 : kdP B (tk B e a1) with
      | none =>
        simp only [bnd_l, bnd_r]
        exact ⟨fun x h => by cases h; rfl, fun b h => by cases h⟩
      | some k =>
        simp only [bnd_l, bnd_r]
        cases h3 : pW B e (kE (tk B e a1)) (wN 16) with
        | inl x =>
          simp only [bnd_l, bnd_r]
          exact ⟨fun x h => by cases h; rfl, fun b h => by cases h⟩
        | inr a2 =>
          simp only [bnd_l, bnd_r]
          cases h4 : pN B e a2 0 99 with
          | inl x =>
            simp only [bnd_l, bnd_r]
            exact ⟨fun x h => by cases h; rfl, fun b h => by cases h⟩
          | inr v1 =>
            simp only [bnd_l, bnd_r]
            cases h5 : pW B e v1.2 (wN 21) with
            | inl x =>
              simp only [bnd_l, bnd_r]
              exact ⟨fun x h => by cases h; rfl, fun b h => by cases h⟩
            | inr a3 =>
              simp only [bnd_l, bnd_r]
              cases h6 : pN B e a3 0 9 with
              | inl x =>
                simp only [bnd_l, bnd_r]
                exact ⟨fun x h => by cases h; rfl, fun b h => by cases h⟩
              | inr v2 =>
                simp only [bnd_l, bnd_r]
                cases h7 : pW B e v2.2 (wN 22) with
                | inl x =>
                  simp only [bnd_l, bnd_r]
                  exact ⟨fun x h => by cases h; rfl, fun b h => by cases h⟩
                | inr a4 =>
                  simp only [bnd_l, bnd_r]
                  cases h8 : pN B e a4 0 99 with
                  | inl x =>
                    simp only [bnd_l, bnd_r]
                    exact ⟨fun x h => by cases h; rfl, fun b h => by cases h⟩
                  | inr v3 =>
                    simp only [bnd_l, bnd_r]
                    cases h9 : pW B e v3.2 (wN 23) with
                    | inl x =>
                      simp only [bnd_l, bnd_r]
                      exact ⟨fun x h => by cases h; rfl, fun b h => by cases h⟩
                    | inr a5 =>
                      simp only [bnd_l, bnd_r]
                      cases h10 : pN B e a5 1 9 with
                      | inl x =>
                        simp only [bnd_l, bnd_r]
                        exact ⟨fun x h => by cases h; rfl, fun b h => by cases h⟩
                      | inr v4 =>
                        simp only [bnd_l, bnd_r, vlN]
                        exact ⟨fun x h => (by cases h), fun b h => by cases h; exact ⟨a0, a1, k, rfl, h1, rfl, rfl⟩⟩
theorem m_kind {d m R e : Nat} {B : Nat → Nat} {w : Int64} {w4 w5 w6 w7 w8 : Slot} {G : Gm} {I : Im} {y : Er ⊕ Nat} (hM : MR G m R) (H : MdS G I m B e y) :
    ∃ I', ex (d + 5) mX13_readBather 18 [.val (.ref m), .val (.long w), .second, .unset, w4, w5, w6, w7, w8] [] G I = ex (d + 5) mX13_readBather 86 [.val (.ref m), .val (.long w), .second, .val (.int (kvE B e y)), w4, w5, w6, w7, w8] [] G I' ∧ MdS G I' m B e (bnd y (kdS B e)) ∧ FM m I I' := by
  obtain ⟨l1, -⟩ := id hM
  obtain ⟨J, f1, f2, f3⟩ := m_flaw (d := d + 4) (n := 1) hM H
  have q1 := m_isWord (d := d + 3) hM H st42
  have q2 := m_isWord (d := d + 3) hM H st43
  have q3 := m_isWord (d := d + 3) hM H st44
  have q4 := m_isWord (d := d + 3) hM H st45
  have := True.intro
  have n0 : (nI 0 = -1) = False := by decide
  have n1 : (nI 1 = -1) = False := by decide
  have n2 : (nI 2 = -1) = False := by decide
  have n3 : (nI 3 = -1) = False := by decide
  cases y with
  | inl x =>
    try dsimp only at q1 q2 q3 q4
    rw [bI_0] at q1 q2 q3 q4
    refine ⟨J, ?_, f2, f3⟩
    show _ = ex (d + 5) mX13_readBather 86 [.val (.ref m), .val (.long w), .second, .val (.int (-1)), w4, w5, w6, w7, w8] [] G J
    simp (disch := first | assumption | (simp (disch := omega) only [cK_some, ofR_some, ofR_none, Option.toList_some, Option.toList_none, List.cons_append, List.nil_append, isL_i, isL_r, isL_u, isL_2, cs_0, cs_i, cs_r, cs_l, cs_ii, cs_ir, cs_ri, cs_rr, cs_iir, cs_irr, cs_iii, cs_iri, cs_rii, cs_rir, cs_rri, cs_rrr, cs_iiii, cs_iiir, cs_iiri, cs_iirr, cs_irii, cs_irir, cs_irri, cs_irrr, cs_riii, cs_riir, cs_riri, cs_rirr, cs_rrii, cs_rrir, cs_rrri, cs_rrrr, l1, inb_n, bq4, bq5, n100, not_false_eq_true, isB_0, isB_1, nI_clamp, nI_nneg, Nat.zero_add, Nat.le_refl]; done) | omega | (simp (disch := omega) only [cK_some, ofR_some, ofR_none, Option.toList_some, Option.toList_none, List.cons_append, List.nil_append, isL_i, isL_r, isL_u, isL_2, cs_0, cs_i, cs_r, cs_l, cs_ii, cs_ir, cs_ri, cs_rr, cs_iir, cs_irr, cs_iii, cs_iri, cs_rii, cs_rir, cs_rri, cs_rrr, cs_iiii, cs_iiir, cs_iiri, cs_iirr, cs_irii, cs_irir, cs_irri, cs_irrr, cs_riii, cs_riir, cs_riri, cs_rirr, cs_rrii, cs_rrir, cs_rrri, cs_rrrr, l1, inb_n, bq4, bq5, n100, not_false_eq_true, isB_0, isB_1, nI_clamp, nI_nneg, Nat.zero_add, Nat.le_refl]; omega)) only [xX13_readBather_18, xX13_readBather_19, xX13_readBather_22, xX13_readBather_25, xX13_readBather_28, xX13_readBather_29, xX13_readBather_32, xX13_readBather_33, xX13_readBather_36, xX13_readBather_39, xX13_readBather_42, xX13_readBather_43, xX13_readBather_46, xX13_readBather_47, xX13_readBather_50, xX13_readBather_53, xX13_readBather_56, xX13_readBather_57, xX13_readBather_60, xX13_readBather_61, xX13_readBather_64, xX13_readBather_67, xX13_readBather_70, xX13_readBather_71, xX13_readBather_74, xX13_readBather_75, xX13_readBather_76, xX13_readBather_77, xX13_readBather_78, xX13_readBather_81, xX13_readBather_82, xX13_readBather_83, cK_some, ofR_some, ofR_none, Option.toList_some, Option.toList_none, List.cons_append, List.nil_append, isL_i, isL_r, isL_u, isL_2, cs_0, cs_i, cs_r, cs_l, cs_ii, cs_ir, cs_ri, cs_rr, cs_iir, cs_irr, cs_iii, cs_iri, cs_rii, cs_rir, cs_rri, cs_rrr, cs_iiii, cs_iiir, cs_iiri, cs_iirr, cs_irii, cs_irir, cs_irri, cs_irrr, cs_riii, cs_riir, cs_riri, cs_rirr, cs_rrii, cs_rrir, cs_rrri, cs_rrrr, q1, q2, q3, q4, f1, Nat.add_sub_cancel, Nat.add_zero, Nat.zero_add, nI_lt, nI_nlt, nI_le, nI_ge, nI_pos, pk_sub, nI_clamp, s2_ne, s2_o, s2_s, nI_add, inb_n, nI_nn, zq0, zq1, ↓reduceIte]
  | inr a =>
    try dsimp only at q1 q2 q3 q4
    rw [bnd_r]
    unfold kdS kvE kdP
    try dsimp only
    cases b1 : wd B (tk B e a) (wN 17) with
    | true =>
      rw [b1, bI_1] at q1
      refine ⟨I, ?_, H, FM.rf⟩
      show _ = ex (d + 5) mX13_readBather 86 [.val (.ref m), .val (.long w), .second, .val (.int (nI 0)), w4, w5, w6, w7, w8] [] G I
      simp (disch := first | assumption | (simp (disch := omega) only [cK_some, ofR_some, ofR_none, Option.toList_some, Option.toList_none, List.cons_append, List.nil_append, isL_i, isL_r, isL_u, isL_2, cs_0, cs_i, cs_r, cs_l, cs_ii, cs_ir, cs_ri, cs_rr, cs_iir, cs_irr, cs_iii, cs_iri, cs_rii, cs_rir, cs_rri, cs_rrr, cs_iiii, cs_iiir, cs_iiri, cs_iirr, cs_irii, cs_irir, cs_irri, cs_irrr, cs_riii, cs_riir, cs_riri, cs_rirr, cs_rrii, cs_rrir, cs_rrri, cs_rrrr, l1, inb_n, bq4, bq5, n100, not_false_eq_true, isB_0, isB_1, nI_clamp, nI_nneg, Nat.zero_add, Nat.le_refl]; done) | omega | (simp (disch := omega) only [cK_some, ofR_some, ofR_none, Option.toList_some, Option.toList_none, List.cons_append, List.nil_append, isL_i, isL_r, isL_u, isL_2, cs_0, cs_i, cs_r, cs_l, cs_ii, cs_ir, cs_ri, cs_rr, cs_iir, cs_irr, cs_iii, cs_iri, cs_rii, cs_rir, cs_rri, cs_rrr, cs_iiii, cs_iiir, cs_iiri, cs_iirr, cs_irii, cs_irir, cs_irri, cs_irrr, cs_riii, cs_riir, cs_riri, cs_rirr, cs_rrii, cs_rrir, cs_rrri, cs_rrrr, l1, inb_n, bq4, bq5, n100, not_false_eq_true, isB_0, isB_1, nI_clamp, nI_nneg, Nat.zero_add, Nat.le_refl]; omega)) only [xX13_readBather_18, xX13_readBather_19, xX13_readBather_22, xX13_readBather_25, xX13_readBather_28, xX13_readBather_29, xX13_readBather_32, xX13_readBather_33, xX13_readBather_36, xX13_readBather_39, xX13_readBather_42, xX13_readBather_43, xX13_readBather_46, xX13_readBather_47, xX13_readBather_50, xX13_readBather_53, xX13_readBather_56, xX13_readBather_57, xX13_readBather_60, xX13_readBather_61, xX13_readBather_64, xX13_readBather_67, xX13_readBather_70, xX13_readBather_71, xX13_readBather_74, xX13_readBather_75, xX13_readBather_76, xX13_readBather_77, xX13_readBather_78, xX13_readBather_81, xX13_readBather_82, xX13_readBather_83, cK_some, ofR_some, ofR_none, Option.toList_some, Option.toList_none, List.cons_append, List.nil_append, isL_i, isL_r, isL_u, isL_2, cs_0, cs_i, cs_r, cs_l, cs_ii, cs_ir, cs_ri, cs_rr, cs_iir, cs_irr, cs_iii, cs_iri, cs_rii, cs_rir, cs_rri, cs_rrr, cs_iiii, cs_iiir, cs_iiri, cs_iirr, cs_irii, cs_irir, cs_irri, cs_irrr, cs_riii, cs_riir, cs_riri, cs_rirr, cs_rrii, cs_rrir, cs_rrri, cs_rrrr, q1, n0, Nat.add_sub_cancel, Nat.add_zero, Nat.zero_add, nI_lt, nI_nlt, nI_le, nI_ge, nI_pos, pk_sub, nI_clamp, s2_ne, s2_o, s2_s, nI_add, inb_n, nI_nn, zq0, zq1, ↓reduceIte]
    | false =>
      rw [b1, bI_0] at q1
      cases b2 : wd B (tk B e a) (wN 18) with
      | true =>
        rw [b2, bI_1] at q2
        refine ⟨I, ?_, H, FM.rf⟩
        show _ = ex (d + 5) mX13_readBather 86 [.val (.ref m), .val (.long w), .second, .val (.int (nI 1)), w4, w5, w6, w7, w8] [] G I
        simp (disch := first | assumption | (simp (disch := omega) only [cK_some, ofR_some, ofR_none, Option.toList_some, Option.toList_none, List.cons_append, List.nil_append, isL_i, isL_r, isL_u, isL_2, cs_0, cs_i, cs_r, cs_l, cs_ii, cs_ir, cs_ri, cs_rr, cs_iir, cs_irr, cs_iii, cs_iri, cs_rii, cs_rir, cs_rri, cs_rrr, cs_iiii, cs_iiir, cs_iiri, cs_iirr, cs_irii, cs_irir, cs_irri, cs_irrr, cs_riii, cs_riir, cs_riri, cs_rirr, cs_rrii, cs_rrir, cs_rrri, cs_rrrr, l1, inb_n, bq4, bq5, n100, not_false_eq_true, isB_0, isB_1, nI_clamp, nI_nneg, Nat.zero_add, Nat.le_refl]; done) | omega | (simp (disch := omega) only [cK_some, ofR_some, ofR_none, Option.toList_some, Option.toList_none, List.cons_append, List.nil_append, isL_i, isL_r, isL_u, isL_2, cs_0, cs_i, cs_r, cs_l, cs_ii, cs_ir, cs_ri, cs_rr, cs_iir, cs_irr, cs_iii, cs_iri, cs_rii, cs_rir, cs_rri, cs_rrr, cs_iiii, cs_iiir, cs_iiri, cs_iirr, cs_irii, cs_irir, cs_irri, cs_irrr, cs_riii, cs_riir, cs_riri, cs_rirr, cs_rrii, cs_rrir, cs_rrri, cs_rrrr, l1, inb_n, bq4, bq5, n100, not_false_eq_true, isB_0, isB_1, nI_clamp, nI_nneg, Nat.zero_add, Nat.le_refl]; omega)) only [xX13_readBather_18, xX13_readBather_19, xX13_readBather_22, xX13_readBather_25, xX13_readBather_28, xX13_readBather_29, xX13_readBather_32, xX13_readBather_33, xX13_readBather_36, xX13_readBather_39, xX13_readBather_42, xX13_readBather_43, xX13_readBather_46, xX13_readBather_47, xX13_readBather_50, xX13_readBather_53, xX13_readBather_56, xX13_readBather_57, xX13_readBather_60, xX13_readBather_61, xX13_readBather_64, xX13_readBather_67, xX13_readBather_70, xX13_readBather_71, xX13_readBather_74, xX13_readBather_75, xX13_readBather_76, xX13_readBather_77, xX13_readBather_78, xX13_readBather_81, xX13_readBather_82, xX13_readBather_83, cK_some, ofR_some, ofR_none, Option.toList_some, Option.toList_none, List.cons_append, List.nil_append, isL_i, isL_r, isL_u, isL_2, cs_0, cs_i, cs_r, cs_l, cs_ii, cs_ir, cs_ri, cs_rr, cs_iir, cs_irr, cs_iii, cs_iri, cs_rii, cs_rir, cs_rri, cs_rrr, cs_iiii, cs_iiir, cs_iiri, cs_iirr, cs_irii, cs_irir, cs_irri, cs_irrr, cs_riii, cs_riir, cs_riri, cs_rirr, cs_rrii, cs_rrir, cs_rrri, cs_rrrr, q1, q2, n1, Nat.add_sub_cancel, Nat.add_zero, Nat.zero_add, nI_lt, nI_nlt, nI_le, nI_ge, nI_pos, pk_sub, nI_clamp, s2_ne, s2_o, s2_s, nI_add, inb_n, nI_nn, zq0, zq1, ↓reduceIte]
      | false =>
        rw [b2, bI_0] at q2
        cases b3 : wd B (tk B e a) (wN 19) with
        | true =>
          rw [b3, bI_1] at q3
          refine ⟨I, ?_, H, FM.rf⟩
          show _ = ex (d + 5) mX13_readBather 86 [.val (.ref m), .val (.long w), .second, .val (.int (nI 2)), w4, w5, w6, w7, w8] [] G I
          simp (disch := first | assumption | (simp (disch := omega) only [cK_some, ofR_some, ofR_none, Option.toList_some, Option.toList_none, List.cons_append, List.nil_append, isL_i, isL_r, isL_u, isL_2, cs_0, cs_i, cs_r, cs_l, cs_ii, cs_ir, cs_ri, cs_rr, cs_iir, cs_irr, cs_iii, cs_iri, cs_rii, cs_rir, cs_rri, cs_rrr, cs_iiii, cs_iiir, cs_iiri, cs_iirr, cs_irii, cs_irir, cs_irri, cs_irrr, cs_riii, cs_riir, cs_riri, cs_rirr, cs_rrii, cs_rrir, cs_rrri, cs_rrrr, l1, inb_n, bq4, bq5, n100, not_false_eq_true, isB_0, isB_1, nI_clamp, nI_nneg, Nat.zero_add, Nat.le_refl]; done) | omega | (simp (disch := omega) only [cK_some, ofR_some, ofR_none, Option.toList_some, Option.toList_none, List.cons_append, List.nil_append, isL_i, isL_r, isL_u, isL_2, cs_0, cs_i, cs_r, cs_l, cs_ii, cs_ir, cs_ri, cs_rr, cs_iir, cs_irr, cs_iii, cs_iri, cs_rii, cs_rir, cs_rri, cs_rrr, cs_iiii, cs_iiir, cs_iiri, cs_iirr, cs_irii, cs_irir, cs_irri, cs_irrr, cs_riii, cs_riir, cs_riri, cs_rirr, cs_rrii, cs_rrir, cs_rrri, cs_rrrr, l1, inb_n, bq4, bq5, n100, not_false_eq_true, isB_0, isB_1, nI_clamp, nI_nneg, Nat.zero_add, Nat.le_refl]; omega)) only [xX13_readBather_18, xX13_readBather_19, xX13_readBather_22, xX13_readBather_25, xX13_readBather_28, xX13_readBather_29, xX13_readBather_32, xX13_readBather_33, xX13_readBather_36, xX13_readBather_39, xX13_readBather_42, xX13_readBather_43, xX13_readBather_46, xX13_readBather_47, xX13_readBather_50, xX13_readBather_53, xX13_readBather_56, xX13_readBather_57, xX13_readBather_60, xX13_readBather_61, xX13_readBather_64, xX13_readBather_67, xX13_readBather_70, xX13_readBather_71, xX13_readBather_74, xX13_readBather_75, xX13_readBather_76, xX13_readBather_77, xX13_readBather_78, xX13_readBather_81, xX13_readBather_82, xX13_readBather_83, cK_some, ofR_some, ofR_none, Option.toList_some, Option.toList_none, List.cons_append, List.nil_append, isL_i, isL_r, isL_u, isL_2, cs_0, cs_i, cs_r, cs_l, cs_ii, cs_ir, cs_ri, cs_rr, cs_iir, cs_irr, cs_iii, cs_iri, cs_rii, cs_rir, cs_rri, cs_rrr, cs_iiii, cs_iiir, cs_iiri, cs_iirr, cs_irii, cs_irir, cs_irri, cs_irrr, cs_riii, cs_riir, cs_riri, cs_rirr, cs_rrii, cs_rrir, cs_rrri, cs_rrrr, q1, q2, q3, n2, Nat.add_sub_cancel, Nat.add_zero, Nat.zero_add, nI_lt, nI_nlt, nI_le, nI_ge, nI_pos, pk_sub, nI_clamp, s2_ne, s2_o, s2_s, nI_add, inb_n, nI_nn, zq0, zq1, ↓reduceIte]
        | false =>
          rw [b3, bI_0] at q3
          cases b4 : wd B (tk B e a) (wN 20) with
          | true =>
            rw [b4, bI_1] at q4
            refine ⟨I, ?_, H, FM.rf⟩
            show _ = ex (d + 5) mX13_readBather 86 [.val (.ref m), .val (.long w), .second, .val (.int (nI 3)), w4, w5, w6, w7, w8] [] G I
            simp (disch := first | assumption | (simp (disch := omega) only [cK_some, ofR_some, ofR_none, Option.toList_some, Option.toList_none, List.cons_append, List.nil_append, isL_i, isL_r, isL_u, isL_2, cs_0, cs_i, cs_r, cs_l, cs_ii, cs_ir, cs_ri, cs_rr, cs_iir, cs_irr, cs_iii, cs_iri, cs_rii, cs_rir, cs_rri, cs_rrr, cs_iiii, cs_iiir, cs_iiri, cs_iirr, cs_irii, cs_irir, cs_irri, cs_irrr, cs_riii, cs_riir, cs_riri, cs_rirr, cs_rrii, cs_rrir, cs_rrri, cs_rrrr, l1, inb_n, bq4, bq5, n100, not_false_eq_true, isB_0, isB_1, nI_clamp, nI_nneg, Nat.zero_add, Nat.le_refl]; done) | omega | (simp (disch := omega) only [cK_some, ofR_some, ofR_none, Option.toList_some, Option.toList_none, List.cons_append, List.nil_append, isL_i, isL_r, isL_u, isL_2, cs_0, cs_i, cs_r, cs_l, cs_ii, cs_ir, cs_ri, cs_rr, cs_iir, cs_irr, cs_iii, cs_iri, cs_rii, cs_rir, cs_rri, cs_rrr, cs_iiii, cs_iiir, cs_iiri, cs_iirr, cs_irii, cs_irir, cs_irri, cs_irrr, cs_riii, cs_riir, cs_riri, cs_rirr, cs_rrii, cs_rrir, cs_rrri, cs_rrrr, l1, inb_n, bq4, bq5, n100, not_false_eq_true, isB_0, isB_1, nI_clamp, nI_nneg, Nat.zero_add, Nat.le_refl]; omega)) only [xX13_readBather_18, xX13_readBather_19, xX13_readBather_22, xX13_readBather_25, xX13_readBather_28, xX13_readBather_29, xX13_readBather_32, xX13_readBather_33, xX13_readBather_36, xX13_readBather_39, xX13_readBather_42, xX13_readBather_43, xX13_readBather_46, xX13_readBather_47, xX13_readBather_50, xX13_readBather_53, xX13_readBather_56, xX13_readBather_57, xX13_readBather_60, xX13_readBather_61, xX13_readBather_64, xX13_readBather_67, xX13_readBather_70, xX13_readBather_71, xX13_readBather_74, xX13_readBather_75, xX13_readBather_76, xX13_readBather_77, xX13_readBather_78, xX13_readBather_81, xX13_readBather_82, xX13_readBather_83, cK_some, ofR_some, ofR_none, Option.toList_some, Option.toList_none, List.cons_append, List.nil_append, isL_i, isL_r, isL_u, isL_2, cs_0, cs_i, cs_r, cs_l, cs_ii, cs_ir, cs_ri, cs_rr, cs_iir, cs_irr, cs_iii, cs_iri, cs_rii, cs_rir, cs_rri, cs_rrr, cs_iiii, cs_iiir, cs_iiri, cs_iirr, cs_irii, cs_irir, cs_irri, cs_irrr, cs_riii, cs_riir, cs_riri, cs_rirr, cs_rrii, cs_rrir, cs_rrri, cs_rrrr, q1, q2, q3, q4, n3, Nat.add_sub_cancel, Nat.add_zero, Nat.zero_add, nI_lt, nI_nlt, nI_le, nI_ge, nI_pos, pk_sub, nI_clamp, s2_ne, s2_o, s2_s, nI_add, inb_n, nI_nn, zq0, zq1, ↓reduceIte]
          | false =>
            rw [b4, bI_0] at q4
            refine ⟨J, ?_, f2, f3⟩
            show _ = ex (d + 5) mX13_readBather 86 [.val (.ref m), .val (.long w), .second, .val (.int (-1)), w4, w5, w6, w7, w8] [] G J
            simp (disch := first | assumption | (simp (disch := omega) only [cK_some, ofR_some, ofR_none, Option.toList_some, Option.toList_none, List.cons_append, List.nil_append, isL_i, isL_r, isL_u, isL_2, cs_0, cs_i, cs_r, cs_l, cs_ii, cs_ir, cs_ri, cs_rr, cs_iir, cs_irr, cs_iii, cs_iri, cs_rii, cs_rir, cs_rri, cs_rrr, cs_iiii, cs_iiir, cs_iiri, cs_iirr, cs_irii, cs_irir, cs_irri, cs_irrr, cs_riii, cs_riir, cs_riri, cs_rirr, cs_rrii, cs_rrir, cs_rrri, cs_rrrr, l1, inb_n, bq4, bq5, n100, not_false_eq_true, isB_0, isB_1, nI_clamp, nI_nneg, Nat.zero_add, Nat.le_refl]; done) | omega | (simp (disch := omega) only [cK_some, ofR_some, ofR_none, Option.toList_some, Option.toList_none, List.cons_append, List.nil_append, isL_i, isL_r, isL_u, isL_2, cs_0, cs_i, cs_r, cs_l, cs_ii, cs_ir, cs_ri, cs_rr, cs_iir, cs_irr, cs_iii, cs_iri, cs_rii, cs_rir, cs_rri, cs_rrr, cs_iiii, cs_iiir, cs_iiri, cs_iirr, cs_irii, cs_irir, cs_irri, cs_irrr, cs_riii, cs_riir, cs_riri, cs_rirr, cs_rrii, cs_rrir, cs_rrri, cs_rrrr, l1, inb_n, bq4, bq5, n100, not_false_eq_true, isB_0, isB_1, nI_clamp, nI_nneg, Nat.zero_add, Nat.le_refl]; omega)) only [xX13_readBather_18, xX13_readBather_19, xX13_readBather_22, xX13_readBather_25, xX13_readBather_28, xX13_readBather_29, xX13_readBather_32, xX13_readBather_33, xX13_readBather_36, xX13_readBather_39, xX13_readBather_42, xX13_readBather_43, xX13_readBather_46, xX13_readBather_47, xX13_readBather_50, xX13_readBather_53, xX13_readBather_56, xX13_readBather_57, xX13_readBather_60, xX13_readBather_61, xX13_readBather_64, xX13_readBather_67, xX13_readBather_70, xX13_readBather_71, xX13_readBather_74, xX13_readBather_75, xX13_readBather_76, xX13_readBather_77, xX13_readBather_78, xX13_readBather_81, xX13_readBather_82, xX13_readBather_83, cK_some, ofR_some, ofR_none, Option.toList_some, Option.toList_none, List.cons_append, List.nil_append, isL_i, isL_r, isL_u, isL_2, cs_0, cs_i, cs_r, cs_l, cs_ii, cs_ir, cs_ri, cs_rr, cs_iir, cs_irr, cs_iii, cs_iri, cs_rii, cs_rir, cs_rri, cs_rrr, cs_iiii, cs_iiir, cs_iiri, cs_iirr, cs_irii, cs_irir, cs_irri, cs_irrr, cs_riii, cs_riir, cs_riri, cs_rirr, cs_rrii, cs_rrir, cs_rrri, cs_rrrr, q1, q2, q3, q4, f1, Nat.add_sub_cancel, Nat.add_zero, Nat.zero_add, nI_lt, nI_nlt, nI_le, nI_ge, nI_pos, pk_sub, nI_clamp, s2_ne, s2_o, s2_s, nI_add, inb_n, nI_nn, zq0, zq1, ↓reduceIte]
theorem m_readBather {d m R e a : Nat} {B : Nat → Nat} {r : RS} {G : Gm} {I : Im} (hM : MR G m R) (hX : TmV I m B e) (H : MdS G I m B e (.inr a)) (h1 : kK (tk B e a) = 1) (hr : RM G I R B r) (ho : ROk e r) :
    ∃ (G' : Gm) (I' : Im), run (d + 5) mX13_readBather [.ref m] G I = some (none, G', I') ∧ AnM G' I' m R B e (bnd (bgQ B e (decide (rN r = 6)) r.1.isSome a) (fun a => lnBather B e a r)) ∧ GL m R G G' ∧ FR m R I I' := by
  have hT3 := ho.2.1.1
  have hNn := ho.2.1.2.2.2.2.2
  have hN6 := ho.2.1.2.2.1
  obtain ⟨l1, l2, l3, l4, hS, l6⟩ := id hM
  obtain ⟨G1, I1, f1, g1, ge1, fm1⟩ := m_bgn (d := d + 2) (many := rN r) (most := 6) hM hX H h1 hr ho (by omega) (by omega)
  have hlive : ∀ a0, bgQ B e (decide (rN r = 6)) r.1.isSome a = .inr a0 → rN r < 6 ∧ a0 ≤ e := fun a0 h => by
    unfold bgQ at h
    split at h
    · cases h
    · rename_i c
      split at h
      · cases h; exact ⟨by have : ¬ rN r = 6 := fun z => c (decide_eq_true z); omega, (tk_ord H.2.1).2.2.1⟩
      · cases h
  generalize bgQ B e (decide (rN r = 6)) r.1.isSome a = y0 at *
  have eT1 : gT G1 = gT G := ge1.2.1
  have eR1 : gR G1 = gR G := ge1.2.2.1
  have hr1 := hr.fm l6 ge1 fm1
  obtain ⟨w, G2, I2, f2, ⟨g2, ge2, fm2⟩, hw⟩ := m_readFresh (d := d + 1) (hM.ge ge1) (hX.fm fm1) g1 hr1.2.2.2.2.2.2.2 ho.2.2.2.2.2.2.2.1
  have gs2 := ge1.tr ge2
  have fs2 := fm1.tr fm2
  have g2' : MdS G2 I2 m B e (tw1 B e r y0) := g2
  obtain ⟨I3, f3, g3, fm3⟩ := m_kind (d := d) (w := w) (w4 := .unset) (w5 := .unset) (w6 := .unset) (w7 := .unset) (w8 := .unset) (hM.ge gs2) g2'
  have fs3 := fs2.tr fm3
  have g3' : MdS G2 I3 m B e (ba2 B e r y0) := g3
  obtain ⟨G4, I4, f4, g4, ge4, fm4⟩ := m_adv (d := d + 3) (hM.ge gs2) (hX.fm fs3) g3' (fun a' h => by
    obtain ⟨a1, hy, h7⟩ := bnd_le h
    unfold kdS at h7
    cases hk : kdP B (tk B e a1) with
    | none => rw [hk] at h7; cases h7
    | some v => rw [hk] at h7; cases h7; rw [(kdP_1 hk).1]; decide)
  have gs4 := gs2.tr ge4
  have fs4 := fs3.tr fm4
  have g4' : MdS G4 I4 m B e (ba3 B e r y0) := g4
  obtain ⟨G5, I5, f5, g5, ge5, fm5⟩ := m_readPart (d := d + 1) (x := 1000000 + 41) (w := wN 16) (lo := 0) (hi := 99) (hM.ge gs4) (hX.fm fs4) g4' st41 (by decide) (by decide)
  have gs5 := gs4.tr ge5
  have fs5 := fs4.tr fm5
  have g5' : MdS G5 I5 m B e (stN (ba4 B e r y0)) := g5
  have f5' : run (d + 4) mX13_readPart [.ref m, .ref (1000000 + 41), .int (nI 0), .int (nI 99)] G4 I4 = some (some (.int (nI (vlN 0 (ba4 B e r y0)))), G5, I5) := f5
  obtain ⟨G6, I6, f6, g6, ge6, fm6⟩ := m_readPart (d := d + 1) (x := 1000000 + 46) (w := wN 21) (lo := 0) (hi := 9) (hM.ge gs5) (hX.fm fs5) g5' st46 (by decide) (by decide)
  have gs6 := gs5.tr ge6
  have fs6 := fs5.tr fm6
  have g6' : MdS G6 I6 m B e (stN (ba5 B e r y0)) := g6
  have f6' : run (d + 4) mX13_readPart [.ref m, .ref (1000000 + 46), .int (nI 0), .int (nI 9)] G5 I5 = some (some (.int (nI (vlN 0 (ba5 B e r y0)))), G6, I6) := f6
  obtain ⟨G7, I7, f7, g7, ge7, fm7⟩ := m_readPart (d := d + 1) (x := 1000000 + 47) (w := wN 22) (lo := 0) (hi := 99) (hM.ge gs6) (hX.fm fs6) g6' st47 (by decide) (by decide)
  have gs7 := gs6.tr ge7
  have fs7 := fs6.tr fm7
  have g7' : MdS G7 I7 m B e (stN (ba6 B e r y0)) := g7
  have f7' : run (d + 4) mX13_readPart [.ref m, .ref (1000000 + 47), .int (nI 0), .int (nI 99)] G6 I6 = some (some (.int (nI (vlN 0 (ba6 B e r y0)))), G7, I7) := f7
  obtain ⟨G8, I8, f8, g8, ge8, fm8⟩ := m_readPart (d := d + 1) (x := 1000000 + 48) (w := wN 23) (lo := 1) (hi := 9) (hM.ge gs7) (hX.fm fs7) g7' st48 (by decide) (by decide)
  have gs8 := gs7.tr ge8
  have fs8 := fs7.tr fm8
  have g8' : MdS G8 I8 m B e (stN (ba7 B e r y0)) := g8
  have f8' : run (d + 4) mX13_readPart [.ref m, .ref (1000000 + 48), .int (nI 1), .int (nI 9)] G7 I7 = some (some (.int (nI (vlN 1 (ba7 B e r y0)))), G8, I8) := f8
  obtain ⟨p1, p2⟩ := ba_all (B := B) (e := e) (r := r) (y0 := y0)
  have eN := hr.2.2.1.2.2.1
  have eT2 : gT G2 = gT G := gs2.2.1
  have eR2 : gR G2 = gR G := gs2.2.2.1
  have eT4 : gT G4 = gT G := gs4.2.1
  have eT5 : gT G5 = gT G := gs5.2.1
  have eT6 : gT G6 = gT G := gs6.2.1
  have eT7 : gT G7 = gT G := gs7.2.1
  have eT8 : gT G8 = gT G := gs8.2.1
  have eR8 : gR G8 = gR G := gs8.2.2.1
  generalize kvE B e (tw1 B e r y0) = kd at *
  generalize vlN 0 (ba4 B e r y0) = n4 at *
  generalize vlN 0 (ba5 B e r y0) = n5 at *
  generalize vlN 0 (ba6 B e r y0) = n6 at *
  generalize vlN 1 (ba7 B e r y0) = n7 at *
  have hS_1 := hS.1; have hS_2 := hS.2.1; have hS_3 := hS.2.2.1; have hS_4 := hS.2.2.2.1; have hS_5 := hS.2.2.2.2.1; have hS_6 := hS.2.2.2.2.2.1; have hS_7 := hS.2.2.2.2.2.2.1; have hS_8 := hS.2.2.2.2.2.2.2.1; have hS_9 := hS.2.2.2.2.2.2.2.2.1; have hS_10 := hS.2.2.2.2.2.2.2.2.2.1; have hS_11 := hS.2.2.2.2.2.2.2.2.2.2.1; have hS_12 := hS.2.2.2.2.2.2.2.2.2.2.2.1; have hS_13 := hS.2.2.2.2.2.2.2.2.2.2.2.2.1; have hS_14 := hS.2.2.2.2.2.2.2.2.2.2.2.2.2.1; have hS_15 := hS.2.2.2.2.2.2.2.2.2.2.2.2.2.2.1; have hS_16 := hS.2.2.2.2.2.2.2.2.2.2.2.2.2.2.2.1; have hS_17 := hS.2.2.2.2.2.2.2.2.2.2.2.2.2.2.2.2.1; have hS_18 := hS.2.2.2.2.2.2.2.2.2.2.2.2.2.2.2.2.2.1; have hS_19 := hS.2.2.2.2.2.2.2.2.2.2.2.2.2.2.2.2.2.2.1; have hS_20 := hS.2.2.2.2.2.2.2.2.2.2.2.2.2.2.2.2.2.2.2.1; have hS_21 := hS.2.2.2.2.2.2.2.2.2.2.2.2.2.2.2.2.2.2.2.2.1; have hS_22 := hS.2.2.2.2.2.2.2.2.2.2.2.2.2.2.2.2.2.2.2.2.2.1; have hS_23 := hS.2.2.2.2.2.2.2.2.2.2.2.2.2.2.2.2.2.2.2.2.2.2.1; have hS_24 := hS.2.2.2.2.2.2.2.2.2.2.2.2.2.2.2.2.2.2.2.2.2.2.2.1; have hS_25 := hS.2.2.2.2.2.2.2.2.2.2.2.2.2.2.2.2.2.2.2.2.2.2.2.2.1; have hS_26 := hS.2.2.2.2.2.2.2.2.2.2.2.2.2.2.2.2.2.2.2.2.2.2.2.2.2.1; have hS_27 := hS.2.2.2.2.2.2.2.2.2.2.2.2.2.2.2.2.2.2.2.2.2.2.2.2.2.2.1; have hS_28 := hS.2.2.2.2.2.2.2.2.2.2.2.2.2.2.2.2.2.2.2.2.2.2.2.2.2.2.2.1; have hS_29 := hS.2.2.2.2.2.2.2.2.2.2.2.2.2.2.2.2.2.2.2.2.2.2.2.2.2.2.2.2.1; have hS_30 := hS.2.2.2.2.2.2.2.2.2.2.2.2.2.2.2.2.2.2.2.2.2.2.2.2.2.2.2.2.2.1; have hS_31 := hS.2.2.2.2.2.2.2.2.2.2.2.2.2.2.2.2.2.2.2.2.2.2.2.2.2.2.2.2.2.2.1; have hS_32 := hS.2.2.2.2.2.2.2.2.2.2.2.2.2.2.2.2.2.2.2.2.2.2.2.2.2.2.2.2.2.2.2.1; have hS_33 := hS.2.2.2.2.2.2.2.2.2.2.2.2.2.2.2.2.2.2.2.2.2.2.2.2.2.2.2.2.2.2.2.2.1; have hS_34 := hS.2.2.2.2.2.2.2.2.2.2.2.2.2.2.2.2.2.2.2.2.2.2.2.2.2.2.2.2.2.2.2.2.2.1; have hS_35 := hS.2.2.2.2.2.2.2.2.2.2.2.2.2.2.2.2.2.2.2.2.2.2.2.2.2.2.2.2.2.2.2.2.2.2.1; have hS_36 := hS.2.2.2.2.2.2.2.2.2.2.2.2.2.2.2.2.2.2.2.2.2.2.2.2.2.2.2.2.2.2.2.2.2.2.2.1; have hS_37 := hS.2.2.2.2.2.2.2.2.2.2.2.2.2.2.2.2.2.2.2.2.2.2.2.2.2.2.2.2.2.2.2.2.2.2.2.2.1; have hS_38 := hS.2.2.2.2.2.2.2.2.2.2.2.2.2.2.2.2.2.2.2.2.2.2.2.2.2.2.2.2.2.2.2.2.2.2.2.2.2.1; have hS_39 := hS.2.2.2.2.2.2.2.2.2.2.2.2.2.2.2.2.2.2.2.2.2.2.2.2.2.2.2.2.2.2.2.2.2.2.2.2.2.2
  cases hz : stN (ba7 B e r y0) with
  | inl x =>
    rw [hz] at g8'
    rw [p1 x hz]
    have h9 := g8'.deadT
    refine ⟨G8, I8, ?_, g8', gs8.l, fs8.r⟩
    simp (disch := first | assumption | (simp (disch := omega) only [cK_some, ofR_some, ofR_none, Option.toList_some, Option.toList_none, List.cons_append, List.nil_append, isL_i, isL_r, isL_u, isL_2, cs_0, cs_i, cs_r, cs_l, cs_ii, cs_ir, cs_ri, cs_rr, cs_iir, cs_irr, cs_iii, cs_iri, cs_rii, cs_rir, cs_rri, cs_rrr, cs_iiii, cs_iiir, cs_iiri, cs_iirr, cs_irii, cs_irir, cs_irri, cs_irrr, cs_riii, cs_riir, cs_riri, cs_rirr, cs_rrii, cs_rrir, cs_rrri, cs_rrrr, hS_1, hS_2, hS_3, hS_4, hS_5, hS_6, hS_7, hS_8, hS_9, hS_10, hS_11, hS_12, hS_13, hS_14, hS_15, hS_16, hS_17, hS_18, hS_19, hS_20, hS_21, hS_22, hS_23, hS_24, hS_25, hS_26, hS_27, hS_28, hS_29, hS_30, hS_31, hS_32, hS_33, hS_34, hS_35, hS_36, hS_37, hS_38, hS_39, l1, eT1, eT2, inb_n, bq4, bq5, n100, not_false_eq_true, isB_0, isB_1, nI_clamp, nI_nneg, Nat.zero_add, Nat.le_refl]; done) | omega | (simp (disch := omega) only [cK_some, ofR_some, ofR_none, Option.toList_some, Option.toList_none, List.cons_append, List.nil_append, isL_i, isL_r, isL_u, isL_2, cs_0, cs_i, cs_r, cs_l, cs_ii, cs_ir, cs_ri, cs_rr, cs_iir, cs_irr, cs_iii, cs_iri, cs_rii, cs_rir, cs_rri, cs_rrr, cs_iiii, cs_iiir, cs_iiri, cs_iirr, cs_irii, cs_irir, cs_irri, cs_irrr, cs_riii, cs_riir, cs_riri, cs_rirr, cs_rrii, cs_rrir, cs_rrri, cs_rrrr, hS_1, hS_2, hS_3, hS_4, hS_5, hS_6, hS_7, hS_8, hS_9, hS_10, hS_11, hS_12, hS_13, hS_14, hS_15, hS_16, hS_17, hS_18, hS_19, hS_20, hS_21, hS_22, hS_23, hS_24, hS_25, hS_26, hS_27, hS_28, hS_29, hS_30, hS_31, hS_32, hS_33, hS_34, hS_35, hS_36, hS_37, hS_38, hS_39, l1, eT1, eT2, inb_n, bq4, bq5, n100, not_false_eq_true, isB_0, isB_1, nI_clamp, nI_nneg, Nat.zero_add, Nat.le_refl]; omega)) only [xX13_readBather_0, xX13_readBather_1, xX13_readBather_2, xX13_readBather_5, xX13_readBather_8, xX13_readBather_10, xX13_readBather_13, xX13_readBather_14, xX13_readBather_17, cK_some, ofR_some, ofR_none, Option.toList_some, Option.toList_none, List.cons_append, List.nil_append, isL_i, isL_r, isL_u, isL_2, cs_0, cs_i, cs_r, cs_l, cs_ii, cs_ir, cs_ri, cs_rr, cs_iir, cs_irr, cs_iii, cs_iri, cs_rii, cs_rir, cs_rri, cs_rrr, cs_iiii, cs_iiir, cs_iiri, cs_iirr, cs_irii, cs_irir, cs_irri, cs_irrr, cs_riii, cs_riir, cs_riri, cs_rirr, cs_rrii, cs_rrir, cs_rrri, cs_rrrr, hS_1, hS_2, hS_3, hS_4, hS_5, hS_6, hS_7, hS_8, hS_9, hS_10, hS_11, hS_12, hS_13, hS_14, hS_15, hS_16, hS_17, hS_18, hS_19, hS_20, hS_21, hS_22, hS_23, hS_24, hS_25, hS_26, hS_27, hS_28, hS_29, hS_30, hS_31, hS_32, hS_33, hS_34, hS_35, hS_36, hS_37, hS_38, hS_39, rX13_readBather, l2, eN, f1, f2, Nat.add_sub_cancel, Nat.add_zero, Nat.zero_add, nI_lt, nI_nlt, nI_le, nI_ge, nI_pos, pk_sub, nI_clamp, s2_ne, s2_o, s2_s, nI_add, inb_n, nI_nn, zq0, zq1, ↓reduceIte]
    rw [f3]
    simp (disch := first | assumption | (simp (disch := omega) only [cK_some, ofR_some, ofR_none, Option.toList_some, Option.toList_none, List.cons_append, List.nil_append, isL_i, isL_r, isL_u, isL_2, cs_0, cs_i, cs_r, cs_l, cs_ii, cs_ir, cs_ri, cs_rr, cs_iir, cs_irr, cs_iii, cs_iri, cs_rii, cs_rir, cs_rri, cs_rrr, cs_iiii, cs_iiir, cs_iiri, cs_iirr, cs_irii, cs_irir, cs_irri, cs_irrr, cs_riii, cs_riir, cs_riri, cs_rirr, cs_rrii, cs_rrir, cs_rrri, cs_rrrr, hS_1, hS_2, hS_3, hS_4, hS_5, hS_6, hS_7, hS_8, hS_9, hS_10, hS_11, hS_12, hS_13, hS_14, hS_15, hS_16, hS_17, hS_18, hS_19, hS_20, hS_21, hS_22, hS_23, hS_24, hS_25, hS_26, hS_27, hS_28, hS_29, hS_30, hS_31, hS_32, hS_33, hS_34, hS_35, hS_36, hS_37, hS_38, hS_39, l1, eT2, eT4, eT5, eT6, eT7, eT8, inb_n, bq4, bq5, n100, not_false_eq_true, isB_0, isB_1, nI_clamp, nI_nneg, Nat.zero_add, Nat.le_refl]; done) | omega | (simp (disch := omega) only [cK_some, ofR_some, ofR_none, Option.toList_some, Option.toList_none, List.cons_append, List.nil_append, isL_i, isL_r, isL_u, isL_2, cs_0, cs_i, cs_r, cs_l, cs_ii, cs_ir, cs_ri, cs_rr, cs_iir, cs_irr, cs_iii, cs_iri, cs_rii, cs_rir, cs_rri, cs_rrr, cs_iiii, cs_iiir, cs_iiri, cs_iirr, cs_irii, cs_irir, cs_irri, cs_irrr, cs_riii, cs_riir, cs_riri, cs_rirr, cs_rrii, cs_rrir, cs_rrri, cs_rrrr, hS_1, hS_2, hS_3, hS_4, hS_5, hS_6, hS_7, hS_8, hS_9, hS_10, hS_11, hS_12, hS_13, hS_14, hS_15, hS_16, hS_17, hS_18, hS_19, hS_20, hS_21, hS_22, hS_23, hS_24, hS_25, hS_26, hS_27, hS_28, hS_29, hS_30, hS_31, hS_32, hS_33, hS_34, hS_35, hS_36, hS_37, hS_38, hS_39, l1, eT2, eT4, eT5, eT6, eT7, eT8, inb_n, bq4, bq5, n100, not_false_eq_true, isB_0, isB_1, nI_clamp, nI_nneg, Nat.zero_add, Nat.le_refl]; omega)) only [xX13_readBather_86, xX13_readBather_87, xX13_readBather_90, xX13_readBather_91, xX13_readBather_94, xX13_readBather_95, xX13_readBather_97, xX13_readBather_100, xX13_readBather_102, xX13_readBather_103, xX13_readBather_106, xX13_readBather_107, xX13_readBather_109, xX13_readBather_112, xX13_readBather_114, xX13_readBather_115, xX13_readBather_118, xX13_readBather_119, xX13_readBather_121, xX13_readBather_124, xX13_readBather_126, xX13_readBather_127, xX13_readBather_130, xX13_readBather_131, xX13_readBather_133, xX13_readBather_136, xX13_readBather_138, xX13_readBather_139, xX13_readBather_142, xX13_readBather_143, xX13_readBather_146, cK_some, ofR_some, ofR_none, Option.toList_some, Option.toList_none, List.cons_append, List.nil_append, isL_i, isL_r, isL_u, isL_2, cs_0, cs_i, cs_r, cs_l, cs_ii, cs_ir, cs_ri, cs_rr, cs_iir, cs_irr, cs_iii, cs_iri, cs_rii, cs_rir, cs_rri, cs_rrr, cs_iiii, cs_iiir, cs_iiri, cs_iirr, cs_irii, cs_irir, cs_irri, cs_irrr, cs_riii, cs_riir, cs_riri, cs_rirr, cs_rrii, cs_rrir, cs_rrri, cs_rrrr, hS_1, hS_2, hS_3, hS_4, hS_5, hS_6, hS_7, hS_8, hS_9, hS_10, hS_11, hS_12, hS_13, hS_14, hS_15, hS_16, hS_17, hS_18, hS_19, hS_20, hS_21, hS_22, hS_23, hS_24, hS_25, hS_26, hS_27, hS_28, hS_29, hS_30, hS_31, hS_32, hS_33, hS_34, hS_35, hS_36, hS_37, hS_38, hS_39, f4, f5', f6', f7', f8', h9, Nat.add_sub_cancel, Nat.add_zero, Nat.zero_add, nI_lt, nI_nlt, nI_le, nI_ge, nI_pos, pk_sub, nI_clamp, s2_ne, s2_o, s2_s, nI_add, inb_n, nI_nn, zq0, zq1, ↓reduceIte]
  | inr b =>
    rw [hz] at g8'
    obtain ⟨a0, a1, k, hy0, hpF, hkd, q4⟩ := p2 b hz
    rw [q4]
    subst hkd
    have h9 := g8'.live
    obtain ⟨hT, ha0⟩ := hlive a0 hy0
    have hr8 := hr.fm l6 gs8 fs8
    obtain ⟨-, s2s, s3, s4, s5, s6, s7, s8⟩ := id hr8
    have hwv := hw a0 a1 hy0 hpF
    have hk1 := (pF_1 hpF).1
    have hnm := m_names (d := d + 4) (o := false) (num := rN r) (w := w) (hM.ge gs8) s8.1 (show rNn r < 9 by omega)
    have hNew := s8.new (x := (kS (tk B e a0), kE (tk B e a0), false, rN r)) (by omega) (tk_L ha0 hk1)
    try dsimp only at hNew
    rw [← hwv] at hNew
    rw [bI_0] at hnm hNew
    generalize hK : s2 (s2 (s2 I8 (R + 18) (rNn r) (nI 0)) (R + 19) (rNn r) (nI (rN r))) R 11 (nI (rNn r + 1)) = K at hnm hNew
    generalize hGn : gSetJ G8 (R + 17) (rNn r) w = Gn at hnm hNew
    have eTn : gT Gn = gT G := by rw [← hGn, gT_J]; exact eT8
    have eRn : gR Gn = gR G := by rw [← hGn, gR_J]; exact eR8
    have eKR : ∀ j, j ≠ 11 → K R j = I8 R j := fun j hj => by rw [← hK, s2_o hj, s2_ne (by omega), s2_ne (by omega)]
    have eKc : ∀ c, c ≠ R → c ≠ R + 18 → c ≠ R + 19 → K c = I8 c := fun c h1 h2 h3 => by rw [← hK, s2_ne h1, s2_ne h3, s2_ne h2]
    have kN8 : I8 R 8 = nI (rN r) := s3.2.2.1
    have kN : K R 8 = nI (rN r) := by rw [eKR 8 (by decide)]; exact kN8
    generalize hA : s2 (s2 (s2 (s2 (s2 (s2 K (R + 6) (rN r) (nI k)) (R + 7) (rN r) (nI n4)) (R + 8) (rN r) (nI n5)) (R + 9) (rN r) (nI n6)) (R + 10) (rN r) (nI n7)) (R + 11) (rN r) (-2) = A
    have aN : A R 8 = nI (rN r) := by rw [← hA, s2_ne (by omega), s2_ne (by omega), s2_ne (by omega), s2_ne (by omega), s2_ne (by omega), s2_ne (by omega)]; exact kN
    have eAR : ∀ j, A R j = K R j := fun j => by rw [← hA, s2_ne (by omega), s2_ne (by omega), s2_ne (by omega), s2_ne (by omega), s2_ne (by omega), s2_ne (by omega)]
    have eAc : ∀ c, ¬ (R + 6 ≤ c ∧ c ≤ R + 11) → A c = K c := fun c hc => by rw [← hA, s2_ne (by omega), s2_ne (by omega), s2_ne (by omega), s2_ne (by omega), s2_ne (by omega), s2_ne (by omega)]
    have eR : ∀ j, j ≠ 8 → j ≠ 11 → s2 A R 8 (nI (rN r + 1)) R j = I8 R j := fun j q8 q11 => by
      rw [s2_o q8, eAR, eKR j q11]
    have eF : ∀ j, 1 ≤ j → j ≤ 17 → ¬ (6 ≤ j ∧ j ≤ 11) → s2 A R 8 (nI (rN r + 1)) (R + j) = I8 (R + j) := fun j q1 q2 q3 => by
      rw [s2_ne (by omega), eAc (R + j) (by omega), eKc (R + j) (by omega) (by omega) (by omega)]
    refine ⟨Gn, s2 A R 8 (nI (rN r + 1)), ?_, ⟨?_, ?_⟩, ?_, ?_⟩
    · simp (disch := first | assumption | (simp (disch := omega) only [cK_some, ofR_some, ofR_none, Option.toList_some, Option.toList_none, List.cons_append, List.nil_append, isL_i, isL_r, isL_u, isL_2, cs_0, cs_i, cs_r, cs_l, cs_ii, cs_ir, cs_ri, cs_rr, cs_iir, cs_irr, cs_iii, cs_iri, cs_rii, cs_rir, cs_rri, cs_rrr, cs_iiii, cs_iiir, cs_iiri, cs_iirr, cs_irii, cs_irir, cs_irri, cs_irrr, cs_riii, cs_riir, cs_riri, cs_rirr, cs_rrii, cs_rrir, cs_rrri, cs_rrrr, hS_1, hS_2, hS_3, hS_4, hS_5, hS_6, hS_7, hS_8, hS_9, hS_10, hS_11, hS_12, hS_13, hS_14, hS_15, hS_16, hS_17, hS_18, hS_19, hS_20, hS_21, hS_22, hS_23, hS_24, hS_25, hS_26, hS_27, hS_28, hS_29, hS_30, hS_31, hS_32, hS_33, hS_34, hS_35, hS_36, hS_37, hS_38, hS_39, l1, eT1, eT2, inb_n, bq4, bq5, n100, not_false_eq_true, isB_0, isB_1, nI_clamp, nI_nneg, Nat.zero_add, Nat.le_refl]; done) | omega | (simp (disch := omega) only [cK_some, ofR_some, ofR_none, Option.toList_some, Option.toList_none, List.cons_append, List.nil_append, isL_i, isL_r, isL_u, isL_2, cs_0, cs_i, cs_r, cs_l, cs_ii, cs_ir, cs_ri, cs_rr, cs_iir, cs_irr, cs_iii, cs_iri, cs_rii, cs_rir, cs_rri, cs_rrr, cs_iiii, cs_iiir, cs_iiri, cs_iirr, cs_irii, cs_irir, cs_irri, cs_irrr, cs_riii, cs_riir, cs_riri, cs_rirr, cs_rrii, cs_rrir, cs_rrri, cs_rrrr, hS_1, hS_2, hS_3, hS_4, hS_5, hS_6, hS_7, hS_8, hS_9, hS_10, hS_11, hS_12, hS_13, hS_14, hS_15, hS_16, hS_17, hS_18, hS_19, hS_20, hS_21, hS_22, hS_23, hS_24, hS_25, hS_26, hS_27, hS_28, hS_29, hS_30, hS_31, hS_32, hS_33, hS_34, hS_35, hS_36, hS_37, hS_38, hS_39, l1, eT1, eT2, inb_n, bq4, bq5, n100, not_false_eq_true, isB_0, isB_1, nI_clamp, nI_nneg, Nat.zero_add, Nat.le_refl]; omega)) only [xX13_readBather_0, xX13_readBather_1, xX13_readBather_2, xX13_readBather_5, xX13_readBather_8, xX13_readBather_10, xX13_readBather_13, xX13_readBather_14, xX13_readBather_17, cK_some, ofR_some, ofR_none, Option.toList_some, Option.toList_none, List.cons_append, List.nil_append, isL_i, isL_r, isL_u, isL_2, cs_0, cs_i, cs_r, cs_l, cs_ii, cs_ir, cs_ri, cs_rr, cs_iir, cs_irr, cs_iii, cs_iri, cs_rii, cs_rir, cs_rri, cs_rrr, cs_iiii, cs_iiir, cs_iiri, cs_iirr, cs_irii, cs_irir, cs_irri, cs_irrr, cs_riii, cs_riir, cs_riri, cs_rirr, cs_rrii, cs_rrir, cs_rrri, cs_rrrr, hS_1, hS_2, hS_3, hS_4, hS_5, hS_6, hS_7, hS_8, hS_9, hS_10, hS_11, hS_12, hS_13, hS_14, hS_15, hS_16, hS_17, hS_18, hS_19, hS_20, hS_21, hS_22, hS_23, hS_24, hS_25, hS_26, hS_27, hS_28, hS_29, hS_30, hS_31, hS_32, hS_33, hS_34, hS_35, hS_36, hS_37, hS_38, hS_39, rX13_readBather, l2, eN, f1, f2, Nat.add_sub_cancel, Nat.add_zero, Nat.zero_add, nI_lt, nI_nlt, nI_le, nI_ge, nI_pos, pk_sub, nI_clamp, s2_ne, s2_o, s2_s, nI_add, inb_n, nI_nn, zq0, zq1, ↓reduceIte]
      rw [f3]
      simp (disch := first | assumption | (simp (disch := omega) only [cK_some, ofR_some, ofR_none, Option.toList_some, Option.toList_none, List.cons_append, List.nil_append, isL_i, isL_r, isL_u, isL_2, cs_0, cs_i, cs_r, cs_l, cs_ii, cs_ir, cs_ri, cs_rr, cs_iir, cs_irr, cs_iii, cs_iri, cs_rii, cs_rir, cs_rri, cs_rrr, cs_iiii, cs_iiir, cs_iiri, cs_iirr, cs_irii, cs_irir, cs_irri, cs_irrr, cs_riii, cs_riir, cs_riri, cs_rirr, cs_rrii, cs_rrir, cs_rrri, cs_rrrr, hS_1, hS_2, hS_3, hS_4, hS_5, hS_6, hS_7, hS_8, hS_9, hS_10, hS_11, hS_12, hS_13, hS_14, hS_15, hS_16, hS_17, hS_18, hS_19, hS_20, hS_21, hS_22, hS_23, hS_24, hS_25, hS_26, hS_27, hS_28, hS_29, hS_30, hS_31, hS_32, hS_33, hS_34, hS_35, hS_36, hS_37, hS_38, hS_39, l1, eT2, eT4, eT5, eT6, eT7, eT8, eTn, inb_n, bq4, bq5, n100, not_false_eq_true, isB_0, isB_1, nI_clamp, nI_nneg, Nat.zero_add, Nat.le_refl]; done) | omega | (simp (disch := omega) only [cK_some, ofR_some, ofR_none, Option.toList_some, Option.toList_none, List.cons_append, List.nil_append, isL_i, isL_r, isL_u, isL_2, cs_0, cs_i, cs_r, cs_l, cs_ii, cs_ir, cs_ri, cs_rr, cs_iir, cs_irr, cs_iii, cs_iri, cs_rii, cs_rir, cs_rri, cs_rrr, cs_iiii, cs_iiir, cs_iiri, cs_iirr, cs_irii, cs_irir, cs_irri, cs_irrr, cs_riii, cs_riir, cs_riri, cs_rirr, cs_rrii, cs_rrir, cs_rrri, cs_rrrr, hS_1, hS_2, hS_3, hS_4, hS_5, hS_6, hS_7, hS_8, hS_9, hS_10, hS_11, hS_12, hS_13, hS_14, hS_15, hS_16, hS_17, hS_18, hS_19, hS_20, hS_21, hS_22, hS_23, hS_24, hS_25, hS_26, hS_27, hS_28, hS_29, hS_30, hS_31, hS_32, hS_33, hS_34, hS_35, hS_36, hS_37, hS_38, hS_39, l1, eT2, eT4, eT5, eT6, eT7, eT8, eTn, inb_n, bq4, bq5, n100, not_false_eq_true, isB_0, isB_1, nI_clamp, nI_nneg, Nat.zero_add, Nat.le_refl]; omega)) only [xX13_readBather_86, xX13_readBather_87, xX13_readBather_90, xX13_readBather_91, xX13_readBather_94, xX13_readBather_95, xX13_readBather_97, xX13_readBather_100, xX13_readBather_102, xX13_readBather_103, xX13_readBather_106, xX13_readBather_107, xX13_readBather_109, xX13_readBather_112, xX13_readBather_114, xX13_readBather_115, xX13_readBather_118, xX13_readBather_119, xX13_readBather_121, xX13_readBather_124, xX13_readBather_126, xX13_readBather_127, xX13_readBather_130, xX13_readBather_131, xX13_readBather_133, xX13_readBather_136, xX13_readBather_138, xX13_readBather_139, xX13_readBather_142, xX13_readBather_143, xX13_readBather_146, xX13_readBather_147, xX13_readBather_148, xX13_readBather_151, xX13_readBather_154, xX13_readBather_156, xX13_readBather_157, xX13_readBather_158, xX13_readBather_159, xX13_readBather_161, xX13_readBather_164, xX13_readBather_165, xX13_readBather_168, xX13_readBather_171, xX13_readBather_173, xX13_readBather_174, xX13_readBather_175, xX13_readBather_176, xX13_readBather_179, xX13_readBather_182, xX13_readBather_184, xX13_readBather_186, xX13_readBather_187, xX13_readBather_188, xX13_readBather_191, xX13_readBather_194, xX13_readBather_196, xX13_readBather_198, xX13_readBather_199, xX13_readBather_200, xX13_readBather_203, xX13_readBather_206, xX13_readBather_208, xX13_readBather_210, xX13_readBather_211, xX13_readBather_212, xX13_readBather_215, xX13_readBather_218, xX13_readBather_220, xX13_readBather_222, xX13_readBather_223, xX13_readBather_224, xX13_readBather_227, xX13_readBather_230, xX13_readBather_232, xX13_readBather_234, cK_some, ofR_some, ofR_none, Option.toList_some, Option.toList_none, List.cons_append, List.nil_append, isL_i, isL_r, isL_u, isL_2, cs_0, cs_i, cs_r, cs_l, cs_ii, cs_ir, cs_ri, cs_rr, cs_iir, cs_irr, cs_iii, cs_iri, cs_rii, cs_rir, cs_rri, cs_rrr, cs_iiii, cs_iiir, cs_iiri, cs_iirr, cs_irii, cs_irir, cs_irri, cs_irrr, cs_riii, cs_riir, cs_riri, cs_rirr, cs_rrii, cs_rrir, cs_rrri, cs_rrrr, hS_1, hS_2, hS_3, hS_4, hS_5, hS_6, hS_7, hS_8, hS_9, hS_10, hS_11, hS_12, hS_13, hS_14, hS_15, hS_16, hS_17, hS_18, hS_19, hS_20, hS_21, hS_22, hS_23, hS_24, hS_25, hS_26, hS_27, hS_28, hS_29, hS_30, hS_31, hS_32, hS_33, hS_34, hS_35, hS_36, hS_37, hS_38, hS_39, f4, f5', f6', f7', f8', h9, eR8, eRn, l2, kN8, hnm, kN, Nat.add_sub_cancel, Nat.add_zero, Nat.zero_add, nI_lt, nI_nlt, nI_le, nI_ge, nI_pos, pk_sub, nI_clamp, s2_ne, s2_o, s2_s, nI_add, inb_n, nI_nn, zq0, zq1, ↓reduceIte]
      rw [hA]
      simp (disch := first | assumption | (simp (disch := omega) only [cK_some, ofR_some, ofR_none, Option.toList_some, Option.toList_none, List.cons_append, List.nil_append, isL_i, isL_r, isL_u, isL_2, cs_0, cs_i, cs_r, cs_l, cs_ii, cs_ir, cs_ri, cs_rr, cs_iir, cs_irr, cs_iii, cs_iri, cs_rii, cs_rir, cs_rri, cs_rrr, cs_iiii, cs_iiir, cs_iiri, cs_iirr, cs_irii, cs_irir, cs_irri, cs_irrr, cs_riii, cs_riir, cs_riri, cs_rirr, cs_rrii, cs_rrir, cs_rrri, cs_rrrr, hS_1, hS_2, hS_3, hS_4, hS_5, hS_6, hS_7, hS_8, hS_9, hS_10, hS_11, hS_12, hS_13, hS_14, hS_15, hS_16, hS_17, hS_18, hS_19, hS_20, hS_21, hS_22, hS_23, hS_24, hS_25, hS_26, hS_27, hS_28, hS_29, hS_30, hS_31, hS_32, hS_33, hS_34, hS_35, hS_36, hS_37, hS_38, hS_39, l1, eTn, inb_n, bq4, bq5, n100, not_false_eq_true, isB_0, isB_1, nI_clamp, nI_nneg, Nat.zero_add, Nat.le_refl]; done) | omega | (simp (disch := omega) only [cK_some, ofR_some, ofR_none, Option.toList_some, Option.toList_none, List.cons_append, List.nil_append, isL_i, isL_r, isL_u, isL_2, cs_0, cs_i, cs_r, cs_l, cs_ii, cs_ir, cs_ri, cs_rr, cs_iir, cs_irr, cs_iii, cs_iri, cs_rii, cs_rir, cs_rri, cs_rrr, cs_iiii, cs_iiir, cs_iiri, cs_iirr, cs_irii, cs_irir, cs_irri, cs_irrr, cs_riii, cs_riir, cs_riri, cs_rirr, cs_rrii, cs_rrir, cs_rrri, cs_rrrr, hS_1, hS_2, hS_3, hS_4, hS_5, hS_6, hS_7, hS_8, hS_9, hS_10, hS_11, hS_12, hS_13, hS_14, hS_15, hS_16, hS_17, hS_18, hS_19, hS_20, hS_21, hS_22, hS_23, hS_24, hS_25, hS_26, hS_27, hS_28, hS_29, hS_30, hS_31, hS_32, hS_33, hS_34, hS_35, hS_36, hS_37, hS_38, hS_39, l1, eTn, inb_n, bq4, bq5, n100, not_false_eq_true, isB_0, isB_1, nI_clamp, nI_nneg, Nat.zero_add, Nat.le_refl]; omega)) only [xX13_readBather_235, xX13_readBather_236, xX13_readBather_239i, xX13_readBather_239r, xX13_readBather_240, xX13_readBather_243, xX13_readBather_244, xX13_readBather_245, xX13_readBather_248, cK_some, ofR_some, ofR_none, Option.toList_some, Option.toList_none, List.cons_append, List.nil_append, isL_i, isL_r, isL_u, isL_2, cs_0, cs_i, cs_r, cs_l, cs_ii, cs_ir, cs_ri, cs_rr, cs_iir, cs_irr, cs_iii, cs_iri, cs_rii, cs_rir, cs_rri, cs_rrr, cs_iiii, cs_iiir, cs_iiri, cs_iirr, cs_irii, cs_irir, cs_irri, cs_irrr, cs_riii, cs_riir, cs_riri, cs_rirr, cs_rrii, cs_rrir, cs_rrri, cs_rrrr, hS_1, hS_2, hS_3, hS_4, hS_5, hS_6, hS_7, hS_8, hS_9, hS_10, hS_11, hS_12, hS_13, hS_14, hS_15, hS_16, hS_17, hS_18, hS_19, hS_20, hS_21, hS_22, hS_23, hS_24, hS_25, hS_26, hS_27, hS_28, hS_29, hS_30, hS_31, hS_32, hS_33, hS_34, hS_35, hS_36, hS_37, hS_38, hS_39, eRn, l2, aN, nI_add, Nat.add_sub_cancel, Nat.add_zero, Nat.zero_add, nI_lt, nI_nlt, nI_le, nI_ge, nI_pos, pk_sub, nI_clamp, s2_ne, s2_o, s2_s, nI_add, inb_n, nI_nn, zq0, zq1, ↓reduceIte]
    · exact g8'.fr (fun j => by rw [s2_ne (by omega), eAc m (by omega), eKc m (by omega) (by omega) (by omega)]) (by rw [← hGn, gJ_J]; exact s2_ne (by omega))
    · refine ⟨fun h => ?_, fun s hs => ⟨?_, fun p hp => ?_⟩, ⟨?_, ?_, ?_, ?_, ?_⟩, fun t ht => ?_, fun p hp => ?_, fun j hj => ?_, fun i hi => ?_, ?_⟩
      · rw [eR 0 (by decide) (by decide)]; exact hr8.1 h
      · rw [eR 0 (by decide) (by decide), eR 1 (by decide) (by decide), eR 2 (by decide) (by decide), eR 3 (by decide) (by decide), eR 4 (by decide) (by decide), eR 5 (by decide) (by decide)]
        exact (s2s s hs).1
      · rw [eF 16 (by decide) (by decide) (by decide)]
        exact (s2s s hs).2 p hp
      · rw [eR 6 (by decide) (by decide)]; exact s3.1
      · rw [eR 7 (by decide) (by decide)]; exact s3.2.1
      · exact s2_s
      · rw [eR 9 (by decide) (by decide)]; exact s3.2.2.2.1
      · rw [eR 10 (by decide) (by decide)]; exact s3.2.2.2.2
      · rw [eF 1 (by decide) (by decide) (by decide), eF 2 (by decide) (by decide) (by decide), eF 3 (by decide) (by decide) (by decide), eF 4 (by decide) (by decide) (by decide)]
        exact s4 t ht
      · rw [eF 5 (by decide) (by decide) (by decide)]
        exact s5 p hp
      · show s2 A R 8 (nI (rN r + 1)) (R + 6) j = nI (up (rKi r) (rN r) k j) ∧ s2 A R 8 (nI (rN r + 1)) (R + 7) j = nI (up (rDr r) (rN r) n4 j) ∧ s2 A R 8 (nI (rN r + 1)) (R + 8) j = nI (up (rCo r) (rN r) n5 j) ∧ s2 A R 8 (nI (rN r + 1)) (R + 9) j = nI (up (rWa r) (rN r) n6 j) ∧ s2 A R 8 (nI (rN r + 1)) (R + 10) j = nI (up (rBz r) (rN r) n7 j) ∧ s2 A R 8 (nI (rN r + 1)) (R + 11) j = encO (if j = rN r then none else rHm r j)
        have hj' : j < rN r + 1 := hj
        rw [s2_ne (by omega), s2_ne (by omega), s2_ne (by omega), s2_ne (by omega), s2_ne (by omega), s2_ne (by omega), ← hA]
        by_cases c : j = rN r
        · rw [c, up_s, up_s, up_s, up_s, up_s, if_pos rfl]
          refine ⟨?_, ?_, ?_, ?_, ?_, ?_⟩
          · rw [s2_ne (by omega), s2_ne (by omega), s2_ne (by omega), s2_ne (by omega), s2_ne (by omega), s2_s]
          · rw [s2_ne (by omega), s2_ne (by omega), s2_ne (by omega), s2_ne (by omega), s2_s]
          · rw [s2_ne (by omega), s2_ne (by omega), s2_ne (by omega), s2_s]
          · rw [s2_ne (by omega), s2_ne (by omega), s2_s]
          · rw [s2_ne (by omega), s2_s]
          · rw [s2_s]; rfl
        · rw [up_o c, up_o c, up_o c, up_o c, up_o c, if_neg c]
          obtain ⟨w1, w2, w3, w4, w5, w6⟩ := s6 j (by omega)
          refine ⟨?_, ?_, ?_, ?_, ?_, ?_⟩
          · rw [s2_ne (by omega), s2_ne (by omega), s2_ne (by omega), s2_ne (by omega), s2_ne (by omega), s2_o c, eKc _ (by omega) (by omega) (by omega)]; exact w1
          · rw [s2_ne (by omega), s2_ne (by omega), s2_ne (by omega), s2_ne (by omega), s2_o c, s2_ne (by omega), eKc _ (by omega) (by omega) (by omega)]; exact w2
          · rw [s2_ne (by omega), s2_ne (by omega), s2_ne (by omega), s2_o c, s2_ne (by omega), s2_ne (by omega), eKc _ (by omega) (by omega) (by omega)]; exact w3
          · rw [s2_ne (by omega), s2_ne (by omega), s2_o c, s2_ne (by omega), s2_ne (by omega), s2_ne (by omega), eKc _ (by omega) (by omega) (by omega)]; exact w4
          · rw [s2_ne (by omega), s2_o c, s2_ne (by omega), s2_ne (by omega), s2_ne (by omega), s2_ne (by omega), eKc _ (by omega) (by omega) (by omega)]; exact w5
          · rw [s2_o c, s2_ne (by omega), s2_ne (by omega), s2_ne (by omega), s2_ne (by omega), s2_ne (by omega), eKc _ (by omega) (by omega) (by omega)]; exact w6
      · rw [eF 12 (by decide) (by decide) (by decide), eF 13 (by decide) (by decide) (by decide), eF 14 (by decide) (by decide) (by decide), eF 15 (by decide) (by decide) (by decide)]
        exact s7 i hi
      · refine hNew.fr ?_ ?_ ?_
        · rw [s2_o (by decide), eAR]
        · rw [s2_ne (by omega), eAc (R + 18) (by omega)]
        · rw [s2_ne (by omega), eAc (R + 19) (by omega)]
    · rw [← hGn]; exact gs8.l.j
    · exact fs8.r.tr ⟨fun c q1 q2 => by rw [s2_ne (by omega), eAc c (by omega), eKc c (by omega) (by omega) (by omega)], fun j _ _ _ _ _ _ _ => by rw [s2_ne (by omega), eAc m (by omega), eKc m (by omega) (by omega) (by omega)]⟩
