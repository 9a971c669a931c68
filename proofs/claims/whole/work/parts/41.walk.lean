/-! walks -/
/-- a walk at w: its order at w + 1, its scenes at w + 3 + 4 k -/
def Wk (G : Gm) (w : Nat) : Prop := gT G w = (20, 2) ∧ gR G w 0 = some (w + 1) ∧ gR G w 1 = some (w + 2) ∧ gT G (w + 1) = (0, 6) ∧ gT G (w + 2) = (4, 7) ∧ (∀ k, k < 7 → gR G (w + 2) k = some (w + 3 + 4 * k) ∧ Sc G (w + 3 + 4 * k))
def OrV (I : Im) (w N : Nat) (o : Nat → Nat) : Prop := ∀ k, k < N → I (w + 1) k = nI (o k)
theorem OrV.swp {I : Im} {w N i j : Nat} {o : Nat → Nat} (h : OrV I w N o) : OrV (s2 (s2 I (w + 1) i (nI (o j))) (w + 1) j (nI (o i))) w N (swp o i j) := by
  intro k hk
  unfold _root_.Jvm.Pilot.COneTowelLaw_law_r8808_ccd990.swp up
  by_cases e : k = j
  · rw [e, s2_s, if_pos rfl]
  · rw [s2_o e, if_neg e]
    by_cases e2 : k = i
    · rw [e2, s2_s, if_pos rfl]
    · rw [s2_o e2, if_neg e2]; exact h k hk
theorem rn_swap {d w N i j : Nat} {o : Nat → Nat} {G : Gm} {I : Im} (hw : Wk G w) (hN : N ≤ 6) (ho : OrV I w N o) (hi : i < N) (hj : j < N) :
    run d mX10_swap [.ref w, .int (nI i), .int (nI j)] G I = some (none, G, s2 (s2 I (w + 1) i (nI (o j))) (w + 1) j (nI (o i))) := by
  obtain ⟨w1, w2, w3, w4, w5, w6⟩ := hw
  have e1 := ho i hi
  have e2 := ho j hj
  have := True.intro
  simp (disch := first | assumption | (simp (disch := omega) only [cK_some, ofR_some, ofR_none, Option.toList_some, Option.toList_none, List.cons_append, List.nil_append, isL_i, isL_r, isL_u, isL_2, cs_0, cs_i, cs_r, cs_l, cs_ii, cs_ir, cs_ri, cs_rr, cs_iir, cs_irr, w1, w4, inb_n, bq4, bq5, n100, not_false_eq_true, isB_0, isB_1, nI_clamp, nI_nneg, Nat.zero_add, Nat.le_refl]; done) | omega) only [xX10_swap_0, xX10_swap_1, xX10_swap_4, xX10_swap_5, xX10_swap_6, xX10_swap_7, xX10_swap_8, xX10_swap_11, xX10_swap_12, xX10_swap_13, xX10_swap_16, xX10_swap_17, xX10_swap_18, xX10_swap_19, xX10_swap_20, xX10_swap_23, xX10_swap_24, xX10_swap_25, xX10_swap_26, cK_some, ofR_some, ofR_none, Option.toList_some, Option.toList_none, List.cons_append, List.nil_append, isL_i, isL_r, isL_u, isL_2, cs_0, cs_i, cs_r, cs_l, cs_ii, cs_ir, cs_ri, cs_rr, cs_iir, cs_irr, rX10_swap, w2, e1, e2, nI_lt, nI_nlt, nI_le, nI_ge, nI_pos, pk_sub, nI_clamp, s2_ne, s2_o, s2_s, nI_add, inb_n, nI_nn, zq0, zq1, ↓reduceIte]
theorem swp_lt {o : Nat → Nat} {N i j : Nat} (h : ∀ k, k < N → o k < N) (hi : i < N) (hj : j < N) : ∀ k, k < N → swp o i j k < N := by
  intro k hk
  unfold swp up
  split
  · exact h i hi
  · split
    · exact h j hj
    · exact h k hk
theorem oth_lt {o : Nat → Nat} {p : Nat} : ∀ m, oth o p m ≤ m
  | 0 => Nat.le_refl _
  | m + 1 => by
    show (if p < m + 1 ∧ o (m + 1) < o p then oth o p m else m + 1) ≤ m + 1
    split
    · have := oth_lt (o := o) (p := p) m; omega
    · exact Nat.le_refl _
theorem pvD_lt {o : Nat → Nat} {p : Nat} : ∀ k, pvD o k = some p → p < k
  | 0, h => by cases h
  | k + 1, h => by
    have e : pvD o (k + 1) = if o (k + 1) < o k then pvD o k else some k := rfl
    rw [e] at h
    by_cases c : o (k + 1) < o k
    · rw [if_pos c] at h; have := pvD_lt k h; omega
    · rw [if_neg c] at h; cases h; omega
def nxI (z : Option (Nat × (Nat → Nat))) : Int32 := match z with
  | none => -1
  | some q => nI q.1
theorem rn_change {d w N : Nat} {o : Nat → Nat} {G : Gm} {I : Im} (hw : Wk G w) (hN0 : 0 < N) (hN : N ≤ 6) (ho : OrV I w N o) (hb : ∀ k, k < N → o k < N) :
    ∃ I', run (d + 1) mX10_change [.ref w, .int (nI N)] G I = some (some (.int (nxI (nxt o N))), G, I') ∧ (∀ p o', nxt o N = some (p, o') → OrV I' w N o' ∧ p < N) ∧ (nxt o N = none → I' = I) ∧ Fr (fun c => c = w + 1) I I' := by
  have hw' := hw
  obtain ⟨w1, w2, w3, w4, w5, w6⟩ := hw'
  have := True.intro
  have hfr : ∀ i j x y (I : Im), Fr (fun c => c = w + 1) I (s2 (s2 I (w + 1) i x) (w + 1) j y) := fun _ _ _ _ _ => Fr.s2 (S := fun c => c = w + 1) (Fr.s2 (S := fun c => c = w + 1) Fr.rf rfl) rfl
  have hst : ∀ n : Fin 7, 0 < (n : Nat) → nI n - nI 2 = nI (n - 1 : Nat) + (-1) := by decide
  have hst1 := hst ⟨N, by omega⟩ hN0
  try dsimp only at hst1
  have l1 : ∀ k, k < N → ex (d + 1) mX10_change 4 [.val (.ref w), .val (.int (nI N)), .val (.int (nI k + (-1))), .unset, .unset, .unset] [] G I = ex (d + 1) mX10_change 31 [.val (.ref w), .val (.int (nI N)), .val (.int (match pvD o k with | none => nI 0 + (-1) | some p => nI p)), .unset, .unset, .unset] [] G I := by
    intro k
    induction k with
    | zero =>
      intro hk
      have n1 : nI 0 + (-1) < 0 := by decide
      rw [xX10_change_4]
      simp (disch := first | assumption | (simp (disch := omega) only [cK_some, ofR_some, ofR_none, Option.toList_some, Option.toList_none, List.cons_append, List.nil_append, isL_i, isL_r, isL_u, isL_2, cs_0, cs_i, cs_r, cs_l, cs_ii, cs_ir, cs_ri, cs_rr, cs_iir, cs_irr, inb_n, bq4, bq5, n100, not_false_eq_true, isB_0, isB_1, nI_clamp, nI_nneg, Nat.zero_add, Nat.le_refl]; done) | omega) only [xX10_change_5, cK_some, ofR_some, ofR_none, Option.toList_some, Option.toList_none, List.cons_append, List.nil_append, isL_i, isL_r, isL_u, isL_2, cs_0, cs_i, cs_r, cs_l, cs_ii, cs_ir, cs_ri, cs_rr, cs_iir, cs_irr, n1, pvD, nI_lt, nI_nlt, nI_le, nI_ge, nI_pos, pk_sub, nI_clamp, s2_ne, s2_o, s2_s, nI_add, inb_n, nI_nn, zq0, zq1, ↓reduceIte]
    | succ k ih =>
      intro hk
      have e1 := ho k (by omega)
      have e2 := ho (k + 1) hk
      have b1 := hb k (by omega)
      have b2 := hb (k + 1) hk
      have es : pvD o (k + 1) = if o (k + 1) < o k then pvD o k else some k := rfl
      have hs : nI (k + 1) + (-1) = nI k := pk_m1 k
      rw [xX10_change_4, hs, es]
      by_cases c : o (k + 1) < o k
      · rw [if_pos c]
        refine Eq.trans ?_ (ih (by omega))
        simp (disch := first | assumption | (simp (disch := omega) only [cK_some, ofR_some, ofR_none, Option.toList_some, Option.toList_none, List.cons_append, List.nil_append, isL_i, isL_r, isL_u, isL_2, cs_0, cs_i, cs_r, cs_l, cs_ii, cs_ir, cs_ri, cs_rr, cs_iir, cs_irr, w1, w4, inb_n, bq4, bq5, n100, not_false_eq_true, isB_0, isB_1, nI_clamp, nI_nneg, Nat.zero_add, Nat.le_refl]; done) | omega) only [xX10_change_5, xX10_change_8, xX10_change_9, xX10_change_12, xX10_change_13, xX10_change_14, xX10_change_15, xX10_change_18, xX10_change_19, xX10_change_20, xX10_change_21, xX10_change_22, xX10_change_25, xX10_change_28, cK_some, ofR_some, ofR_none, Option.toList_some, Option.toList_none, List.cons_append, List.nil_append, isL_i, isL_r, isL_u, isL_2, cs_0, cs_i, cs_r, cs_l, cs_ii, cs_ir, cs_ri, cs_rr, cs_iir, cs_irr, w2, e1, e2, c, nI_lt, nI_nlt, nI_le, nI_ge, nI_pos, pk_sub, nI_clamp, s2_ne, s2_o, s2_s, nI_add, inb_n, nI_nn, zq0, zq1, ↓reduceIte]
      · rw [if_neg c]
        simp (disch := first | assumption | (simp (disch := omega) only [cK_some, ofR_some, ofR_none, Option.toList_some, Option.toList_none, List.cons_append, List.nil_append, isL_i, isL_r, isL_u, isL_2, cs_0, cs_i, cs_r, cs_l, cs_ii, cs_ir, cs_ri, cs_rr, cs_iir, cs_irr, w1, w4, inb_n, bq4, bq5, n100, not_false_eq_true, isB_0, isB_1, nI_clamp, nI_nneg, Nat.zero_add, Nat.le_refl]; done) | omega) only [xX10_change_5, xX10_change_8, xX10_change_9, xX10_change_12, xX10_change_13, xX10_change_14, xX10_change_15, xX10_change_18, xX10_change_19, xX10_change_20, xX10_change_21, xX10_change_22, xX10_change_25, xX10_change_28, cK_some, ofR_some, ofR_none, Option.toList_some, Option.toList_none, List.cons_append, List.nil_append, isL_i, isL_r, isL_u, isL_2, cs_0, cs_i, cs_r, cs_l, cs_ii, cs_ir, cs_ri, cs_rr, cs_iir, cs_irr, w2, e1, e2, c, nI_lt, nI_nlt, nI_le, nI_ge, nI_pos, pk_sub, nI_clamp, s2_ne, s2_o, s2_s, nI_add, inb_n, nI_nn, zq0, zq1, ↓reduceIte]
  have h1 := l1 (N - 1) (by omega)
  cases hpv : pvD o (N - 1) with
  | none =>
    rw [hpv] at h1
    have hnx : nxt o N = none := by unfold nxt; rw [hpv]
    rw [hnx]
    refine ⟨I, ?_, (fun p o' h => by cases h), (fun _ => rfl), Fr.rf⟩
    simp (disch := first | assumption | (simp (disch := omega) only [cK_some, ofR_some, ofR_none, Option.toList_some, Option.toList_none, List.cons_append, List.nil_append, isL_i, isL_r, isL_u, isL_2, cs_0, cs_i, cs_r, cs_l, cs_ii, cs_ir, cs_ri, cs_rr, cs_iir, cs_irr, inb_n, bq4, bq5, n100, not_false_eq_true, isB_0, isB_1, nI_clamp, nI_nneg, Nat.zero_add, Nat.le_refl]; done) | omega) only [xX10_change_0, xX10_change_1, xX10_change_2, xX10_change_3, cK_some, ofR_some, ofR_none, Option.toList_some, Option.toList_none, List.cons_append, List.nil_append, isL_i, isL_r, isL_u, isL_2, cs_0, cs_i, cs_r, cs_l, cs_ii, cs_ir, cs_ri, cs_rr, cs_iir, cs_irr, rX10_change, hst1, nI_lt, nI_nlt, nI_le, nI_ge, nI_pos, pk_sub, nI_clamp, s2_ne, s2_o, s2_s, nI_add, inb_n, nI_nn, zq0, zq1, ↓reduceIte]
    refine Eq.trans h1 ?_
    have n1 : nI 0 + (-1) < 0 := by decide
    have n2 : ¬ 0 ≤ nI 0 + (-1) := by decide
    try dsimp only
    simp (disch := first | assumption | (simp (disch := omega) only [cK_some, ofR_some, ofR_none, Option.toList_some, Option.toList_none, List.cons_append, List.nil_append, isL_i, isL_r, isL_u, isL_2, cs_0, cs_i, cs_r, cs_l, cs_ii, cs_ir, cs_ri, cs_rr, cs_iir, cs_irr, inb_n, bq4, bq5, n100, not_false_eq_true, isB_0, isB_1, nI_clamp, nI_nneg, Nat.zero_add, Nat.le_refl]; done) | omega) only [xX10_change_31, xX10_change_32, xX10_change_35, xX10_change_36, cK_some, ofR_some, ofR_none, Option.toList_some, Option.toList_none, List.cons_append, List.nil_append, isL_i, isL_r, isL_u, isL_2, cs_0, cs_i, cs_r, cs_l, cs_ii, cs_ir, cs_ri, cs_rr, cs_iir, cs_irr, n1, n2, nxI, nI_lt, nI_nlt, nI_le, nI_ge, nI_pos, pk_sub, nI_clamp, s2_ne, s2_o, s2_s, nI_add, inb_n, nI_nn, zq0, zq1, ↓reduceIte]
  | some p =>
    rw [hpv] at h1
    have hp := pvD_lt _ hpv
    have hnx : nxt o N = some (p, revO (swp o p (oth o p (N - 1))) (p + 1) (N - 1) 6) := by unfold nxt; rw [hpv]
    -- the other
    have l2 : ∀ m, m < N → ex (d + 1) mX10_change 41 [.val (.ref w), .val (.int (nI N)), .val (.int (nI p)), .val (.int (nI m)), .unset, .unset] [] G I = ex (d + 1) mX10_change 67 [.val (.ref w), .val (.int (nI N)), .val (.int (nI p)), .val (.int (nI (oth o p m))), .unset, .unset] [] G I := by
      intro m
      induction m with
      | zero =>
        intro hm
        rw [xX10_change_41]
        simp (disch := first | assumption | (simp (disch := omega) only [cK_some, ofR_some, ofR_none, Option.toList_some, Option.toList_none, List.cons_append, List.nil_append, isL_i, isL_r, isL_u, isL_2, cs_0, cs_i, cs_r, cs_l, cs_ii, cs_ir, cs_ri, cs_rr, cs_iir, cs_irr, inb_n, bq4, bq5, n100, not_false_eq_true, isB_0, isB_1, nI_clamp, nI_nneg, Nat.zero_add, Nat.le_refl]; done) | omega) only [xX10_change_42, xX10_change_43, xX10_change_46, xX10_change_47, xX10_change_50, xX10_change_51, xX10_change_52, xX10_change_53, xX10_change_56, xX10_change_57, xX10_change_58, xX10_change_61, xX10_change_64, cK_some, ofR_some, ofR_none, Option.toList_some, Option.toList_none, List.cons_append, List.nil_append, isL_i, isL_r, isL_u, isL_2, cs_0, cs_i, cs_r, cs_l, cs_ii, cs_ir, cs_ri, cs_rr, cs_iir, cs_irr, oth, nI_lt, nI_nlt, nI_le, nI_ge, nI_pos, pk_sub, nI_clamp, s2_ne, s2_o, s2_s, nI_add, inb_n, nI_nn, zq0, zq1, ↓reduceIte]
      | succ m ih =>
        intro hm
        have e1 := ho (m + 1) hm
        have e2 := ho p (by omega)
        have b1 := hb (m + 1) hm
        have b2 := hb p (by omega)
        have es : oth o p (m + 1) = if p < m + 1 ∧ o (m + 1) < o p then oth o p m else m + 1 := rfl
        have hs : nI (m + 1) + (-1) = nI m := pk_m1 m
        rw [xX10_change_41, es]
        by_cases c : p < m + 1
        · by_cases c2 : o (m + 1) < o p
          · rw [if_pos ⟨c, c2⟩]
            refine Eq.trans ?_ (ih (by omega))
            simp (disch := first | assumption | (simp (disch := omega) only [cK_some, ofR_some, ofR_none, Option.toList_some, Option.toList_none, List.cons_append, List.nil_append, isL_i, isL_r, isL_u, isL_2, cs_0, cs_i, cs_r, cs_l, cs_ii, cs_ir, cs_ri, cs_rr, cs_iir, cs_irr, w1, w4, inb_n, bq4, bq5, n100, not_false_eq_true, isB_0, isB_1, nI_clamp, nI_nneg, Nat.zero_add, Nat.le_refl]; done) | omega) only [xX10_change_42, xX10_change_43, xX10_change_46, xX10_change_47, xX10_change_50, xX10_change_51, xX10_change_52, xX10_change_53, xX10_change_56, xX10_change_57, xX10_change_58, xX10_change_61, xX10_change_64, cK_some, ofR_some, ofR_none, Option.toList_some, Option.toList_none, List.cons_append, List.nil_append, isL_i, isL_r, isL_u, isL_2, cs_0, cs_i, cs_r, cs_l, cs_ii, cs_ir, cs_ri, cs_rr, cs_iir, cs_irr, w2, e1, e2, hs, nI_lt, nI_nlt, nI_le, nI_ge, nI_pos, pk_sub, nI_clamp, s2_ne, s2_o, s2_s, nI_add, inb_n, nI_nn, zq0, zq1, ↓reduceIte]
          · rw [if_neg (fun z => c2 z.2)]
            simp (disch := first | assumption | (simp (disch := omega) only [cK_some, ofR_some, ofR_none, Option.toList_some, Option.toList_none, List.cons_append, List.nil_append, isL_i, isL_r, isL_u, isL_2, cs_0, cs_i, cs_r, cs_l, cs_ii, cs_ir, cs_ri, cs_rr, cs_iir, cs_irr, w1, w4, inb_n, bq4, bq5, n100, not_false_eq_true, isB_0, isB_1, nI_clamp, nI_nneg, Nat.zero_add, Nat.le_refl]; done) | omega) only [xX10_change_42, xX10_change_43, xX10_change_46, xX10_change_47, xX10_change_50, xX10_change_51, xX10_change_52, xX10_change_53, xX10_change_56, xX10_change_57, xX10_change_58, xX10_change_61, xX10_change_64, cK_some, ofR_some, ofR_none, Option.toList_some, Option.toList_none, List.cons_append, List.nil_append, isL_i, isL_r, isL_u, isL_2, cs_0, cs_i, cs_r, cs_l, cs_ii, cs_ir, cs_ri, cs_rr, cs_iir, cs_irr, w2, e1, e2, hs, nI_lt, nI_nlt, nI_le, nI_ge, nI_pos, pk_sub, nI_clamp, s2_ne, s2_o, s2_s, nI_add, inb_n, nI_nn, zq0, zq1, ↓reduceIte]
        · rw [if_neg (fun z => c z.1)]
          simp (disch := first | assumption | (simp (disch := omega) only [cK_some, ofR_some, ofR_none, Option.toList_some, Option.toList_none, List.cons_append, List.nil_append, isL_i, isL_r, isL_u, isL_2, cs_0, cs_i, cs_r, cs_l, cs_ii, cs_ir, cs_ri, cs_rr, cs_iir, cs_irr, inb_n, bq4, bq5, n100, not_false_eq_true, isB_0, isB_1, nI_clamp, nI_nneg, Nat.zero_add, Nat.le_refl]; done) | omega) only [xX10_change_42, xX10_change_43, xX10_change_46, xX10_change_47, xX10_change_50, xX10_change_51, xX10_change_52, xX10_change_53, xX10_change_56, xX10_change_57, xX10_change_58, xX10_change_61, xX10_change_64, cK_some, ofR_some, ofR_none, Option.toList_some, Option.toList_none, List.cons_append, List.nil_append, isL_i, isL_r, isL_u, isL_2, cs_0, cs_i, cs_r, cs_l, cs_ii, cs_ir, cs_ri, cs_rr, cs_iir, cs_irr, w2, nI_lt, nI_nlt, nI_le, nI_ge, nI_pos, pk_sub, nI_clamp, s2_ne, s2_o, s2_s, nI_add, inb_n, nI_nn, zq0, zq1, ↓reduceIte]
    have h2 := l2 (N - 1) (by omega)
    -- the rest turned round
    have l3 : ∀ f (o2 : Nat → Nat) lo hi I2, OrV I2 w N o2 → (∀ k, k < N → o2 k < N) → hi < N → lo ≤ N → hi < lo + 2 * f + 1 → ∃ I', ex (d + 1) mX10_change 83 [.val (.ref w), .val (.int (nI N)), .val (.int (nI p)), .val (.int (nI (oth o p (N - 1)))), .val (.int (nI hi)), .val (.int (nI lo))] [] G I2 = some (some (.int (nI p)), G, I') ∧ OrV I' w N (revO o2 lo hi f) ∧ Fr (fun c => c = w + 1) I2 I' := by
      intro f
      induction f with
      | zero =>
        intro o2 lo hi I2 h1 h2 h3 h3' h4
        refine ⟨I2, ?_, h1, Fr.rf⟩
        rw [xX10_change_83]
        simp (disch := first | assumption | (simp (disch := omega) only [cK_some, ofR_some, ofR_none, Option.toList_some, Option.toList_none, List.cons_append, List.nil_append, isL_i, isL_r, isL_u, isL_2, cs_0, cs_i, cs_r, cs_l, cs_ii, cs_ir, cs_ri, cs_rr, cs_iir, cs_irr, inb_n, bq4, bq5, n100, not_false_eq_true, isB_0, isB_1, nI_clamp, nI_nneg, Nat.zero_add, Nat.le_refl]; done) | omega) only [xX10_change_85, xX10_change_87, xX10_change_90, xX10_change_91, xX10_change_93, xX10_change_95, xX10_change_98, xX10_change_101, xX10_change_104, xX10_change_107, xX10_change_108, cK_some, ofR_some, ofR_none, Option.toList_some, Option.toList_none, List.cons_append, List.nil_append, isL_i, isL_r, isL_u, isL_2, cs_0, cs_i, cs_r, cs_l, cs_ii, cs_ir, cs_ri, cs_rr, cs_iir, cs_irr, nI_lt, nI_nlt, nI_le, nI_ge, nI_pos, pk_sub, nI_clamp, s2_ne, s2_o, s2_s, nI_add, inb_n, nI_nn, zq0, zq1, ↓reduceIte]
      | succ f ih =>
        intro o2 lo hi I2 h1 h2 h3 h3' h4
        have es : revO o2 lo hi (f + 1) = if lo < hi then revO (swp o2 lo hi) (lo + 1) (hi - 1) f else o2 := rfl
        rw [es]
        by_cases c : lo < hi
        · rw [if_pos c]
          have hsw := rn_swap (d := d) hw hN h1 (show lo < N by omega) h3
          obtain ⟨I', g1, g2, g3⟩ := ih (swp o2 lo hi) (lo + 1) (hi - 1) _ (h1.swp (i := lo) (j := hi)) (swp_lt h2 (by omega) h3) (by omega) (by omega) (by omega)
          refine ⟨I', ?_, g2, (hfr _ _ _ _ _).tr g3⟩
          have hs : nI hi + (-1) = nI (hi - 1) := by
            have := pk_m1 (hi - 1)
            rw [show hi - 1 + 1 = hi by omega] at this
            exact this
          rw [xX10_change_83]
          simp (disch := first | assumption | (simp (disch := omega) only [cK_some, ofR_some, ofR_none, Option.toList_some, Option.toList_none, List.cons_append, List.nil_append, isL_i, isL_r, isL_u, isL_2, cs_0, cs_i, cs_r, cs_l, cs_ii, cs_ir, cs_ri, cs_rr, cs_iir, cs_irr, w1, inb_n, bq4, bq5, n100, not_false_eq_true, isB_0, isB_1, nI_clamp, nI_nneg, Nat.zero_add, Nat.le_refl]; done) | omega) only [xX10_change_85, xX10_change_87, xX10_change_90, xX10_change_91, xX10_change_93, xX10_change_95, xX10_change_98, xX10_change_101, xX10_change_104, cK_some, ofR_some, ofR_none, Option.toList_some, Option.toList_none, List.cons_append, List.nil_append, isL_i, isL_r, isL_u, isL_2, cs_0, cs_i, cs_r, cs_l, cs_ii, cs_ir, cs_ri, cs_rr, cs_iir, cs_irr, hsw, hs, nI_lt, nI_nlt, nI_le, nI_ge, nI_pos, pk_sub, nI_clamp, s2_ne, s2_o, s2_s, nI_add, inb_n, nI_nn, zq0, zq1, ↓reduceIte]
          exact g1
        · rw [if_neg c]
          refine ⟨I2, ?_, h1, Fr.rf⟩
          rw [xX10_change_83]
          simp (disch := first | assumption | (simp (disch := omega) only [cK_some, ofR_some, ofR_none, Option.toList_some, Option.toList_none, List.cons_append, List.nil_append, isL_i, isL_r, isL_u, isL_2, cs_0, cs_i, cs_r, cs_l, cs_ii, cs_ir, cs_ri, cs_rr, cs_iir, cs_irr, inb_n, bq4, bq5, n100, not_false_eq_true, isB_0, isB_1, nI_clamp, nI_nneg, Nat.zero_add, Nat.le_refl]; done) | omega) only [xX10_change_85, xX10_change_87, xX10_change_90, xX10_change_91, xX10_change_93, xX10_change_95, xX10_change_98, xX10_change_101, xX10_change_104, xX10_change_107, xX10_change_108, cK_some, ofR_some, ofR_none, Option.toList_some, Option.toList_none, List.cons_append, List.nil_append, isL_i, isL_r, isL_u, isL_2, cs_0, cs_i, cs_r, cs_l, cs_ii, cs_ir, cs_ri, cs_rr, cs_iir, cs_irr, nI_lt, nI_nlt, nI_le, nI_ge, nI_pos, pk_sub, nI_clamp, s2_ne, s2_o, s2_s, nI_add, inb_n, nI_nn, zq0, zq1, ↓reduceIte]
    have hoth := oth_lt (o := o) (p := p) (N - 1)
    have hsw := rn_swap (d := d) hw hN ho (show p < N by omega) (show oth o p (N - 1) < N by omega)
    obtain ⟨I', g1, g2, g3⟩ := l3 6 (swp o p (oth o p (N - 1))) (p + 1) (N - 1) _ (ho.swp) (swp_lt hb (by omega) (by omega)) (by omega) (by omega) (by omega)
    rw [hnx]
    refine ⟨I', ?_, fun p' o' h => ?_, (fun h => by cases h), (hfr _ _ _ _ _).tr g3⟩
    · simp (disch := first | assumption | (simp (disch := omega) only [cK_some, ofR_some, ofR_none, Option.toList_some, Option.toList_none, List.cons_append, List.nil_append, isL_i, isL_r, isL_u, isL_2, cs_0, cs_i, cs_r, cs_l, cs_ii, cs_ir, cs_ri, cs_rr, cs_iir, cs_irr, inb_n, bq4, bq5, n100, not_false_eq_true, isB_0, isB_1, nI_clamp, nI_nneg, Nat.zero_add, Nat.le_refl]; done) | omega) only [xX10_change_0, xX10_change_1, xX10_change_2, xX10_change_3, cK_some, ofR_some, ofR_none, Option.toList_some, Option.toList_none, List.cons_append, List.nil_append, isL_i, isL_r, isL_u, isL_2, cs_0, cs_i, cs_r, cs_l, cs_ii, cs_ir, cs_ri, cs_rr, cs_iir, cs_irr, rX10_change, hst1, nI_lt, nI_nlt, nI_le, nI_ge, nI_pos, pk_sub, nI_clamp, s2_ne, s2_o, s2_s, nI_add, inb_n, nI_nn, zq0, zq1, ↓reduceIte]
      refine Eq.trans h1 ?_
      try dsimp only
      simp (disch := first | assumption | (simp (disch := omega) only [cK_some, ofR_some, ofR_none, Option.toList_some, Option.toList_none, List.cons_append, List.nil_append, isL_i, isL_r, isL_u, isL_2, cs_0, cs_i, cs_r, cs_l, cs_ii, cs_ir, cs_ri, cs_rr, cs_iir, cs_irr, inb_n, bq4, bq5, n100, not_false_eq_true, isB_0, isB_1, nI_clamp, nI_nneg, Nat.zero_add, Nat.le_refl]; done) | omega) only [xX10_change_31, xX10_change_32, xX10_change_35, xX10_change_36, xX10_change_37, xX10_change_38, xX10_change_39, xX10_change_40, cK_some, ofR_some, ofR_none, Option.toList_some, Option.toList_none, List.cons_append, List.nil_append, isL_i, isL_r, isL_u, isL_2, cs_0, cs_i, cs_r, cs_l, cs_ii, cs_ir, cs_ri, cs_rr, cs_iir, cs_irr, nI_lt, nI_nlt, nI_le, nI_ge, nI_pos, pk_sub, nI_clamp, s2_ne, s2_o, s2_s, nI_add, inb_n, nI_nn, zq0, zq1, ↓reduceIte]
      refine Eq.trans h2 ?_
      simp (disch := first | assumption | (simp (disch := omega) only [cK_some, ofR_some, ofR_none, Option.toList_some, Option.toList_none, List.cons_append, List.nil_append, isL_i, isL_r, isL_u, isL_2, cs_0, cs_i, cs_r, cs_l, cs_ii, cs_ir, cs_ri, cs_rr, cs_iir, cs_irr, w1, inb_n, bq4, bq5, n100, not_false_eq_true, isB_0, isB_1, nI_clamp, nI_nneg, Nat.zero_add, Nat.le_refl]; done) | omega) only [xX10_change_67, xX10_change_68, xX10_change_69, xX10_change_70, xX10_change_73, xX10_change_74, xX10_change_75, xX10_change_76, xX10_change_78, xX10_change_79, xX10_change_80, xX10_change_81, cK_some, ofR_some, ofR_none, Option.toList_some, Option.toList_none, List.cons_append, List.nil_append, isL_i, isL_r, isL_u, isL_2, cs_0, cs_i, cs_r, cs_l, cs_ii, cs_ir, cs_ri, cs_rr, cs_iir, cs_irr, hsw, nI_lt, nI_nlt, nI_le, nI_ge, nI_pos, pk_sub, nI_clamp, s2_ne, s2_o, s2_s, nI_add, inb_n, nI_nn, zq0, zq1, ↓reduceIte]
      exact g1
    · cases h
      exact ⟨g2, by omega⟩

/-- how big the bathers are -/
def SzV (I : Im) (s : Nat) (h : Sp) (bz : Nat → Nat) : Prop := ∀ b, b < hN h → I (s + 8 + 4) b = nI (bz b) ∧ bz b ≤ 9
def wI (h : Sp) (bz : Nat → Nat) (q : Qp) (r b : Nat) : Int32 := match r with
  | 1 => nI (bz b)
  | 2 => -nI (bz b)
  | 3 => -nI (qD q b)
  | 4 => -nI (hChill h b)
  | _ => nI 0
/-- who ranks behind -/
def rk (h : Sp) (bz : Nat → Nat) (q : Qp) (r b : Nat) : Nat := match r with
  | 1 => bz b
  | 2 => 9 - bz b
  | 3 => 99 - qD q b
  | 4 => 18 - hChill h b
  | _ => 0
theorem neg_lt {a b : Nat} (ha : a < 2 ^ 30) (hb : b < 2 ^ 30) : (-nI a < -nI b) = (b < a) := by
  have e : ∀ n, n < 2 ^ 30 → (-nI n).toInt = -(n : Int) := by
    intro n hn
    have h := pk_sub_toInt (a := 0) (b := n) (by omega) hn
    rw [show nI 0 - nI n = -nI n by rw [nI_0, Int32.zero_sub]] at h
    omega
  rw [Int32.lt_iff_toInt_lt, e a ha, e b hb]
  exact propext (by omega)
theorem wI_lt {h : Sp} {bz : Nat → Nat} {q : Qp} {r x y : Nat} (hx : bz x ≤ 9 ∧ qD q x ≤ 99 ∧ hChill h x ≤ 18) (hy : bz y ≤ 9 ∧ qD q y ≤ 99 ∧ hChill h y ≤ 18) (hr : r < 5) : (wI h bz q r x < wI h bz q r y) = (rk h bz q r x < rk h bz q r y) := by
  have h5 : r = 0 ∨ r = 1 ∨ r = 2 ∨ r = 3 ∨ r = 4 := by omega
  rcases h5 with e | e | e | e | e <;> subst e
  · exact propext ⟨fun c => absurd c (Int32.lt_irrefl), fun c => absurd c (Nat.lt_irrefl _)⟩
  · exact propext (nI_ltI (by omega) (by omega))
  · show (-nI (bz x) < -nI (bz y)) = (9 - bz x < 9 - bz y)
    rw [neg_lt (by omega) (by omega)]; exact propext (by omega)
  · show (-nI (qD q x) < -nI (qD q y)) = (99 - qD q x < 99 - qD q y)
    rw [neg_lt (by omega) (by omega)]; exact propext (by omega)
  · show (-nI (hChill h x) < -nI (hChill h y)) = (18 - hChill h x < 18 - hChill h y)
    rw [neg_lt (by omega) (by omega)]; exact propext (by omega)
theorem rn_weigh {d a s b r : Nat} {h : Sp} {q : Qp} {bz : Nat → Nat} {G : Gm} {I : Im} (K : CT G I a s h q) (hz : SzV I s h bz) (hb : b < hN h) (hr : r < 5) :
    run d mX10_weigh [.ref s, .ref a, .int (nI r), .int (nI b)] G I = some (some (.int (wI h bz q r b)), G, I) := by
  obtain ⟨ha, hs, hd, hv, ho, hq, hqo⟩ := K
  have hN6 := ho.1
  have e1 := (hz b hb).1
  have e2 := (hq.1 b hb).1
  have e3 := (hv.2.2.1 b hb).2.2
  have ha_1 := ha.1; have ha_2 := ha.2.1; have ha_3 := ha.2.2.1; have ha_4 := ha.2.2.2.1; have ha_5 := ha.2.2.2.2.1; have ha_6 := ha.2.2.2.2.2.1; have ha_7 := ha.2.2.2.2.2.2; have hs_1 := hs.1; have hs_2 := hs.2.1; have hs_3 := hs.2.2.1; have hs_4 := hs.2.2.2.1; have hs_5 := hs.2.2.2.2.1; have hs_6 := hs.2.2.2.2.2.1; have hs_7 := (hs.2.2.2.2.2.2.1).1; have hs_8 := (hs.2.2.2.2.2.2.1).2.1; have hs_9 := (hs.2.2.2.2.2.2.1).2.2.1; have hs_10 := (hs.2.2.2.2.2.2.1).2.2.2.1; have hs_11 := (hs.2.2.2.2.2.2.1).2.2.2.2.1; have hs_12 := (hs.2.2.2.2.2.2.1).2.2.2.2.2.1; have hs_13 := (hs.2.2.2.2.2.2.1).2.2.2.2.2.2.1; have hs_14 := (hs.2.2.2.2.2.2.1).2.2.2.2.2.2.2.1; have hs_15 := (hs.2.2.2.2.2.2.1).2.2.2.2.2.2.2.2.1; have hs_16 := (hs.2.2.2.2.2.2.1).2.2.2.2.2.2.2.2.2.1; have hs_17 := (hs.2.2.2.2.2.2.1).2.2.2.2.2.2.2.2.2.2.1; have hs_18 := (hs.2.2.2.2.2.2.1).2.2.2.2.2.2.2.2.2.2.2.1; have hs_19 := (hs.2.2.2.2.2.2.1).2.2.2.2.2.2.2.2.2.2.2.2; have hs_20 := (hs.2.2.2.2.2.2.2.1).1; have hs_21 := (hs.2.2.2.2.2.2.2.1).2.1; have hs_22 := (hs.2.2.2.2.2.2.2.1).2.2.1; have hs_23 := (hs.2.2.2.2.2.2.2.1).2.2.2.1; have hs_24 := (hs.2.2.2.2.2.2.2.1).2.2.2.2.1; have hs_25 := (hs.2.2.2.2.2.2.2.1).2.2.2.2.2.1; have hs_26 := (hs.2.2.2.2.2.2.2.1).2.2.2.2.2.2.1; have hs_27 := (hs.2.2.2.2.2.2.2.1).2.2.2.2.2.2.2.1; have hs_28 := (hs.2.2.2.2.2.2.2.1).2.2.2.2.2.2.2.2.1; have hs_29 := (hs.2.2.2.2.2.2.2.1).2.2.2.2.2.2.2.2.2.1; have hs_30 := (hs.2.2.2.2.2.2.2.1).2.2.2.2.2.2.2.2.2.2.1; have hs_31 := (hs.2.2.2.2.2.2.2.1).2.2.2.2.2.2.2.2.2.2.2.1; have hs_32 := (hs.2.2.2.2.2.2.2.1).2.2.2.2.2.2.2.2.2.2.2.2; have hs_33 := hs.2.2.2.2.2.2.2.2.1; have hs_34 := hs.2.2.2.2.2.2.2.2.2.2
  have h5 : r = 0 ∨ r = 1 ∨ r = 2 ∨ r = 3 ∨ r = 4 := by omega
  rcases h5 with e | e | e | e | e <;> subst e
  · have ts : ∀ {ls st}, tsw d mX10_weigh 1 ls st G I 71 1 4 #[31, 41, 52, 60] (nI 0) = ex d mX10_weigh 72 ls st G I := tsw_out (by decide) rfl
    simp (disch := first | assumption | (simp (disch := omega) only [cK_some, ofR_some, ofR_none, Option.toList_some, Option.toList_none, List.cons_append, List.nil_append, isL_i, isL_r, isL_u, isL_2, cs_0, cs_i, cs_r, cs_l, cs_ii, cs_ir, cs_ri, cs_rr, cs_iir, cs_irr, ha_1, ha_2, ha_3, ha_4, ha_5, ha_6, ha_7, hs_1, hs_2, hs_3, hs_4, hs_5, hs_6, hs_7, hs_8, hs_9, hs_10, hs_11, hs_12, hs_13, hs_14, hs_15, hs_16, hs_17, hs_18, hs_19, hs_20, hs_21, hs_22, hs_23, hs_24, hs_25, hs_26, hs_27, hs_28, hs_29, hs_30, hs_31, hs_32, hs_33, hs_34, inb_n, bq4, bq5, n100, not_false_eq_true, isB_0, isB_1, nI_clamp, nI_nneg, Nat.zero_add, Nat.le_refl]; done) | omega) only [xX10_weigh_0, xX10_weigh_1, xX10_weigh_32, xX10_weigh_33, xX10_weigh_36, xX10_weigh_39, xX10_weigh_40, xX10_weigh_41, xX10_weigh_42, xX10_weigh_43, xX10_weigh_46, xX10_weigh_49, xX10_weigh_50, xX10_weigh_51, xX10_weigh_52, xX10_weigh_53, xX10_weigh_54, xX10_weigh_57, xX10_weigh_58, xX10_weigh_59, xX10_weigh_60, xX10_weigh_61, xX10_weigh_62, xX10_weigh_65, xX10_weigh_68, xX10_weigh_69, xX10_weigh_70, xX10_weigh_71, xX10_weigh_72, xX10_weigh_73, cK_some, ofR_some, ofR_none, Option.toList_some, Option.toList_none, List.cons_append, List.nil_append, isL_i, isL_r, isL_u, isL_2, cs_0, cs_i, cs_r, cs_l, cs_ii, cs_ir, cs_ri, cs_rr, cs_iir, cs_irr, ha_1, ha_2, ha_3, ha_4, ha_5, ha_6, ha_7, hs_1, hs_2, hs_3, hs_4, hs_5, hs_6, hs_7, hs_8, hs_9, hs_10, hs_11, hs_12, hs_13, hs_14, hs_15, hs_16, hs_17, hs_18, hs_19, hs_20, hs_21, hs_22, hs_23, hs_24, hs_25, hs_26, hs_27, hs_28, hs_29, hs_30, hs_31, hs_32, hs_33, hs_34, rX10_weigh, ts, wI, nI_lt, nI_nlt, nI_le, nI_ge, nI_pos, pk_sub, nI_clamp, s2_ne, s2_o, s2_s, nI_add, inb_n, nI_nn, zq0, zq1, ↓reduceIte]
  · have ts : ∀ {ls st}, tsw d mX10_weigh 1 ls st G I 71 1 4 #[31, 41, 52, 60] (nI 1) = ex d mX10_weigh 32 ls st G I := tsw_in (by decide) (by decide) rfl rfl
    simp (disch := first | assumption | (simp (disch := omega) only [cK_some, ofR_some, ofR_none, Option.toList_some, Option.toList_none, List.cons_append, List.nil_append, isL_i, isL_r, isL_u, isL_2, cs_0, cs_i, cs_r, cs_l, cs_ii, cs_ir, cs_ri, cs_rr, cs_iir, cs_irr, ha_1, ha_2, ha_3, ha_4, ha_5, ha_6, ha_7, hs_1, hs_2, hs_3, hs_4, hs_5, hs_6, hs_7, hs_8, hs_9, hs_10, hs_11, hs_12, hs_13, hs_14, hs_15, hs_16, hs_17, hs_18, hs_19, hs_20, hs_21, hs_22, hs_23, hs_24, hs_25, hs_26, hs_27, hs_28, hs_29, hs_30, hs_31, hs_32, hs_33, hs_34, inb_n, bq4, bq5, n100, not_false_eq_true, isB_0, isB_1, nI_clamp, nI_nneg, Nat.zero_add, Nat.le_refl]; done) | omega) only [xX10_weigh_0, xX10_weigh_1, xX10_weigh_32, xX10_weigh_33, xX10_weigh_36, xX10_weigh_39, xX10_weigh_40, xX10_weigh_41, xX10_weigh_42, xX10_weigh_43, xX10_weigh_46, xX10_weigh_49, xX10_weigh_50, xX10_weigh_51, xX10_weigh_52, xX10_weigh_53, xX10_weigh_54, xX10_weigh_57, xX10_weigh_58, xX10_weigh_59, xX10_weigh_60, xX10_weigh_61, xX10_weigh_62, xX10_weigh_65, xX10_weigh_68, xX10_weigh_69, xX10_weigh_70, xX10_weigh_71, xX10_weigh_72, xX10_weigh_73, cK_some, ofR_some, ofR_none, Option.toList_some, Option.toList_none, List.cons_append, List.nil_append, isL_i, isL_r, isL_u, isL_2, cs_0, cs_i, cs_r, cs_l, cs_ii, cs_ir, cs_ri, cs_rr, cs_iir, cs_irr, ha_1, ha_2, ha_3, ha_4, ha_5, ha_6, ha_7, hs_1, hs_2, hs_3, hs_4, hs_5, hs_6, hs_7, hs_8, hs_9, hs_10, hs_11, hs_12, hs_13, hs_14, hs_15, hs_16, hs_17, hs_18, hs_19, hs_20, hs_21, hs_22, hs_23, hs_24, hs_25, hs_26, hs_27, hs_28, hs_29, hs_30, hs_31, hs_32, hs_33, hs_34, rX10_weigh, ts, wI, e1, nI_lt, nI_nlt, nI_le, nI_ge, nI_pos, pk_sub, nI_clamp, s2_ne, s2_o, s2_s, nI_add, inb_n, nI_nn, zq0, zq1, ↓reduceIte]
  · have ts : ∀ {ls st}, tsw d mX10_weigh 1 ls st G I 71 1 4 #[31, 41, 52, 60] (nI 2) = ex d mX10_weigh 42 ls st G I := tsw_in (by decide) (by decide) rfl rfl
    simp (disch := first | assumption | (simp (disch := omega) only [cK_some, ofR_some, ofR_none, Option.toList_some, Option.toList_none, List.cons_append, List.nil_append, isL_i, isL_r, isL_u, isL_2, cs_0, cs_i, cs_r, cs_l, cs_ii, cs_ir, cs_ri, cs_rr, cs_iir, cs_irr, ha_1, ha_2, ha_3, ha_4, ha_5, ha_6, ha_7, hs_1, hs_2, hs_3, hs_4, hs_5, hs_6, hs_7, hs_8, hs_9, hs_10, hs_11, hs_12, hs_13, hs_14, hs_15, hs_16, hs_17, hs_18, hs_19, hs_20, hs_21, hs_22, hs_23, hs_24, hs_25, hs_26, hs_27, hs_28, hs_29, hs_30, hs_31, hs_32, hs_33, hs_34, inb_n, bq4, bq5, n100, not_false_eq_true, isB_0, isB_1, nI_clamp, nI_nneg, Nat.zero_add, Nat.le_refl]; done) | omega) only [xX10_weigh_0, xX10_weigh_1, xX10_weigh_32, xX10_weigh_33, xX10_weigh_36, xX10_weigh_39, xX10_weigh_40, xX10_weigh_41, xX10_weigh_42, xX10_weigh_43, xX10_weigh_46, xX10_weigh_49, xX10_weigh_50, xX10_weigh_51, xX10_weigh_52, xX10_weigh_53, xX10_weigh_54, xX10_weigh_57, xX10_weigh_58, xX10_weigh_59, xX10_weigh_60, xX10_weigh_61, xX10_weigh_62, xX10_weigh_65, xX10_weigh_68, xX10_weigh_69, xX10_weigh_70, xX10_weigh_71, xX10_weigh_72, xX10_weigh_73, cK_some, ofR_some, ofR_none, Option.toList_some, Option.toList_none, List.cons_append, List.nil_append, isL_i, isL_r, isL_u, isL_2, cs_0, cs_i, cs_r, cs_l, cs_ii, cs_ir, cs_ri, cs_rr, cs_iir, cs_irr, ha_1, ha_2, ha_3, ha_4, ha_5, ha_6, ha_7, hs_1, hs_2, hs_3, hs_4, hs_5, hs_6, hs_7, hs_8, hs_9, hs_10, hs_11, hs_12, hs_13, hs_14, hs_15, hs_16, hs_17, hs_18, hs_19, hs_20, hs_21, hs_22, hs_23, hs_24, hs_25, hs_26, hs_27, hs_28, hs_29, hs_30, hs_31, hs_32, hs_33, hs_34, rX10_weigh, ts, wI, e1, nI_lt, nI_nlt, nI_le, nI_ge, nI_pos, pk_sub, nI_clamp, s2_ne, s2_o, s2_s, nI_add, inb_n, nI_nn, zq0, zq1, ↓reduceIte]
  · have ts : ∀ {ls st}, tsw d mX10_weigh 1 ls st G I 71 1 4 #[31, 41, 52, 60] (nI 3) = ex d mX10_weigh 53 ls st G I := tsw_in (by decide) (by decide) rfl rfl
    simp (disch := first | assumption | (simp (disch := omega) only [cK_some, ofR_some, ofR_none, Option.toList_some, Option.toList_none, List.cons_append, List.nil_append, isL_i, isL_r, isL_u, isL_2, cs_0, cs_i, cs_r, cs_l, cs_ii, cs_ir, cs_ri, cs_rr, cs_iir, cs_irr, ha_1, ha_2, ha_3, ha_4, ha_5, ha_6, ha_7, hs_1, hs_2, hs_3, hs_4, hs_5, hs_6, hs_7, hs_8, hs_9, hs_10, hs_11, hs_12, hs_13, hs_14, hs_15, hs_16, hs_17, hs_18, hs_19, hs_20, hs_21, hs_22, hs_23, hs_24, hs_25, hs_26, hs_27, hs_28, hs_29, hs_30, hs_31, hs_32, hs_33, hs_34, inb_n, bq4, bq5, n100, not_false_eq_true, isB_0, isB_1, nI_clamp, nI_nneg, Nat.zero_add, Nat.le_refl]; done) | omega) only [xX10_weigh_0, xX10_weigh_1, xX10_weigh_32, xX10_weigh_33, xX10_weigh_36, xX10_weigh_39, xX10_weigh_40, xX10_weigh_41, xX10_weigh_42, xX10_weigh_43, xX10_weigh_46, xX10_weigh_49, xX10_weigh_50, xX10_weigh_51, xX10_weigh_52, xX10_weigh_53, xX10_weigh_54, xX10_weigh_57, xX10_weigh_58, xX10_weigh_59, xX10_weigh_60, xX10_weigh_61, xX10_weigh_62, xX10_weigh_65, xX10_weigh_68, xX10_weigh_69, xX10_weigh_70, xX10_weigh_71, xX10_weigh_72, xX10_weigh_73, cK_some, ofR_some, ofR_none, Option.toList_some, Option.toList_none, List.cons_append, List.nil_append, isL_i, isL_r, isL_u, isL_2, cs_0, cs_i, cs_r, cs_l, cs_ii, cs_ir, cs_ri, cs_rr, cs_iir, cs_irr, ha_1, ha_2, ha_3, ha_4, ha_5, ha_6, ha_7, hs_1, hs_2, hs_3, hs_4, hs_5, hs_6, hs_7, hs_8, hs_9, hs_10, hs_11, hs_12, hs_13, hs_14, hs_15, hs_16, hs_17, hs_18, hs_19, hs_20, hs_21, hs_22, hs_23, hs_24, hs_25, hs_26, hs_27, hs_28, hs_29, hs_30, hs_31, hs_32, hs_33, hs_34, rX10_weigh, ts, wI, e2, nI_lt, nI_nlt, nI_le, nI_ge, nI_pos, pk_sub, nI_clamp, s2_ne, s2_o, s2_s, nI_add, inb_n, nI_nn, zq0, zq1, ↓reduceIte]
  · have ts : ∀ {ls st}, tsw d mX10_weigh 1 ls st G I 71 1 4 #[31, 41, 52, 60] (nI 4) = ex d mX10_weigh 61 ls st G I := tsw_in (by decide) (by decide) rfl rfl
    simp (disch := first | assumption | (simp (disch := omega) only [cK_some, ofR_some, ofR_none, Option.toList_some, Option.toList_none, List.cons_append, List.nil_append, isL_i, isL_r, isL_u, isL_2, cs_0, cs_i, cs_r, cs_l, cs_ii, cs_ir, cs_ri, cs_rr, cs_iir, cs_irr, ha_1, ha_2, ha_3, ha_4, ha_5, ha_6, ha_7, hs_1, hs_2, hs_3, hs_4, hs_5, hs_6, hs_7, hs_8, hs_9, hs_10, hs_11, hs_12, hs_13, hs_14, hs_15, hs_16, hs_17, hs_18, hs_19, hs_20, hs_21, hs_22, hs_23, hs_24, hs_25, hs_26, hs_27, hs_28, hs_29, hs_30, hs_31, hs_32, hs_33, hs_34, inb_n, bq4, bq5, n100, not_false_eq_true, isB_0, isB_1, nI_clamp, nI_nneg, Nat.zero_add, Nat.le_refl]; done) | omega) only [xX10_weigh_0, xX10_weigh_1, xX10_weigh_32, xX10_weigh_33, xX10_weigh_36, xX10_weigh_39, xX10_weigh_40, xX10_weigh_41, xX10_weigh_42, xX10_weigh_43, xX10_weigh_46, xX10_weigh_49, xX10_weigh_50, xX10_weigh_51, xX10_weigh_52, xX10_weigh_53, xX10_weigh_54, xX10_weigh_57, xX10_weigh_58, xX10_weigh_59, xX10_weigh_60, xX10_weigh_61, xX10_weigh_62, xX10_weigh_65, xX10_weigh_68, xX10_weigh_69, xX10_weigh_70, xX10_weigh_71, xX10_weigh_72, xX10_weigh_73, cK_some, ofR_some, ofR_none, Option.toList_some, Option.toList_none, List.cons_append, List.nil_append, isL_i, isL_r, isL_u, isL_2, cs_0, cs_i, cs_r, cs_l, cs_ii, cs_ir, cs_ri, cs_rr, cs_iir, cs_irr, ha_1, ha_2, ha_3, ha_4, ha_5, ha_6, ha_7, hs_1, hs_2, hs_3, hs_4, hs_5, hs_6, hs_7, hs_8, hs_9, hs_10, hs_11, hs_12, hs_13, hs_14, hs_15, hs_16, hs_17, hs_18, hs_19, hs_20, hs_21, hs_22, hs_23, hs_24, hs_25, hs_26, hs_27, hs_28, hs_29, hs_30, hs_31, hs_32, hs_33, hs_34, rX10_weigh, ts, wI, e3, nI_lt, nI_nlt, nI_le, nI_ge, nI_pos, pk_sub, nI_clamp, s2_ne, s2_o, s2_s, nI_add, inb_n, nI_nn, zq0, zq1, ↓reduceIte]
/-- where the k-th goes among k, and the order then -/
def plc (f : Nat → Nat) (o : Nat → Nat) (n : Nat) : Nat → Nat
  | 0 => 0
  | k + 1 => if f n < f (o k) then plc f o n k else k + 1
def insO (o : Nat → Nat) (n p : Nat) : Nat → Nat := fun j => if j < p then o j else if j = p then n else o (j - 1)
def arrO (f : Nat → Nat) (N : Nat) : Nat → Nat := fo (fun k => k) (fun o n => insO o n (plc f o n n)) N
theorem plc_le {f o : Nat → Nat} {n : Nat} : ∀ k, plc f o n k ≤ k
  | 0 => Nat.le_refl _
  | k + 1 => by
    show (if f n < f (o k) then plc f o n k else k + 1) ≤ k + 1
    split
    · have := plc_le (f := f) (o := o) (n := n) k; omega
    · exact Nat.le_refl _
theorem arrO_lt {f : Nat → Nat} : ∀ n k, k < n → arrO f n k < n
  | 0, k, h => absurd h (by omega)
  | n + 1, k, h => by
    show insO (arrO f n) n (plc f (arrO f n) n n) k < n + 1
    unfold insO
    have hp := plc_le (f := f) (o := arrO f n) (n := n) n
    split
    · have := arrO_lt (f := f) n k (by omega); omega
    · split
      · omega
      · have := arrO_lt (f := f) n (k - 1) (by omega); omega
