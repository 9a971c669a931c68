/-! orders that fit: one more, none, where to look -/
abbrev Fst : Type := Nat × (Nat → Nat → Nat) × (Nat → Nat) × (Nat → Nat → Nat)
def FiS (I : Im) (f N P : Nat) (st : Fst) : Prop := I f 1 = nI st.1 ∧ (∀ i, i < st.1 → I (f + 1) i = nI (pko (st.2.1 i) N)) ∧ (∀ b, b < 6 → I (f + 2) b = nI (st.2.2.1 b)) ∧ (∀ p, p < P → ∀ D, D < 100 → I (f + 4 + p) D = nI (st.2.2.2 p D))
def inFi (f c : Nat) : Prop := f ≤ c ∧ c ≤ f + 13
def plA (o : Nat → Nat) (pl : Nat → Nat) (n : Nat) : Nat → Nat := fo pl (fun m k => up m (o k) (m (o k) ||| 2 ^ k)) n
def lvA (q : Qp) (lv : Nat → Nat → Nat) (n : Nat) : Nat → Nat → Nat := fun p D => if p < n ∧ D = qP q p then lv p D + 1 else lv p D
def upF (L : Nat → Nat → Nat) (c : Nat) (o : Nat → Nat) : Nat → Nat → Nat := fun j => if j = c then o else L j
def fiA (h : Sp) (q : Qp) (o : Nat → Nat) (st : Fst) : Fst := (st.1 + 1, upF st.2.1 st.1 o, plA o st.2.2.1 (hN h), lvA q st.2.2.2 (hP h))
theorem plA_lt {o pl : Nat → Nat} (hpl : ∀ b, pl b < 64) : ∀ n, n ≤ 6 → ∀ b, plA o pl n b < 64
  | 0, _, b => hpl b
  | n + 1, hn, b => by
    have ih := plA_lt (o := o) hpl n (by omega)
    show up (plA o pl n) (o n) (plA o pl n (o n) ||| 2 ^ n) b < 64
    by_cases e : b = o n
    · rw [e, up_s]; exact (shk ⟨_, ih (o n)⟩ ⟨n, by omega⟩).2
    · rw [up_o e]; exact ih b
theorem rn_fiAdd {d a s f w : Nat} {h : Sp} {q : Qp} {o : Nat → Nat} {st : Fst} {G : Gm} {I : Im} (hf : FiL G f) (hw : Wk G w) (K : CT G I a s h q) (hO : OrV I w (hN h) o) (hol : ∀ k, k < hN h → o k < hN h) (S : FiS I f (hN h) (hP h) st) (hc : st.1 < 720) (hpl : ∀ b, st.2.2.1 b < 64) (hfs : f + 13 < s ∨ s + 81 < f) (hfa : f + 13 < a ∨ a + 3 < f) (hfw : f + 13 < w ∨ w + 30 < f) :
    ∃ I', run d mX2_add [.ref f, .ref s, .ref a, .ref (w + 1)] G I = some (none, G, I') ∧ FiS I' f (hN h) (hP h) (fiA h q o st) ∧ (∀ c, ¬ (c = f ∨ c = f + 1 ∨ c = f + 2 ∨ (f + 4 ≤ c ∧ c ≤ f + 9)) → I' c = I c) ∧ (∀ j, j ≠ 1 → I' f j = I f j) := by
  obtain ⟨f1, f2, f3, f4, f5, f6, f7, f8, f9, f10⟩ := hf
  obtain ⟨w1, w2, w3, w4, -⟩ := hw
  obtain ⟨ha, hs, hd, hv, hsp, hq, hqo⟩ := id K
  obtain ⟨st1, st2, st3, st4⟩ := S
  have hN6 := hsp.1
  have hP6 := hsp.2.1
  have ha_1 := ha.1; have ha_2 := ha.2.1; have ha_3 := ha.2.2.1; have ha_4 := ha.2.2.2.1; have ha_5 := ha.2.2.2.2.1; have ha_6 := ha.2.2.2.2.2.1; have ha_7 := ha.2.2.2.2.2.2; have hs_1 := hs.1; have hs_2 := hs.2.1; have hs_3 := hs.2.2.1; have hs_4 := hs.2.2.2.1; have hs_5 := hs.2.2.2.2.1; have hs_6 := hs.2.2.2.2.2.1; have hs_7 := (hs.2.2.2.2.2.2.1).1; have hs_8 := (hs.2.2.2.2.2.2.1).2.1; have hs_9 := (hs.2.2.2.2.2.2.1).2.2.1; have hs_10 := (hs.2.2.2.2.2.2.1).2.2.2.1; have hs_11 := (hs.2.2.2.2.2.2.1).2.2.2.2.1; have hs_12 := (hs.2.2.2.2.2.2.1).2.2.2.2.2.1; have hs_13 := (hs.2.2.2.2.2.2.1).2.2.2.2.2.2.1; have hs_14 := (hs.2.2.2.2.2.2.1).2.2.2.2.2.2.2.1; have hs_15 := (hs.2.2.2.2.2.2.1).2.2.2.2.2.2.2.2.1; have hs_16 := (hs.2.2.2.2.2.2.1).2.2.2.2.2.2.2.2.2.1; have hs_17 := (hs.2.2.2.2.2.2.1).2.2.2.2.2.2.2.2.2.2.1; have hs_18 := (hs.2.2.2.2.2.2.1).2.2.2.2.2.2.2.2.2.2.2.1; have hs_19 := (hs.2.2.2.2.2.2.1).2.2.2.2.2.2.2.2.2.2.2.2; have hs_20 := (hs.2.2.2.2.2.2.2.1).1; have hs_21 := (hs.2.2.2.2.2.2.2.1).2.1; have hs_22 := (hs.2.2.2.2.2.2.2.1).2.2.1; have hs_23 := (hs.2.2.2.2.2.2.2.1).2.2.2.1; have hs_24 := (hs.2.2.2.2.2.2.2.1).2.2.2.2.1; have hs_25 := (hs.2.2.2.2.2.2.2.1).2.2.2.2.2.1; have hs_26 := (hs.2.2.2.2.2.2.2.1).2.2.2.2.2.2.1; have hs_27 := (hs.2.2.2.2.2.2.2.1).2.2.2.2.2.2.2.1; have hs_28 := (hs.2.2.2.2.2.2.2.1).2.2.2.2.2.2.2.2.1; have hs_29 := (hs.2.2.2.2.2.2.2.1).2.2.2.2.2.2.2.2.2.1; have hs_30 := (hs.2.2.2.2.2.2.2.1).2.2.2.2.2.2.2.2.2.2.1; have hs_31 := (hs.2.2.2.2.2.2.2.1).2.2.2.2.2.2.2.2.2.2.2.1; have hs_32 := (hs.2.2.2.2.2.2.2.1).2.2.2.2.2.2.2.2.2.2.2.2; have hs_33 := hs.2.2.2.2.2.2.2.2.1; have hs_34 := hs.2.2.2.2.2.2.2.2.2.2
  -- who is where
  obtain ⟨z, g1, p1, p2⟩ := chainE (fun k (z : Im) => ex d mX2_add 17 [.val (.ref f), .val (.ref s), .val (.ref a), .val (.ref (w + 1)), .val (.int (nI (pko o k))), .val (.int (nI k))] [] G z) (fun k z => (∀ b, b < 6 → z (f + 2) b = nI (plA o st.2.2.1 k b)) ∧ Fr (fun c => c = f + 2) I z) (hN h) (fun k hk z hz => by
    obtain ⟨p1, p2⟩ := hz
    have hok := hol k hk
    have en : z (s + 8) 0 = nI (hN h) := by rw [p2 _ (by omega)]; exact hv.1.1
    have eo : z (w + 1) k = nI (o k) := by rw [p2 _ (by omega)]; exact hO k hk
    have epl := p1 (o k) (by omega)
    have hst := pko_step (m := pko o k) (x := o k) (k := k) (pko_lt k (fun j hj => by have := hol j (by omega); omega)) (by omega) (by omega)
    have hbo := bor ⟨_, plA_lt (o := o) hpl k (by omega) (o k)⟩ ⟨k, by omega⟩
    try dsimp only at hbo
    have es : pko o (k + 1) = pko o k + o k * 8 ^ k := rfl
    refine ⟨s2 z (f + 2) (o k) (nI (plA o st.2.2.1 k (o k) ||| 2 ^ k)), ?_, fun b hb => ?_, p2.s2 rfl⟩
    · try dsimp only
      rw [xX2_add_17, es]
      simp (disch := first | assumption | (simp (disch := omega) only [cK_some, ofR_some, ofR_none, Option.toList_some, Option.toList_none, List.cons_append, List.nil_append, isL_i, isL_r, isL_u, isL_2, cs_0, cs_i, cs_r, cs_l, cs_ii, cs_ir, cs_ri, cs_rr, cs_iir, cs_irr, ha_1, ha_2, ha_3, ha_4, ha_5, ha_6, ha_7, hs_1, hs_2, hs_3, hs_4, hs_5, hs_6, hs_7, hs_8, hs_9, hs_10, hs_11, hs_12, hs_13, hs_14, hs_15, hs_16, hs_17, hs_18, hs_19, hs_20, hs_21, hs_22, hs_23, hs_24, hs_25, hs_26, hs_27, hs_28, hs_29, hs_30, hs_31, hs_32, hs_33, hs_34, f1, f7, w4, inb_n, bq4, bq5, n100, not_false_eq_true, isB_0, isB_1, nI_clamp, nI_nneg, Nat.zero_add, Nat.le_refl]; done) | omega | (simp (disch := omega) only [cK_some, ofR_some, ofR_none, Option.toList_some, Option.toList_none, List.cons_append, List.nil_append, isL_i, isL_r, isL_u, isL_2, cs_0, cs_i, cs_r, cs_l, cs_ii, cs_ir, cs_ri, cs_rr, cs_iir, cs_irr, ha_1, ha_2, ha_3, ha_4, ha_5, ha_6, ha_7, hs_1, hs_2, hs_3, hs_4, hs_5, hs_6, hs_7, hs_8, hs_9, hs_10, hs_11, hs_12, hs_13, hs_14, hs_15, hs_16, hs_17, hs_18, hs_19, hs_20, hs_21, hs_22, hs_23, hs_24, hs_25, hs_26, hs_27, hs_28, hs_29, hs_30, hs_31, hs_32, hs_33, hs_34, f1, f7, w4, inb_n, bq4, bq5, n100, not_false_eq_true, isB_0, isB_1, nI_clamp, nI_nneg, Nat.zero_add, Nat.le_refl]; omega)) only [xX2_add_19, xX2_add_20, xX2_add_23, xX2_add_26, xX2_add_29, xX2_add_31, xX2_add_32, xX2_add_34, xX2_add_35, xX2_add_36, xX2_add_38, xX2_add_39, xX2_add_40, xX2_add_41, xX2_add_43, xX2_add_44, xX2_add_47, xX2_add_48, xX2_add_50, xX2_add_51, xX2_add_52, xX2_add_53, xX2_add_54, xX2_add_56, xX2_add_57, xX2_add_58, xX2_add_59, xX2_add_62, cK_some, ofR_some, ofR_none, Option.toList_some, Option.toList_none, List.cons_append, List.nil_append, isL_i, isL_r, isL_u, isL_2, cs_0, cs_i, cs_r, cs_l, cs_ii, cs_ir, cs_ri, cs_rr, cs_iir, cs_irr, ha_1, ha_2, ha_3, ha_4, ha_5, ha_6, ha_7, hs_1, hs_2, hs_3, hs_4, hs_5, hs_6, hs_7, hs_8, hs_9, hs_10, hs_11, hs_12, hs_13, hs_14, hs_15, hs_16, hs_17, hs_18, hs_19, hs_20, hs_21, hs_22, hs_23, hs_24, hs_25, hs_26, hs_27, hs_28, hs_29, hs_30, hs_31, hs_32, hs_33, hs_34, en, eo, epl, pk_mul, hst, hbo, f3, Nat.add_sub_cancel, nI_lt, nI_nlt, nI_le, nI_ge, nI_pos, pk_sub, nI_clamp, s2_ne, s2_o, s2_s, nI_add, inb_n, nI_nn, zq0, zq1, ↓reduceIte]
    · show _ = nI (up (plA o st.2.2.1 k) (o k) (plA o st.2.2.1 k (o k) ||| 2 ^ k) b)
      by_cases e : b = o k
      · rw [e, s2_s, up_s]
      · rw [s2_o e, up_o e]; exact p1 b hb) (I := I) ⟨st3, Fr.rf⟩
  try dsimp only at g1 p1 p2
  -- what they leave
  obtain ⟨y, g2, q1, q2, q3⟩ := chainE (fun p (y : Im) => ex d mX2_add 89 [.val (.ref f), .val (.ref s), .val (.ref a), .val (.ref (w + 1)), .val (.int (nI (pko o (hN h)))), .val (.int (nI p))] [] G y) (fun p y => (∀ p', p' < hP h → ∀ D, D < 100 → y (f + 4 + p') D = nI (lvA q st.2.2.2 p p' D)) ∧ Fr (fun c => c = f ∨ c = f + 1 ∨ c = f + 2 ∨ (f + 4 ≤ c ∧ c ≤ f + 9)) I y ∧ (y f = s2 (s2 z (f + 1) st.1 (nI (pko o (hN h)))) f 1 (nI (st.1 + 1)) f ∧ y (f + 1) = s2 (s2 z (f + 1) st.1 (nI (pko o (hN h)))) f 1 (nI (st.1 + 1)) (f + 1) ∧ y (f + 2) = z (f + 2))) (hP h) (fun p hp y hy => by
    obtain ⟨q1, q2, q3⟩ := hy
    have enP : y (s + 1) 1 = nI (hP h) := by rw [q2 _ (by omega)]; exact hv.1.2.1
    have eq1 : y (a + 3) p = nI (qP q p) := by rw [q2 _ (by omega)]; exact hq.2.1 p hp
    have hq1 := hqo.2.1 p hp
    have hq2 := hold99 hsp hp
    have el := q1 p hp (qP q p) (by omega)
    obtain ⟨r1, r2⟩ := f9 p (by omega)
    have elv : lvA q st.2.2.2 p p (qP q p) = st.2.2.2 p (qP q p) := by unfold lvA; rw [if_neg (by omega)]
    rw [elv] at el
    refine ⟨s2 y (f + 4 + p) (qP q p) (nI (st.2.2.2 p (qP q p) + 1)), ?_, fun p' hp' D hD => ?_, q2.s2 (Or.inr (Or.inr (Or.inr ⟨by omega, by omega⟩))), ?_⟩
    · try dsimp only
      rw [xX2_add_89]
      simp (disch := first | assumption | (simp (disch := omega) only [cK_some, ofR_some, ofR_none, Option.toList_some, Option.toList_none, List.cons_append, List.nil_append, isL_i, isL_r, isL_u, isL_2, cs_0, cs_i, cs_r, cs_l, cs_ii, cs_ir, cs_ri, cs_rr, cs_iir, cs_irr, ha_1, ha_2, ha_3, ha_4, ha_5, ha_6, ha_7, hs_1, hs_2, hs_3, hs_4, hs_5, hs_6, hs_7, hs_8, hs_9, hs_10, hs_11, hs_12, hs_13, hs_14, hs_15, hs_16, hs_17, hs_18, hs_19, hs_20, hs_21, hs_22, hs_23, hs_24, hs_25, hs_26, hs_27, hs_28, hs_29, hs_30, hs_31, hs_32, hs_33, hs_34, f1, f8, r2, inb_n, bq4, bq5, n100, not_false_eq_true, isB_0, isB_1, nI_clamp, nI_nneg, Nat.zero_add, Nat.le_refl]; done) | omega | (simp (disch := omega) only [cK_some, ofR_some, ofR_none, Option.toList_some, Option.toList_none, List.cons_append, List.nil_append, isL_i, isL_r, isL_u, isL_2, cs_0, cs_i, cs_r, cs_l, cs_ii, cs_ir, cs_ri, cs_rr, cs_iir, cs_irr, ha_1, ha_2, ha_3, ha_4, ha_5, ha_6, ha_7, hs_1, hs_2, hs_3, hs_4, hs_5, hs_6, hs_7, hs_8, hs_9, hs_10, hs_11, hs_12, hs_13, hs_14, hs_15, hs_16, hs_17, hs_18, hs_19, hs_20, hs_21, hs_22, hs_23, hs_24, hs_25, hs_26, hs_27, hs_28, hs_29, hs_30, hs_31, hs_32, hs_33, hs_34, f1, f8, r2, inb_n, bq4, bq5, n100, not_false_eq_true, isB_0, isB_1, nI_clamp, nI_nneg, Nat.zero_add, Nat.le_refl]; omega)) only [xX2_add_91, xX2_add_92, xX2_add_95, xX2_add_98, xX2_add_101, xX2_add_102, xX2_add_105, xX2_add_107, xX2_add_108, xX2_add_109, xX2_add_112, xX2_add_114, xX2_add_115, xX2_add_116, xX2_add_117, xX2_add_118, xX2_add_119, xX2_add_120, xX2_add_123, cK_some, ofR_some, ofR_none, Option.toList_some, Option.toList_none, List.cons_append, List.nil_append, isL_i, isL_r, isL_u, isL_2, cs_0, cs_i, cs_r, cs_l, cs_ii, cs_ir, cs_ri, cs_rr, cs_iir, cs_irr, ha_1, ha_2, ha_3, ha_4, ha_5, ha_6, ha_7, hs_1, hs_2, hs_3, hs_4, hs_5, hs_6, hs_7, hs_8, hs_9, hs_10, hs_11, hs_12, hs_13, hs_14, hs_15, hs_16, hs_17, hs_18, hs_19, hs_20, hs_21, hs_22, hs_23, hs_24, hs_25, hs_26, hs_27, hs_28, hs_29, hs_30, hs_31, hs_32, hs_33, hs_34, enP, eq1, el, f4, r1, Nat.add_sub_cancel, nI_lt, nI_nlt, nI_le, nI_ge, nI_pos, pk_sub, nI_clamp, s2_ne, s2_o, s2_s, nI_add, inb_n, nI_nn, zq0, zq1, ↓reduceIte]
    · unfold lvA
      by_cases e : p' = p
      · subst e
        by_cases e2 : D = qP q p'
        · rw [e2, s2_s, if_pos ⟨by omega, rfl⟩]
        · rw [s2_o e2, q1 p' hp' D hD]
          unfold lvA
          rw [if_neg (by omega), if_neg (fun z => e2 z.2)]
      · rw [s2_ne (by omega), q1 p' hp' D hD]
        unfold lvA
        by_cases e2 : p' < p ∧ D = qP q p'
        · rw [if_pos e2, if_pos ⟨by omega, e2.2⟩]
        · rw [if_neg e2, if_neg (fun z => e2 ⟨by omega, z.2⟩)]
    · try dsimp only
      rw [s2_ne (show f ≠ f + 4 + p by omega), s2_ne (show f + 1 ≠ f + 4 + p by omega), s2_ne (show f + 2 ≠ f + 4 + p by omega)]
      exact q3) (I := s2 (s2 z (f + 1) st.1 (nI (pko o (hN h)))) f 1 (nI (st.1 + 1))) (by
      refine ⟨fun p' hp' D hD => ?_, ?_, rfl, rfl, ?_⟩
      · rw [s2_ne (by omega), s2_ne (by omega), p2 _ (by omega), st4 p' hp' D hD]
        unfold lvA
        rw [if_neg (by omega)]
      · exact ((p2.mono (fun c hc => by omega)).s2 (by omega)).s2 (by omega)
      · rw [s2_ne (by omega), s2_ne (by omega)])
  try dsimp only at g2 q1 q2 q3
  have zc : z f 1 = nI st.1 := by rw [p2 _ (by omega)]; exact st1
  refine ⟨y, ?_, ⟨?_, fun i hi => ?_, fun b hb => ?_, q1⟩, q2, fun j hj => ?_⟩
  · simp (disch := first | assumption | (simp (disch := omega) only [cK_some, ofR_some, ofR_none, Option.toList_some, Option.toList_none, List.cons_append, List.nil_append, isL_i, isL_r, isL_u, isL_2, cs_0, cs_i, cs_r, cs_l, cs_ii, cs_ir, cs_ri, cs_rr, cs_iir, cs_irr, ha_1, ha_2, ha_3, ha_4, ha_5, ha_6, ha_7, hs_1, hs_2, hs_3, hs_4, hs_5, hs_6, hs_7, hs_8, hs_9, hs_10, hs_11, hs_12, hs_13, hs_14, hs_15, hs_16, hs_17, hs_18, hs_19, hs_20, hs_21, hs_22, hs_23, hs_24, hs_25, hs_26, hs_27, hs_28, hs_29, hs_30, hs_31, hs_32, hs_33, hs_34, f1, inb_n, bq4, bq5, n100, not_false_eq_true, isB_0, isB_1, nI_clamp, nI_nneg, Nat.zero_add, Nat.le_refl]; done) | omega | (simp (disch := omega) only [cK_some, ofR_some, ofR_none, Option.toList_some, Option.toList_none, List.cons_append, List.nil_append, isL_i, isL_r, isL_u, isL_2, cs_0, cs_i, cs_r, cs_l, cs_ii, cs_ir, cs_ri, cs_rr, cs_iir, cs_irr, ha_1, ha_2, ha_3, ha_4, ha_5, ha_6, ha_7, hs_1, hs_2, hs_3, hs_4, hs_5, hs_6, hs_7, hs_8, hs_9, hs_10, hs_11, hs_12, hs_13, hs_14, hs_15, hs_16, hs_17, hs_18, hs_19, hs_20, hs_21, hs_22, hs_23, hs_24, hs_25, hs_26, hs_27, hs_28, hs_29, hs_30, hs_31, hs_32, hs_33, hs_34, f1, inb_n, bq4, bq5, n100, not_false_eq_true, isB_0, isB_1, nI_clamp, nI_nneg, Nat.zero_add, Nat.le_refl]; omega)) only [xX2_add_0, xX2_add_1, xX2_add_4, xX2_add_7, xX2_add_10, xX2_add_11, xX2_add_12, xX2_add_14, xX2_add_15, cK_some, ofR_some, ofR_none, Option.toList_some, Option.toList_none, List.cons_append, List.nil_append, isL_i, isL_r, isL_u, isL_2, cs_0, cs_i, cs_r, cs_l, cs_ii, cs_ir, cs_ri, cs_rr, cs_iir, cs_irr, ha_1, ha_2, ha_3, ha_4, ha_5, ha_6, ha_7, hs_1, hs_2, hs_3, hs_4, hs_5, hs_6, hs_7, hs_8, hs_9, hs_10, hs_11, hs_12, hs_13, hs_14, hs_15, hs_16, hs_17, hs_18, hs_19, hs_20, hs_21, hs_22, hs_23, hs_24, hs_25, hs_26, hs_27, hs_28, hs_29, hs_30, hs_31, hs_32, hs_33, hs_34, rX2_add, st1, Nat.add_sub_cancel, nI_lt, nI_nlt, nI_le, nI_ge, nI_pos, pk_sub, nI_clamp, s2_ne, s2_o, s2_s, nI_add, inb_n, nI_nn, zq0, zq1, ↓reduceIte]
    refine Eq.trans g1 ?_
    have en : z (s + 8) 0 = nI (hN h) := by rw [p2 _ (by omega)]; exact hv.1.1
    rw [xX2_add_17]
    simp (disch := first | assumption | (simp (disch := omega) only [cK_some, ofR_some, ofR_none, Option.toList_some, Option.toList_none, List.cons_append, List.nil_append, isL_i, isL_r, isL_u, isL_2, cs_0, cs_i, cs_r, cs_l, cs_ii, cs_ir, cs_ri, cs_rr, cs_iir, cs_irr, ha_1, ha_2, ha_3, ha_4, ha_5, ha_6, ha_7, hs_1, hs_2, hs_3, hs_4, hs_5, hs_6, hs_7, hs_8, hs_9, hs_10, hs_11, hs_12, hs_13, hs_14, hs_15, hs_16, hs_17, hs_18, hs_19, hs_20, hs_21, hs_22, hs_23, hs_24, hs_25, hs_26, hs_27, hs_28, hs_29, hs_30, hs_31, hs_32, hs_33, hs_34, f1, f6, inb_n, bq4, bq5, n100, not_false_eq_true, isB_0, isB_1, nI_clamp, nI_nneg, Nat.zero_add, Nat.le_refl]; done) | omega | (simp (disch := omega) only [cK_some, ofR_some, ofR_none, Option.toList_some, Option.toList_none, List.cons_append, List.nil_append, isL_i, isL_r, isL_u, isL_2, cs_0, cs_i, cs_r, cs_l, cs_ii, cs_ir, cs_ri, cs_rr, cs_iir, cs_irr, ha_1, ha_2, ha_3, ha_4, ha_5, ha_6, ha_7, hs_1, hs_2, hs_3, hs_4, hs_5, hs_6, hs_7, hs_8, hs_9, hs_10, hs_11, hs_12, hs_13, hs_14, hs_15, hs_16, hs_17, hs_18, hs_19, hs_20, hs_21, hs_22, hs_23, hs_24, hs_25, hs_26, hs_27, hs_28, hs_29, hs_30, hs_31, hs_32, hs_33, hs_34, f1, f6, inb_n, bq4, bq5, n100, not_false_eq_true, isB_0, isB_1, nI_clamp, nI_nneg, Nat.zero_add, Nat.le_refl]; omega)) only [xX2_add_19, xX2_add_20, xX2_add_23, xX2_add_26, xX2_add_65, xX2_add_66, xX2_add_69, xX2_add_70, xX2_add_73, xX2_add_75, xX2_add_76, xX2_add_77i, xX2_add_77r, xX2_add_78, xX2_add_81, xX2_add_82, xX2_add_83, xX2_add_86, xX2_add_87, cK_some, ofR_some, ofR_none, Option.toList_some, Option.toList_none, List.cons_append, List.nil_append, isL_i, isL_r, isL_u, isL_2, cs_0, cs_i, cs_r, cs_l, cs_ii, cs_ir, cs_ri, cs_rr, cs_iir, cs_irr, ha_1, ha_2, ha_3, ha_4, ha_5, ha_6, ha_7, hs_1, hs_2, hs_3, hs_4, hs_5, hs_6, hs_7, hs_8, hs_9, hs_10, hs_11, hs_12, hs_13, hs_14, hs_15, hs_16, hs_17, hs_18, hs_19, hs_20, hs_21, hs_22, hs_23, hs_24, hs_25, hs_26, hs_27, hs_28, hs_29, hs_30, hs_31, hs_32, hs_33, hs_34, en, zc, f2, Nat.add_sub_cancel, nI_lt, nI_nlt, nI_le, nI_ge, nI_pos, pk_sub, nI_clamp, s2_ne, s2_o, s2_s, nI_add, inb_n, nI_nn, zq0, zq1, ↓reduceIte]
    refine Eq.trans g2 ?_
    have enP : y (s + 1) 1 = nI (hP h) := by rw [q2 _ (by omega)]; exact hv.1.2.1
    rw [xX2_add_89]
    simp (disch := first | assumption | (simp (disch := omega) only [cK_some, ofR_some, ofR_none, Option.toList_some, Option.toList_none, List.cons_append, List.nil_append, isL_i, isL_r, isL_u, isL_2, cs_0, cs_i, cs_r, cs_l, cs_ii, cs_ir, cs_ri, cs_rr, cs_iir, cs_irr, ha_1, ha_2, ha_3, ha_4, ha_5, ha_6, ha_7, hs_1, hs_2, hs_3, hs_4, hs_5, hs_6, hs_7, hs_8, hs_9, hs_10, hs_11, hs_12, hs_13, hs_14, hs_15, hs_16, hs_17, hs_18, hs_19, hs_20, hs_21, hs_22, hs_23, hs_24, hs_25, hs_26, hs_27, hs_28, hs_29, hs_30, hs_31, hs_32, hs_33, hs_34, inb_n, bq4, bq5, n100, not_false_eq_true, isB_0, isB_1, nI_clamp, nI_nneg, Nat.zero_add, Nat.le_refl]; done) | omega | (simp (disch := omega) only [cK_some, ofR_some, ofR_none, Option.toList_some, Option.toList_none, List.cons_append, List.nil_append, isL_i, isL_r, isL_u, isL_2, cs_0, cs_i, cs_r, cs_l, cs_ii, cs_ir, cs_ri, cs_rr, cs_iir, cs_irr, ha_1, ha_2, ha_3, ha_4, ha_5, ha_6, ha_7, hs_1, hs_2, hs_3, hs_4, hs_5, hs_6, hs_7, hs_8, hs_9, hs_10, hs_11, hs_12, hs_13, hs_14, hs_15, hs_16, hs_17, hs_18, hs_19, hs_20, hs_21, hs_22, hs_23, hs_24, hs_25, hs_26, hs_27, hs_28, hs_29, hs_30, hs_31, hs_32, hs_33, hs_34, inb_n, bq4, bq5, n100, not_false_eq_true, isB_0, isB_1, nI_clamp, nI_nneg, Nat.zero_add, Nat.le_refl]; omega)) only [xX2_add_91, xX2_add_92, xX2_add_95, xX2_add_98, xX2_add_126, cK_some, ofR_some, ofR_none, Option.toList_some, Option.toList_none, List.cons_append, List.nil_append, isL_i, isL_r, isL_u, isL_2, cs_0, cs_i, cs_r, cs_l, cs_ii, cs_ir, cs_ri, cs_rr, cs_iir, cs_irr, ha_1, ha_2, ha_3, ha_4, ha_5, ha_6, ha_7, hs_1, hs_2, hs_3, hs_4, hs_5, hs_6, hs_7, hs_8, hs_9, hs_10, hs_11, hs_12, hs_13, hs_14, hs_15, hs_16, hs_17, hs_18, hs_19, hs_20, hs_21, hs_22, hs_23, hs_24, hs_25, hs_26, hs_27, hs_28, hs_29, hs_30, hs_31, hs_32, hs_33, hs_34, enP, Nat.add_sub_cancel, nI_lt, nI_nlt, nI_le, nI_ge, nI_pos, pk_sub, nI_clamp, s2_ne, s2_o, s2_s, nI_add, inb_n, nI_nn, zq0, zq1, ↓reduceIte]
  · rw [q3.1, s2_s]; rfl
  · rw [q3.2.1]
    show _ = nI (pko (upF st.2.1 st.1 o i) (hN h))
    unfold upF
    by_cases e : i = st.1
    · rw [e, s2_ne (by omega), s2_s, if_pos rfl]
    · rw [s2_ne (by omega), s2_o e, if_neg e, p2 _ (by omega)]
      exact st2 i (by have : i < st.1 + 1 := hi; omega)
  · rw [q3.2.2]; exact p1 b hb
  · rw [q3.1, s2_o hj, s2_ne (by omega), p2 _ (by omega)]
