/-! the plan followed; what is asked of it -/
def inPl (s c : Nat) : Prop := c = s + 15 ∨ (s + 21 ≤ c ∧ c ≤ s + 72)
theorem offS_pl {s k : Nat} (hk : k < 13) : offS (s + 21 + 4 * k) s := by unfold offS; omega
theorem CT.fr {G : Gm} {I I' : Im} {a s : Nat} {h : Sp} {q : Qp} (K : CT G I a s h q) (hf : ∀ c, (s ≤ c ∧ c ≤ s + 14) ∨ inSc a c → I' c = I c) : CT G I' a s h q := by
  obtain ⟨ha, hs, hd, hv, ho, hq, hqo⟩ := K
  refine ⟨ha, hs, hd, hv.fr (fun c h1 h2 => hf c (Or.inl ⟨h1, h2⟩)), ho, ?_, hqo⟩
  unfold ScV
  rw [hf (a + 1) (Or.inr ⟨by omega, by omega⟩), hf (a + 2) (Or.inr ⟨by omega, by omega⟩), hf (a + 3) (Or.inr ⟨by omega, by omega⟩), hf a (Or.inr ⟨by omega, by omega⟩)]
  exact hq
theorem PlV.fr {I I' : Im} {s n : Nat} {h : Sp} {F : Nat → Pst} (hv : PlV I s h n F) (h0 : I' (s + 15) 0 = I (s + 15) 0) (hf : ∀ c, s + 16 ≤ c → c ≤ s + 19 → I' c = I c) : PlV I' s h n F := by
  unfold PlV at hv ⊢
  rw [h0, hf (s + 16) (by omega) (by omega), hf (s + 17) (by omega) (by omega), hf (s + 18) (by omega) (by omega), hf (s + 19) (by omega) (by omega)]
  exact hv
theorem nI_nm2 {k : Nat} (h : k < 2 ^ 31) : ¬ nI k = -2 := by
  intro e
  have h1 := nI_toInt h
  rw [e] at h1
  have h2 : (-2 : Int32).toInt = -2 := by decide
  omega
theorem firstU_lt {p : Nat → Bool} {n k : Nat} (h : firstU p n = some k) : k < n := by
  induction n with
  | zero => cases h
  | succ n ih =>
    have e : firstU p (n + 1) = if firstU p n = none ∧ p n = true then some n else firstU p n := rfl
    rw [e] at h
    by_cases c : firstU p n = none ∧ p n = true
    · rw [if_pos c] at h; cases h; omega
    · rw [if_neg c] at h; have := ih h; omega
theorem rn_follow {d s n : Nat} {h : Sp} {F : Nat → Pst} {q : Qp} {G : Gm} {I : Im} (hp : Pl G s) (hs : Sh G s) (hsv : ShV I s h) (ho : SpOk h) (hv : PlV I s h n F) (hg : BgV I s h q) (hqo : QpOk h q) :
    ∃ I', run (d + 4) mX5_follow [.ref (s + 15), .ref s] G I = some (none, G, I') ∧ (∀ k, k ≤ n → CT G I' (s + 21 + 4 * k) s h (atK h q F k)) ∧ I' (s + 15) 1 = encO (firstU (fun i => noUse h (atK h q F i) (F i)) n) ∧ Fr (inPl s) I I' ∧ I' (s + 15) 0 = I (s + 15) 0 := by
  have hn := hv.1
  have p1 := hp.1
  have p6 := hp.2.2.2.2.2.1
  have t6 := hp.2.2.2.2.2.2.2.2.2.2.1
  have hrow := hp.2.2.2.2.2.2.2.2.2.2.2
  have hs_1 := hs.1; have hs_2 := hs.2.1; have hs_3 := hs.2.2.1; have hs_4 := hs.2.2.2.1; have hs_5 := hs.2.2.2.2.1; have hs_6 := hs.2.2.2.2.2.1; have hs_7 := (hs.2.2.2.2.2.2.1).1; have hs_8 := (hs.2.2.2.2.2.2.1).2.1; have hs_9 := (hs.2.2.2.2.2.2.1).2.2.1; have hs_10 := (hs.2.2.2.2.2.2.1).2.2.2.1; have hs_11 := (hs.2.2.2.2.2.2.1).2.2.2.2.1; have hs_12 := (hs.2.2.2.2.2.2.1).2.2.2.2.2.1; have hs_13 := (hs.2.2.2.2.2.2.1).2.2.2.2.2.2.1; have hs_14 := (hs.2.2.2.2.2.2.1).2.2.2.2.2.2.2.1; have hs_15 := (hs.2.2.2.2.2.2.1).2.2.2.2.2.2.2.2.1; have hs_16 := (hs.2.2.2.2.2.2.1).2.2.2.2.2.2.2.2.2.1; have hs_17 := (hs.2.2.2.2.2.2.1).2.2.2.2.2.2.2.2.2.2.1; have hs_18 := (hs.2.2.2.2.2.2.1).2.2.2.2.2.2.2.2.2.2.2.1; have hs_19 := (hs.2.2.2.2.2.2.1).2.2.2.2.2.2.2.2.2.2.2.2; have hs_20 := (hs.2.2.2.2.2.2.2.1).1; have hs_21 := (hs.2.2.2.2.2.2.2.1).2.1; have hs_22 := (hs.2.2.2.2.2.2.2.1).2.2.1; have hs_23 := (hs.2.2.2.2.2.2.2.1).2.2.2.1; have hs_24 := (hs.2.2.2.2.2.2.2.1).2.2.2.2.1; have hs_25 := (hs.2.2.2.2.2.2.2.1).2.2.2.2.2.1; have hs_26 := (hs.2.2.2.2.2.2.2.1).2.2.2.2.2.2.1; have hs_27 := (hs.2.2.2.2.2.2.2.1).2.2.2.2.2.2.2.1; have hs_28 := (hs.2.2.2.2.2.2.2.1).2.2.2.2.2.2.2.2.1; have hs_29 := (hs.2.2.2.2.2.2.2.1).2.2.2.2.2.2.2.2.2.1; have hs_30 := (hs.2.2.2.2.2.2.2.1).2.2.2.2.2.2.2.2.2.2.1; have hs_31 := (hs.2.2.2.2.2.2.2.1).2.2.2.2.2.2.2.2.2.2.2.1; have hs_32 := (hs.2.2.2.2.2.2.2.1).2.2.2.2.2.2.2.2.2.2.2.2; have hs_33 := hs.2.2.2.2.2.2.2.2.1; have hs_34 := hs.2.2.2.2.2.2.2.2.2.2
  obtain ⟨r0, sc0⟩ := hrow 0 (by omega)
  rw [show s + 21 + 4 * 0 = s + 21 by omega] at r0 sc0
  have hf0 : Fr (inPl s) I (s2 I (s + 15) 1 (-2)) := Fr.rf.s2 (Or.inl rfl)
  have hg0 : BgV (s2 I (s + 15) 1 (-2)) s h q := by
    unfold BgV
    rw [s2_ne (by omega), s2_ne (by omega)]
    exact hg
  have hs1 : ShV (s2 I (s + 15) 1 (-2)) s h := hsv.fr (fun c h1 h2 => s2_ne (by omega))
  obtain ⟨y, b1, b2, b3⟩ := rn_begin (d := d + 3) (I := s2 I (s + 15) 1 (-2)) sc0 hs (by unfold offS; omega) hs1 ho hg0
  obtain ⟨z, f1, p2, p3, p4, p5⟩ := chainE (fun i (z : Im) => ex (d + 4) mX5_follow 18 [.val (.ref (s + 15)), .val (.ref s), .val (.int (nI i))] [] G z) (fun i z => (∀ k, k ≤ i → CT G z (s + 21 + 4 * k) s h (atK h q F k)) ∧ z (s + 15) 1 = encO (firstU (fun i => noUse h (atK h q F i) (F i)) i) ∧ Fr (inPl s) I z ∧ z (s + 15) 0 = I (s + 15) 0) n (fun i hi z hz => by
    obtain ⟨p2, p3, p4, p5⟩ := hz
    have hvz : PlV z s h n F := hv.fr p5 (fun c h1 h2 => p4 c (by unfold inPl; omega))
    have ec := hvz.2.1
    obtain ⟨r1, sc1⟩ := hrow i (by omega)
    obtain ⟨r2, sc2⟩ := hrow (i + 1) (by omega)
    have K := p2 i (Nat.le_refl _)
    have us := rn_isUseless (d := d + 1) hp hvz K hi
    -- the scene of the next, from whatever holds behind the test
    have tail : ∀ w : Im, CT G w (s + 21 + 4 * i) s h (atK h q F i) → PlV w s h n F → ∃ z', ex (d + 4) mX5_follow 55 [.val (.ref (s + 15)), .val (.ref s), .val (.int (nI i))] [] G w = ex (d + 4) mX5_follow 18 [.val (.ref (s + 15)), .val (.ref s), .val (.int (nI (i + 1)))] [] G z' ∧ CT G z' (s + 21 + 4 * (i + 1)) s h (atK h q F (i + 1)) ∧ Fr (inSc (s + 21 + 4 * (i + 1))) w z' := by
      intro w Kw hvw
      obtain ⟨x, c1, c2, c3⟩ := rn_copy (d := d + 3) Kw sc2 (offS_pl (by omega)) (by unfold offSc; omega)
      have hvx : PlV x s h n F := hvw.fr (by rw [c3 _ (by unfold inSc; omega)]) (fun c h1 h2 => c3 c (by unfold inSc; omega))
      obtain ⟨u, t1, t2, t3⟩ := rn_take (d := d) hp hvx c2 hi
      refine ⟨u, ?_, t2, c3.tr t3⟩
      have s1 := sc1.1
      have s2' := sc2.1
      simp (disch := first | assumption | (simp (disch := omega) only [cK_some, ofR_some, ofR_none, Option.toList_some, Option.toList_none, List.cons_append, List.nil_append, isL_i, isL_r, isL_u, isL_2, cs_0, cs_i, cs_r, cs_l, cs_ii, cs_ir, cs_ri, cs_rr, cs_iir, cs_irr, hs_1, hs_2, hs_3, hs_4, hs_5, hs_6, hs_7, hs_8, hs_9, hs_10, hs_11, hs_12, hs_13, hs_14, hs_15, hs_16, hs_17, hs_18, hs_19, hs_20, hs_21, hs_22, hs_23, hs_24, hs_25, hs_26, hs_27, hs_28, hs_29, hs_30, hs_31, hs_32, hs_33, hs_34, p1, t6, s1, s2', inb_n, bq4, bq5, n100, not_false_eq_true, isB_0, isB_1, nI_clamp, nI_nneg, Nat.zero_add, Nat.le_refl]; done) | omega) only [xX5_follow_0, xX5_follow_1, xX5_follow_3, xX5_follow_6, xX5_follow_7, xX5_follow_10, xX5_follow_11, xX5_follow_12, xX5_follow_13, xX5_follow_16, xX5_follow_17, xX5_follow_19, xX5_follow_20, xX5_follow_23, xX5_follow_26, xX5_follow_27, xX5_follow_30, xX5_follow_32, xX5_follow_35, xX5_follow_36, xX5_follow_37, xX5_follow_38, xX5_follow_41, xX5_follow_42, xX5_follow_43, xX5_follow_44, xX5_follow_47, xX5_follow_50, xX5_follow_51, xX5_follow_52, xX5_follow_55, xX5_follow_56, xX5_follow_59, xX5_follow_60, xX5_follow_61, xX5_follow_62, xX5_follow_63, xX5_follow_64, xX5_follow_67, xX5_follow_68, xX5_follow_69, xX5_follow_72, xX5_follow_73, xX5_follow_74, xX5_follow_75, xX5_follow_78, xX5_follow_79, xX5_follow_80, xX5_follow_81, xX5_follow_82, xX5_follow_83, xX5_follow_86, xX5_follow_89, xX5_follow_92, cK_some, ofR_some, ofR_none, Option.toList_some, Option.toList_none, List.cons_append, List.nil_append, isL_i, isL_r, isL_u, isL_2, cs_0, cs_i, cs_r, cs_l, cs_ii, cs_ir, cs_ri, cs_rr, cs_iir, cs_irr, hs_1, hs_2, hs_3, hs_4, hs_5, hs_6, hs_7, hs_8, hs_9, hs_10, hs_11, hs_12, hs_13, hs_14, hs_15, hs_16, hs_17, hs_18, hs_19, hs_20, hs_21, hs_22, hs_23, hs_24, hs_25, hs_26, hs_27, hs_28, hs_29, hs_30, hs_31, hs_32, hs_33, hs_34, p6, r1, r2, c1, t1, nI_lt, nI_nlt, nI_le, nI_ge, nI_pos, pk_sub, nI_clamp, s2_ne, s2_o, s2_s, nI_add, inb_n, nI_nn, zq0, zq1, ↓reduceIte]
    -- behind it all
    have close : ∀ (w z' : Im), Fr (inSc (s + 21 + 4 * (i + 1))) w z' → CT G z' (s + 21 + 4 * (i + 1)) s h (atK h q F (i + 1)) → (∀ c, c ≠ s + 15 → w c = z c) → w (s + 15) 0 = z (s + 15) 0 → w (s + 15) 1 = encO (firstU (fun i => noUse h (atK h q F i) (F i)) (i + 1)) → ((∀ k, k ≤ i + 1 → CT G z' (s + 21 + 4 * k) s h (atK h q F k)) ∧ z' (s + 15) 1 = encO (firstU (fun i => noUse h (atK h q F i) (F i)) (i + 1)) ∧ Fr (inPl s) I z' ∧ z' (s + 15) 0 = I (s + 15) 0) := by
      intro w z' hf hK h1 h2 h3
      have e15 : z' (s + 15) = w (s + 15) := hf _ (by unfold inSc; omega)
      refine ⟨fun k hk => ?_, ?_, fun c hc => ?_, ?_⟩
      · by_cases e : k = i + 1
        · rw [e]; exact hK
        · refine (p2 k (by omega)).fr (fun c hc => ?_)
          have hc1 : ¬ inSc (s + 21 + 4 * (i + 1)) c ∧ c ≠ s + 15 := by unfold inSc at hc ⊢; omega
          rw [hf c hc1.1, h1 c hc1.2]
      · rw [e15]; exact h3
      · have hc1 : ¬ inSc (s + 21 + 4 * (i + 1)) c ∧ c ≠ s + 15 := by unfold inSc; unfold inPl at hc; omega
        rw [hf c hc1.1, h1 c hc1.2]
        exact p4 c hc
      · rw [e15, h2]; exact p5
    have eU : firstU (fun i => noUse h (atK h q F i) (F i)) (i + 1) = if firstU (fun i => noUse h (atK h q F i) (F i)) i = none ∧ noUse h (atK h q F i) (F i) = true then some i else firstU (fun i => noUse h (atK h q F i) (F i)) i := rfl
    have sA := sc1.1
    cases hU : firstU (fun i => noUse h (atK h q F i) (F i)) i with
    | some k =>
      rw [hU] at p3 eU
      have hk := firstU_lt hU
      have nk := nI_nm2 (k := k) (by omega)
      have p3' : z (s + 15) 1 = nI k := p3
      obtain ⟨z', g1, g2, g3⟩ := tail z K hvz
      rw [if_neg (by intro c; cases c.1)] at eU
      refine ⟨z', ?_, close z z' g3 g2 (fun _ _ => rfl) rfl (by rw [eU, p3])⟩
      try dsimp only
      rw [xX5_follow_18]
      simp (disch := first | assumption | (simp (disch := omega) only [cK_some, ofR_some, ofR_none, Option.toList_some, Option.toList_none, List.cons_append, List.nil_append, isL_i, isL_r, isL_u, isL_2, cs_0, cs_i, cs_r, cs_l, cs_ii, cs_ir, cs_ri, cs_rr, cs_iir, cs_irr, hs_1, hs_2, hs_3, hs_4, hs_5, hs_6, hs_7, hs_8, hs_9, hs_10, hs_11, hs_12, hs_13, hs_14, hs_15, hs_16, hs_17, hs_18, hs_19, hs_20, hs_21, hs_22, hs_23, hs_24, hs_25, hs_26, hs_27, hs_28, hs_29, hs_30, hs_31, hs_32, hs_33, hs_34, p1, inb_n, bq4, bq5, n100, not_false_eq_true, isB_0, isB_1, nI_clamp, nI_nneg, Nat.zero_add, Nat.le_refl]; done) | omega) only [xX5_follow_19, xX5_follow_20, xX5_follow_23, xX5_follow_26, xX5_follow_27, xX5_follow_30, xX5_follow_32, xX5_follow_35, xX5_follow_36, xX5_follow_37, xX5_follow_38, xX5_follow_41, xX5_follow_42, xX5_follow_43, xX5_follow_44, xX5_follow_47, xX5_follow_50, xX5_follow_51, xX5_follow_52, cK_some, ofR_some, ofR_none, Option.toList_some, Option.toList_none, List.cons_append, List.nil_append, isL_i, isL_r, isL_u, isL_2, cs_0, cs_i, cs_r, cs_l, cs_ii, cs_ir, cs_ri, cs_rr, cs_iir, cs_irr, hs_1, hs_2, hs_3, hs_4, hs_5, hs_6, hs_7, hs_8, hs_9, hs_10, hs_11, hs_12, hs_13, hs_14, hs_15, hs_16, hs_17, hs_18, hs_19, hs_20, hs_21, hs_22, hs_23, hs_24, hs_25, hs_26, hs_27, hs_28, hs_29, hs_30, hs_31, hs_32, hs_33, hs_34, ec, p3', nk, nI_lt, nI_nlt, nI_le, nI_ge, nI_pos, pk_sub, nI_clamp, s2_ne, s2_o, s2_s, nI_add, inb_n, nI_nn, zq0, zq1, ↓reduceIte]
      exact g1
    | none =>
      rw [hU] at p3 eU
      have p3' : z (s + 15) 1 = -2 := p3
      cases hb : noUse h (atK h q F i) (F i) with
      | true =>
        rw [hb] at us eU
        rw [if_pos ⟨rfl, rfl⟩] at eU
        have us' : run (d + 3) mX5_isUseless [.ref (s + 15), .ref s, .ref (s + 21 + 4 * i), .int (nI i)] G z = some (some (.int (nI 1)), G, z) := us
        have hK2 : CT G (s2 z (s + 15) 1 (nI i)) (s + 21 + 4 * i) s h (atK h q F i) := K.fr (fun c hc => s2_ne (by unfold inSc at hc; omega))
        obtain ⟨z', g1, g2, g3⟩ := tail (s2 z (s + 15) 1 (nI i)) hK2 (hvz.fr (s2_o (by decide)) (fun c h1 h2 => s2_ne (by omega)))
        refine ⟨z', ?_, close (s2 z (s + 15) 1 (nI i)) z' g3 g2 (fun c hc => s2_ne hc) (s2_o (by decide)) (by rw [eU, s2_s]; rfl)⟩
        try dsimp only
        rw [xX5_follow_18]
        simp (disch := first | assumption | (simp (disch := omega) only [cK_some, ofR_some, ofR_none, Option.toList_some, Option.toList_none, List.cons_append, List.nil_append, isL_i, isL_r, isL_u, isL_2, cs_0, cs_i, cs_r, cs_l, cs_ii, cs_ir, cs_ri, cs_rr, cs_iir, cs_irr, hs_1, hs_2, hs_3, hs_4, hs_5, hs_6, hs_7, hs_8, hs_9, hs_10, hs_11, hs_12, hs_13, hs_14, hs_15, hs_16, hs_17, hs_18, hs_19, hs_20, hs_21, hs_22, hs_23, hs_24, hs_25, hs_26, hs_27, hs_28, hs_29, hs_30, hs_31, hs_32, hs_33, hs_34, p1, t6, inb_n, bq4, bq5, n100, not_false_eq_true, isB_0, isB_1, nI_clamp, nI_nneg, Nat.zero_add, Nat.le_refl]; done) | omega) only [xX5_follow_19, xX5_follow_20, xX5_follow_23, xX5_follow_26, xX5_follow_27, xX5_follow_30, xX5_follow_32, xX5_follow_35, xX5_follow_36, xX5_follow_37, xX5_follow_38, xX5_follow_41, xX5_follow_42, xX5_follow_43, xX5_follow_44, xX5_follow_47, xX5_follow_50, xX5_follow_51, xX5_follow_52, cK_some, ofR_some, ofR_none, Option.toList_some, Option.toList_none, List.cons_append, List.nil_append, isL_i, isL_r, isL_u, isL_2, cs_0, cs_i, cs_r, cs_l, cs_ii, cs_ir, cs_ri, cs_rr, cs_iir, cs_irr, hs_1, hs_2, hs_3, hs_4, hs_5, hs_6, hs_7, hs_8, hs_9, hs_10, hs_11, hs_12, hs_13, hs_14, hs_15, hs_16, hs_17, hs_18, hs_19, hs_20, hs_21, hs_22, hs_23, hs_24, hs_25, hs_26, hs_27, hs_28, hs_29, hs_30, hs_31, hs_32, hs_33, hs_34, ec, p3', p6, r1, us', nI_lt, nI_nlt, nI_le, nI_ge, nI_pos, pk_sub, nI_clamp, s2_ne, s2_o, s2_s, nI_add, inb_n, nI_nn, zq0, zq1, ↓reduceIte]
        exact g1
      | false =>
        rw [hb] at us eU
        rw [if_neg (by intro c; cases c.2)] at eU
        have us' : run (d + 3) mX5_isUseless [.ref (s + 15), .ref s, .ref (s + 21 + 4 * i), .int (nI i)] G z = some (some (.int (nI 0)), G, z) := us
        obtain ⟨z', g1, g2, g3⟩ := tail z K hvz
        refine ⟨z', ?_, close z z' g3 g2 (fun _ _ => rfl) rfl (by rw [eU, p3])⟩
        try dsimp only
        rw [xX5_follow_18]
        simp (disch := first | assumption | (simp (disch := omega) only [cK_some, ofR_some, ofR_none, Option.toList_some, Option.toList_none, List.cons_append, List.nil_append, isL_i, isL_r, isL_u, isL_2, cs_0, cs_i, cs_r, cs_l, cs_ii, cs_ir, cs_ri, cs_rr, cs_iir, cs_irr, hs_1, hs_2, hs_3, hs_4, hs_5, hs_6, hs_7, hs_8, hs_9, hs_10, hs_11, hs_12, hs_13, hs_14, hs_15, hs_16, hs_17, hs_18, hs_19, hs_20, hs_21, hs_22, hs_23, hs_24, hs_25, hs_26, hs_27, hs_28, hs_29, hs_30, hs_31, hs_32, hs_33, hs_34, p1, t6, inb_n, bq4, bq5, n100, not_false_eq_true, isB_0, isB_1, nI_clamp, nI_nneg, Nat.zero_add, Nat.le_refl]; done) | omega) only [xX5_follow_19, xX5_follow_20, xX5_follow_23, xX5_follow_26, xX5_follow_27, xX5_follow_30, xX5_follow_32, xX5_follow_35, xX5_follow_36, xX5_follow_37, xX5_follow_38, xX5_follow_41, xX5_follow_42, xX5_follow_43, xX5_follow_44, xX5_follow_47, xX5_follow_50, xX5_follow_51, xX5_follow_52, cK_some, ofR_some, ofR_none, Option.toList_some, Option.toList_none, List.cons_append, List.nil_append, isL_i, isL_r, isL_u, isL_2, cs_0, cs_i, cs_r, cs_l, cs_ii, cs_ir, cs_ri, cs_rr, cs_iir, cs_irr, hs_1, hs_2, hs_3, hs_4, hs_5, hs_6, hs_7, hs_8, hs_9, hs_10, hs_11, hs_12, hs_13, hs_14, hs_15, hs_16, hs_17, hs_18, hs_19, hs_20, hs_21, hs_22, hs_23, hs_24, hs_25, hs_26, hs_27, hs_28, hs_29, hs_30, hs_31, hs_32, hs_33, hs_34, ec, p3', p6, r1, us', nI_lt, nI_nlt, nI_le, nI_ge, nI_pos, pk_sub, nI_clamp, s2_ne, s2_o, s2_s, nI_add, inb_n, nI_nn, zq0, zq1, ↓reduceIte]
        exact g1) (I := y) (by
      refine ⟨fun k hk => ?_, ?_, fun c hc => ?_, ?_⟩
      · rw [show k = 0 by omega]
        exact ⟨sc0, hs, by unfold offS; omega, hsv.fr (fun c h1 h2 => by rw [b3 c (by unfold inSc; omega), s2_ne (by omega)]), ho, b2, hqo⟩
      · rw [b3 _ (by unfold inSc; omega), s2_s]; rfl
      · rw [b3 c (by unfold inSc; unfold inPl at hc; omega), s2_ne (by unfold inPl at hc; omega)]
      · rw [b3 _ (by unfold inSc; omega), s2_o (by decide)])
  refine ⟨z, ?_, p2, p3, p4, p5⟩
  have sA := sc0.1
  simp (disch := first | assumption | (simp (disch := omega) only [cK_some, ofR_some, ofR_none, Option.toList_some, Option.toList_none, List.cons_append, List.nil_append, isL_i, isL_r, isL_u, isL_2, cs_0, cs_i, cs_r, cs_l, cs_ii, cs_ir, cs_ri, cs_rr, cs_iir, cs_irr, hs_1, hs_2, hs_3, hs_4, hs_5, hs_6, hs_7, hs_8, hs_9, hs_10, hs_11, hs_12, hs_13, hs_14, hs_15, hs_16, hs_17, hs_18, hs_19, hs_20, hs_21, hs_22, hs_23, hs_24, hs_25, hs_26, hs_27, hs_28, hs_29, hs_30, hs_31, hs_32, hs_33, hs_34, p1, t6, inb_n, bq4, bq5, n100, not_false_eq_true, isB_0, isB_1, nI_clamp, nI_nneg, Nat.zero_add, Nat.le_refl]; done) | omega) only [xX5_follow_0, xX5_follow_1, xX5_follow_3, xX5_follow_6, xX5_follow_7, xX5_follow_10, xX5_follow_11, xX5_follow_12, xX5_follow_13, xX5_follow_16, xX5_follow_17, cK_some, ofR_some, ofR_none, Option.toList_some, Option.toList_none, List.cons_append, List.nil_append, isL_i, isL_r, isL_u, isL_2, cs_0, cs_i, cs_r, cs_l, cs_ii, cs_ir, cs_ri, cs_rr, cs_iir, cs_irr, hs_1, hs_2, hs_3, hs_4, hs_5, hs_6, hs_7, hs_8, hs_9, hs_10, hs_11, hs_12, hs_13, hs_14, hs_15, hs_16, hs_17, hs_18, hs_19, hs_20, hs_21, hs_22, hs_23, hs_24, hs_25, hs_26, hs_27, hs_28, hs_29, hs_30, hs_31, hs_32, hs_33, hs_34, rX5_follow, p6, r0, b1, nI_lt, nI_nlt, nI_le, nI_ge, nI_pos, pk_sub, nI_clamp, s2_ne, s2_o, s2_s, nI_add, inb_n, nI_nn, zq0, zq1, ↓reduceIte]
  refine Eq.trans f1 ?_
  have ec : z (s + 15) 0 = nI n := by rw [p5]; exact hv.2.1
  try dsimp only
  rw [xX5_follow_18]
  simp (disch := first | assumption | (simp (disch := omega) only [cK_some, ofR_some, ofR_none, Option.toList_some, Option.toList_none, List.cons_append, List.nil_append, isL_i, isL_r, isL_u, isL_2, cs_0, cs_i, cs_r, cs_l, cs_ii, cs_ir, cs_ri, cs_rr, cs_iir, cs_irr, hs_1, hs_2, hs_3, hs_4, hs_5, hs_6, hs_7, hs_8, hs_9, hs_10, hs_11, hs_12, hs_13, hs_14, hs_15, hs_16, hs_17, hs_18, hs_19, hs_20, hs_21, hs_22, hs_23, hs_24, hs_25, hs_26, hs_27, hs_28, hs_29, hs_30, hs_31, hs_32, hs_33, hs_34, p1, inb_n, bq4, bq5, n100, not_false_eq_true, isB_0, isB_1, nI_clamp, nI_nneg, Nat.zero_add, Nat.le_refl]; done) | omega) only [xX5_follow_19, xX5_follow_20, xX5_follow_23, xX5_follow_26, xX5_follow_27, xX5_follow_30, xX5_follow_32, xX5_follow_35, xX5_follow_36, xX5_follow_37, xX5_follow_38, xX5_follow_41, xX5_follow_42, xX5_follow_43, xX5_follow_44, xX5_follow_47, xX5_follow_50, xX5_follow_51, xX5_follow_52, xX5_follow_55, xX5_follow_56, xX5_follow_59, xX5_follow_60, xX5_follow_61, xX5_follow_62, xX5_follow_63, xX5_follow_64, xX5_follow_67, xX5_follow_68, xX5_follow_69, xX5_follow_72, xX5_follow_73, xX5_follow_74, xX5_follow_75, xX5_follow_78, xX5_follow_79, xX5_follow_80, xX5_follow_81, xX5_follow_82, xX5_follow_83, xX5_follow_86, xX5_follow_89, xX5_follow_92, cK_some, ofR_some, ofR_none, Option.toList_some, Option.toList_none, List.cons_append, List.nil_append, isL_i, isL_r, isL_u, isL_2, cs_0, cs_i, cs_r, cs_l, cs_ii, cs_ir, cs_ri, cs_rr, cs_iir, cs_irr, hs_1, hs_2, hs_3, hs_4, hs_5, hs_6, hs_7, hs_8, hs_9, hs_10, hs_11, hs_12, hs_13, hs_14, hs_15, hs_16, hs_17, hs_18, hs_19, hs_20, hs_21, hs_22, hs_23, hs_24, hs_25, hs_26, hs_27, hs_28, hs_29, hs_30, hs_31, hs_32, hs_33, hs_34, ec, nI_lt, nI_nlt, nI_le, nI_ge, nI_pos, pk_sub, nI_clamp, s2_ne, s2_o, s2_s, nI_add, inb_n, nI_nn, zq0, zq1, ↓reduceIte]
