/-! what is asked of the plan -/
theorem rn_reckon {d s n : Nat} {h : Sp} {F : Nat → Pst} {q : Qp} {G : Gm} {I : Im} (hp : Pl G s) (hs : Sh G s) (hsv : ShV I s h) (ho : SpOk h) (hv : PlV I s h n F) (hg : BgV I s h q) (hqo : QpOk h q) :
    ∃ I', run (d + 5) mX7_reckon [.ref s] G I = some (none, G, I') ∧ (∀ k, k ≤ n → CT G I' (s + 21 + 4 * k) s h (atK h q F k)) ∧ I' (s + 15) 1 = encO (firstU (fun i => noUse h (atK h q F i) (F i)) n) ∧ AW I' s h ∧ Fr (fun c => inPl s c ∨ inAW s c) I I' ∧ I' (s + 15) 0 = I (s + 15) 0 := by
  have hs_1 := hs.1; have hs_2 := hs.2.1; have hs_3 := hs.2.2.1; have hs_4 := hs.2.2.2.1; have hs_5 := hs.2.2.2.2.1; have hs_6 := hs.2.2.2.2.2.1; have hs_7 := (hs.2.2.2.2.2.2.1).1; have hs_8 := (hs.2.2.2.2.2.2.1).2.1; have hs_9 := (hs.2.2.2.2.2.2.1).2.2.1; have hs_10 := (hs.2.2.2.2.2.2.1).2.2.2.1; have hs_11 := (hs.2.2.2.2.2.2.1).2.2.2.2.1; have hs_12 := (hs.2.2.2.2.2.2.1).2.2.2.2.2.1; have hs_13 := (hs.2.2.2.2.2.2.1).2.2.2.2.2.2.1; have hs_14 := (hs.2.2.2.2.2.2.1).2.2.2.2.2.2.2.1; have hs_15 := (hs.2.2.2.2.2.2.1).2.2.2.2.2.2.2.2.1; have hs_16 := (hs.2.2.2.2.2.2.1).2.2.2.2.2.2.2.2.2.1; have hs_17 := (hs.2.2.2.2.2.2.1).2.2.2.2.2.2.2.2.2.2.1; have hs_18 := (hs.2.2.2.2.2.2.1).2.2.2.2.2.2.2.2.2.2.2.1; have hs_19 := (hs.2.2.2.2.2.2.1).2.2.2.2.2.2.2.2.2.2.2.2; have hs_20 := (hs.2.2.2.2.2.2.2.1).1; have hs_21 := (hs.2.2.2.2.2.2.2.1).2.1; have hs_22 := (hs.2.2.2.2.2.2.2.1).2.2.1; have hs_23 := (hs.2.2.2.2.2.2.2.1).2.2.2.1; have hs_24 := (hs.2.2.2.2.2.2.2.1).2.2.2.2.1; have hs_25 := (hs.2.2.2.2.2.2.2.1).2.2.2.2.2.1; have hs_26 := (hs.2.2.2.2.2.2.2.1).2.2.2.2.2.2.1; have hs_27 := (hs.2.2.2.2.2.2.2.1).2.2.2.2.2.2.2.1; have hs_28 := (hs.2.2.2.2.2.2.2.1).2.2.2.2.2.2.2.2.1; have hs_29 := (hs.2.2.2.2.2.2.2.1).2.2.2.2.2.2.2.2.2.1; have hs_30 := (hs.2.2.2.2.2.2.2.1).2.2.2.2.2.2.2.2.2.2.1; have hs_31 := (hs.2.2.2.2.2.2.2.1).2.2.2.2.2.2.2.2.2.2.2.1; have hs_32 := (hs.2.2.2.2.2.2.2.1).2.2.2.2.2.2.2.2.2.2.2.2; have hs_33 := hs.2.2.2.2.2.2.2.2.1; have hs_34 := hs.2.2.2.2.2.2.2.2.2.2
  obtain ⟨y, f1, f2, f3⟩ := rn_reckonA (d := d + 3) hs hsv ho
  have h1 : ShV y s h := hsv.fr (fun c h1 h2 => f3 c (by unfold inAW; omega))
  have h2 : PlV y s h n F := hv.fr (by rw [f3 _ (by unfold inAW; omega)]) (fun c h1 h2 => f3 c (by unfold inAW; omega))
  have h3 : BgV y s h q := by
    unfold BgV
    rw [f3 _ (by unfold inAW; omega), f3 _ (by unfold inAW; omega)]
    exact hg
  obtain ⟨z, g1, g2, g3, g4, g5⟩ := rn_follow (d := d) hp hs h1 ho h2 h3 hqo
  have t1 := hp.1
  refine ⟨z, ?_, g2, g3, ⟨fun D hD => ?_, fun k hk D hD => ?_⟩, fun c hc => ?_, ?_⟩
  · rw [f1]
    simp (disch := first | assumption | (simp (disch := omega) only [cK_some, ofR_some, ofR_none, Option.toList_some, Option.toList_none, List.cons_append, List.nil_append, isL_i, isL_r, isL_u, isL_2, cs_0, cs_i, cs_r, cs_l, cs_ii, cs_ir, cs_ri, cs_rr, cs_iir, cs_irr, hs_1, hs_2, hs_3, hs_4, hs_5, hs_6, hs_7, hs_8, hs_9, hs_10, hs_11, hs_12, hs_13, hs_14, hs_15, hs_16, hs_17, hs_18, hs_19, hs_20, hs_21, hs_22, hs_23, hs_24, hs_25, hs_26, hs_27, hs_28, hs_29, hs_30, hs_31, hs_32, hs_33, hs_34, t1, inb_n, bq4, bq5, n100, not_false_eq_true, isB_0, isB_1, nI_clamp, nI_nneg, Nat.zero_add, Nat.le_refl]; done) | omega) only [xX7_reckon_78, xX7_reckon_79, xX7_reckon_82, xX7_reckon_83, xX7_reckon_86, cK_some, ofR_some, ofR_none, Option.toList_some, Option.toList_none, List.cons_append, List.nil_append, isL_i, isL_r, isL_u, isL_2, cs_0, cs_i, cs_r, cs_l, cs_ii, cs_ir, cs_ri, cs_rr, cs_iir, cs_irr, hs_1, hs_2, hs_3, hs_4, hs_5, hs_6, hs_7, hs_8, hs_9, hs_10, hs_11, hs_12, hs_13, hs_14, hs_15, hs_16, hs_17, hs_18, hs_19, hs_20, hs_21, hs_22, hs_23, hs_24, hs_25, hs_26, hs_27, hs_28, hs_29, hs_30, hs_31, hs_32, hs_33, hs_34, g1, nI_lt, nI_nlt, nI_le, nI_ge, nI_pos, pk_sub, nI_clamp, s2_ne, s2_o, s2_s, nI_add, inb_n, nI_nn, zq0, zq1, ↓reduceIte]
  · rw [g4 _ (by unfold inPl; omega)]; exact f2.1 D hD
  · rw [g4 _ (by unfold inPl; omega)]; exact f2.2 k hk D hD
  · rw [g4 c (fun z => hc (Or.inl z)), f3 c (fun z => hc (Or.inr z))]
  · rw [g5, f3 _ (by unfold inAW; omega)]
/-- the plan of a shore, followed -/
def PF (G : Gm) (I : Im) (s : Nat) (h : Sp) (q : Qp) (n : Nat) (F : Nat → Pst) : Prop := Pl G s ∧ PlV I s h n F ∧ (∀ k, k ≤ n → CT G I (s + 21 + 4 * k) s h (atK h q F k))
def dryK (h : Sp) (q0 : Qp) (F : Nat → Pst) (b k : Nat) : Bool := decide (qD (atK h q0 F k) b ≤ hWant h b)
theorem firstU_none {p : Nat → Bool} {n : Nat} : firstU p n = none ↔ ∀ k, k < n → p k = false := by
  induction n with
  | zero => exact ⟨fun _ k hk => absurd hk (by omega), fun _ => rfl⟩
  | succ n ih =>
    have e : firstU p (n + 1) = if firstU p n = none ∧ p n = true then some n else firstU p n := rfl
    rw [e]
    constructor
    · intro h
      by_cases c : firstU p n = none ∧ p n = true
      · rw [if_pos c] at h; cases h
      · rw [if_neg c] at h
        intro k hk
        by_cases ek : k = n
        · cases hb : p n with
          | true => exact absurd ⟨h, hb⟩ c
          | false => rw [ek]; exact hb
        · exact ih.mp h k (by omega)
    · intro h
      have hn := ih.mpr (fun k hk => h k (by omega))
      rw [if_neg (fun c => by rw [h n (by omega)] at c; cases c.2)]
      exact hn
theorem firstU_some {p : Nat → Bool} {n k : Nat} (hk : k < n) (h : p k = true) (h0 : ∀ j, j < k → p j = false) : firstU p n = some k := by
  induction n with
  | zero => omega
  | succ n ih =>
    have e : firstU p (n + 1) = if firstU p n = none ∧ p n = true then some n else firstU p n := rfl
    rw [e]
    by_cases ek : k = n
    · subst ek
      rw [if_pos ⟨firstU_none.mpr h0, h⟩]
    · rw [ih (by omega), if_neg (by intro c; cases c.1)]
theorem rn_firstDry {d s b n : Nat} {h : Sp} {F : Nat → Pst} {q : Qp} {G : Gm} {I : Im} (P : PF G I s h q n F) (hb : b < hN h) : run (d + 1) mX5_firstDry [.ref (s + 15), .ref s, .int (nI b)] G I = some (some (.int (encO (firstU (dryK h q F b) (n + 1)))), G, I) := by
  obtain ⟨hp, hv, hK⟩ := P
  have hn := hv.1
  have ec := hv.2.1
  have p1 := hp.1
  have p6 := hp.2.2.2.2.2.1
  have t6 := hp.2.2.2.2.2.2.2.2.2.2.1
  have hrow := hp.2.2.2.2.2.2.2.2.2.2.2
  have hs := (hK 0 (by omega)).2.1
  have hs_1 := hs.1; have hs_2 := hs.2.1; have hs_3 := hs.2.2.1; have hs_4 := hs.2.2.2.1; have hs_5 := hs.2.2.2.2.1; have hs_6 := hs.2.2.2.2.2.1; have hs_7 := (hs.2.2.2.2.2.2.1).1; have hs_8 := (hs.2.2.2.2.2.2.1).2.1; have hs_9 := (hs.2.2.2.2.2.2.1).2.2.1; have hs_10 := (hs.2.2.2.2.2.2.1).2.2.2.1; have hs_11 := (hs.2.2.2.2.2.2.1).2.2.2.2.1; have hs_12 := (hs.2.2.2.2.2.2.1).2.2.2.2.2.1; have hs_13 := (hs.2.2.2.2.2.2.1).2.2.2.2.2.2.1; have hs_14 := (hs.2.2.2.2.2.2.1).2.2.2.2.2.2.2.1; have hs_15 := (hs.2.2.2.2.2.2.1).2.2.2.2.2.2.2.2.1; have hs_16 := (hs.2.2.2.2.2.2.1).2.2.2.2.2.2.2.2.2.1; have hs_17 := (hs.2.2.2.2.2.2.1).2.2.2.2.2.2.2.2.2.2.1; have hs_18 := (hs.2.2.2.2.2.2.1).2.2.2.2.2.2.2.2.2.2.2.1; have hs_19 := (hs.2.2.2.2.2.2.1).2.2.2.2.2.2.2.2.2.2.2.2; have hs_20 := (hs.2.2.2.2.2.2.2.1).1; have hs_21 := (hs.2.2.2.2.2.2.2.1).2.1; have hs_22 := (hs.2.2.2.2.2.2.2.1).2.2.1; have hs_23 := (hs.2.2.2.2.2.2.2.1).2.2.2.1; have hs_24 := (hs.2.2.2.2.2.2.2.1).2.2.2.2.1; have hs_25 := (hs.2.2.2.2.2.2.2.1).2.2.2.2.2.1; have hs_26 := (hs.2.2.2.2.2.2.2.1).2.2.2.2.2.2.1; have hs_27 := (hs.2.2.2.2.2.2.2.1).2.2.2.2.2.2.2.1; have hs_28 := (hs.2.2.2.2.2.2.2.1).2.2.2.2.2.2.2.2.1; have hs_29 := (hs.2.2.2.2.2.2.2.1).2.2.2.2.2.2.2.2.2.1; have hs_30 := (hs.2.2.2.2.2.2.2.1).2.2.2.2.2.2.2.2.2.2.1; have hs_31 := (hs.2.2.2.2.2.2.2.1).2.2.2.2.2.2.2.2.2.2.2.1; have hs_32 := (hs.2.2.2.2.2.2.2.1).2.2.2.2.2.2.2.2.2.2.2.2; have hs_33 := hs.2.2.2.2.2.2.2.2.1; have hs_34 := hs.2.2.2.2.2.2.2.2.2.2
  -- a place where one is dry
  have at1 : ∀ k, k ≤ n → dryK h q F b k = true → ex (d + 1) mX5_firstDry 2 [.val (.ref (s + 15)), .val (.ref s), .val (.int (nI b)), .val (.int (nI k))] [] G I = some (some (.int (nI k)), G, I) := by
    intro k hk hdr
    obtain ⟨r1, sc⟩ := hrow k (by omega)
    obtain ⟨ha, -, hd, hsv, ho, hq, hqo⟩ := hK k hk
    have hdry := rn_isDry (d := d) ha hs hsv ho hq hqo hb
    rw [if_pos (of_decide_eq_true hdr)] at hdry
    have s1 := sc.1
    rw [xX5_firstDry_2]
    simp (disch := first | assumption | (simp (disch := omega) only [cK_some, ofR_some, ofR_none, Option.toList_some, Option.toList_none, List.cons_append, List.nil_append, isL_i, isL_r, isL_u, isL_2, cs_0, cs_i, cs_r, cs_l, cs_ii, cs_ir, cs_ri, cs_rr, cs_iir, cs_irr, hs_1, hs_2, hs_3, hs_4, hs_5, hs_6, hs_7, hs_8, hs_9, hs_10, hs_11, hs_12, hs_13, hs_14, hs_15, hs_16, hs_17, hs_18, hs_19, hs_20, hs_21, hs_22, hs_23, hs_24, hs_25, hs_26, hs_27, hs_28, hs_29, hs_30, hs_31, hs_32, hs_33, hs_34, p1, t6, s1, inb_n, bq4, bq5, n100, not_false_eq_true, isB_0, isB_1, nI_clamp, nI_nneg, Nat.zero_add, Nat.le_refl]; done) | omega) only [xX5_firstDry_0, xX5_firstDry_1, xX5_firstDry_3, xX5_firstDry_4, xX5_firstDry_7, xX5_firstDry_10, xX5_firstDry_11, xX5_firstDry_14, xX5_firstDry_15, xX5_firstDry_16, xX5_firstDry_17, xX5_firstDry_18, xX5_firstDry_21, xX5_firstDry_24, xX5_firstDry_25, xX5_firstDry_26, xX5_firstDry_29, xX5_firstDry_32, xX5_firstDry_34, cK_some, ofR_some, ofR_none, Option.toList_some, Option.toList_none, List.cons_append, List.nil_append, isL_i, isL_r, isL_u, isL_2, cs_0, cs_i, cs_r, cs_l, cs_ii, cs_ir, cs_ri, cs_rr, cs_iir, cs_irr, hs_1, hs_2, hs_3, hs_4, hs_5, hs_6, hs_7, hs_8, hs_9, hs_10, hs_11, hs_12, hs_13, hs_14, hs_15, hs_16, hs_17, hs_18, hs_19, hs_20, hs_21, hs_22, hs_23, hs_24, hs_25, hs_26, hs_27, hs_28, hs_29, hs_30, hs_31, hs_32, hs_33, hs_34, ec, p6, r1, hdry, nI_lt, nI_nlt, nI_le, nI_ge, nI_pos, pk_sub, nI_clamp, s2_ne, s2_o, s2_s, nI_add, inb_n, nI_nn, zq0, zq1, ↓reduceIte]
  have at0 : ∀ k, k ≤ n → dryK h q F b k = false → ex (d + 1) mX5_firstDry 2 [.val (.ref (s + 15)), .val (.ref s), .val (.int (nI b)), .val (.int (nI k))] [] G I = ex (d + 1) mX5_firstDry 2 [.val (.ref (s + 15)), .val (.ref s), .val (.int (nI b)), .val (.int (nI (k + 1)))] [] G I := by
    intro k hk hdr
    obtain ⟨r1, sc⟩ := hrow k (by omega)
    obtain ⟨ha, -, hd, hsv, ho, hq, hqo⟩ := hK k hk
    have hdry := rn_isDry (d := d) ha hs hsv ho hq hqo hb
    rw [if_neg (of_decide_eq_false hdr)] at hdry
    have s1 := sc.1
    rw [xX5_firstDry_2]
    simp (disch := first | assumption | (simp (disch := omega) only [cK_some, ofR_some, ofR_none, Option.toList_some, Option.toList_none, List.cons_append, List.nil_append, isL_i, isL_r, isL_u, isL_2, cs_0, cs_i, cs_r, cs_l, cs_ii, cs_ir, cs_ri, cs_rr, cs_iir, cs_irr, hs_1, hs_2, hs_3, hs_4, hs_5, hs_6, hs_7, hs_8, hs_9, hs_10, hs_11, hs_12, hs_13, hs_14, hs_15, hs_16, hs_17, hs_18, hs_19, hs_20, hs_21, hs_22, hs_23, hs_24, hs_25, hs_26, hs_27, hs_28, hs_29, hs_30, hs_31, hs_32, hs_33, hs_34, p1, t6, s1, inb_n, bq4, bq5, n100, not_false_eq_true, isB_0, isB_1, nI_clamp, nI_nneg, Nat.zero_add, Nat.le_refl]; done) | omega) only [xX5_firstDry_0, xX5_firstDry_1, xX5_firstDry_3, xX5_firstDry_4, xX5_firstDry_7, xX5_firstDry_10, xX5_firstDry_11, xX5_firstDry_14, xX5_firstDry_15, xX5_firstDry_16, xX5_firstDry_17, xX5_firstDry_18, xX5_firstDry_21, xX5_firstDry_24, xX5_firstDry_25, xX5_firstDry_26, xX5_firstDry_29, xX5_firstDry_32, xX5_firstDry_34, cK_some, ofR_some, ofR_none, Option.toList_some, Option.toList_none, List.cons_append, List.nil_append, isL_i, isL_r, isL_u, isL_2, cs_0, cs_i, cs_r, cs_l, cs_ii, cs_ir, cs_ri, cs_rr, cs_iir, cs_irr, hs_1, hs_2, hs_3, hs_4, hs_5, hs_6, hs_7, hs_8, hs_9, hs_10, hs_11, hs_12, hs_13, hs_14, hs_15, hs_16, hs_17, hs_18, hs_19, hs_20, hs_21, hs_22, hs_23, hs_24, hs_25, hs_26, hs_27, hs_28, hs_29, hs_30, hs_31, hs_32, hs_33, hs_34, ec, p6, r1, hdry, nI_lt, nI_nlt, nI_le, nI_ge, nI_pos, pk_sub, nI_clamp, s2_ne, s2_o, s2_s, nI_add, inb_n, nI_nn, zq0, zq1, ↓reduceIte]
  simp (disch := first | assumption | (simp (disch := omega) only [cK_some, ofR_some, ofR_none, Option.toList_some, Option.toList_none, List.cons_append, List.nil_append, isL_i, isL_r, isL_u, isL_2, cs_0, cs_i, cs_r, cs_l, cs_ii, cs_ir, cs_ri, cs_rr, cs_iir, cs_irr, hs_1, hs_2, hs_3, hs_4, hs_5, hs_6, hs_7, hs_8, hs_9, hs_10, hs_11, hs_12, hs_13, hs_14, hs_15, hs_16, hs_17, hs_18, hs_19, hs_20, hs_21, hs_22, hs_23, hs_24, hs_25, hs_26, hs_27, hs_28, hs_29, hs_30, hs_31, hs_32, hs_33, hs_34, inb_n, bq4, bq5, n100, not_false_eq_true, isB_0, isB_1, nI_clamp, nI_nneg, Nat.zero_add, Nat.le_refl]; done) | omega) only [xX5_firstDry_0, xX5_firstDry_1, cK_some, ofR_some, ofR_none, Option.toList_some, Option.toList_none, List.cons_append, List.nil_append, isL_i, isL_r, isL_u, isL_2, cs_0, cs_i, cs_r, cs_l, cs_ii, cs_ir, cs_ri, cs_rr, cs_iir, cs_irr, hs_1, hs_2, hs_3, hs_4, hs_5, hs_6, hs_7, hs_8, hs_9, hs_10, hs_11, hs_12, hs_13, hs_14, hs_15, hs_16, hs_17, hs_18, hs_19, hs_20, hs_21, hs_22, hs_23, hs_24, hs_25, hs_26, hs_27, hs_28, hs_29, hs_30, hs_31, hs_32, hs_33, hs_34, rX5_firstDry, nI_lt, nI_nlt, nI_le, nI_ge, nI_pos, pk_sub, nI_clamp, s2_ne, s2_o, s2_s, nI_add, inb_n, nI_nn, zq0, zq1, ↓reduceIte]
  cases hU : firstU (dryK h q F b) (n + 1) with
  | none =>
    have hall := firstU_none.mp hU
    have hch := chain (fun k => ex (d + 1) mX5_firstDry 2 [.val (.ref (s + 15)), .val (.ref s), .val (.int (nI b)), .val (.int (nI k))] [] G I) (n + 1) (fun k hk => at0 k (by omega) (hall k hk))
    refine Eq.trans hch ?_
    try dsimp only
    rw [xX5_firstDry_2]
    simp (disch := first | assumption | (simp (disch := omega) only [cK_some, ofR_some, ofR_none, Option.toList_some, Option.toList_none, List.cons_append, List.nil_append, isL_i, isL_r, isL_u, isL_2, cs_0, cs_i, cs_r, cs_l, cs_ii, cs_ir, cs_ri, cs_rr, cs_iir, cs_irr, hs_1, hs_2, hs_3, hs_4, hs_5, hs_6, hs_7, hs_8, hs_9, hs_10, hs_11, hs_12, hs_13, hs_14, hs_15, hs_16, hs_17, hs_18, hs_19, hs_20, hs_21, hs_22, hs_23, hs_24, hs_25, hs_26, hs_27, hs_28, hs_29, hs_30, hs_31, hs_32, hs_33, hs_34, p1, inb_n, bq4, bq5, n100, not_false_eq_true, isB_0, isB_1, nI_clamp, nI_nneg, Nat.zero_add, Nat.le_refl]; done) | omega) only [xX5_firstDry_0, xX5_firstDry_1, xX5_firstDry_3, xX5_firstDry_4, xX5_firstDry_7, xX5_firstDry_10, xX5_firstDry_11, xX5_firstDry_14, xX5_firstDry_15, xX5_firstDry_16, xX5_firstDry_17, xX5_firstDry_18, xX5_firstDry_21, xX5_firstDry_24, xX5_firstDry_25, xX5_firstDry_26, xX5_firstDry_29, xX5_firstDry_32, xX5_firstDry_34, cK_some, ofR_some, ofR_none, Option.toList_some, Option.toList_none, List.cons_append, List.nil_append, isL_i, isL_r, isL_u, isL_2, cs_0, cs_i, cs_r, cs_l, cs_ii, cs_ir, cs_ri, cs_rr, cs_iir, cs_irr, hs_1, hs_2, hs_3, hs_4, hs_5, hs_6, hs_7, hs_8, hs_9, hs_10, hs_11, hs_12, hs_13, hs_14, hs_15, hs_16, hs_17, hs_18, hs_19, hs_20, hs_21, hs_22, hs_23, hs_24, hs_25, hs_26, hs_27, hs_28, hs_29, hs_30, hs_31, hs_32, hs_33, hs_34, ec, encO, nI_lt, nI_nlt, nI_le, nI_ge, nI_pos, pk_sub, nI_clamp, s2_ne, s2_o, s2_s, nI_add, inb_n, nI_nn, zq0, zq1, ↓reduceIte]
  | some k =>
    have hk := firstU_lt hU
    have hm : dryK h q F b k = true ∧ ∀ j, j < k → dryK h q F b j = false := by
      by_cases hx : ∃ j, j < n + 1 ∧ dryK h q F b j = true
      · obtain ⟨j, ⟨hj1, hj2⟩, hj3⟩ := pk_least (fun j => j < n + 1 ∧ dryK h q F b j = true) hx
        have hj4 : ∀ i, i < j → dryK h q F b i = false := by
          intro i hi
          cases hb2 : dryK h q F b i with
          | false => rfl
          | true => exact absurd ⟨by omega, hb2⟩ (hj3 i hi)
        have e := firstU_some hj1 hj2 hj4
        rw [hU] at e
        cases e
        exact ⟨hj2, hj4⟩
      · have e : firstU (dryK h q F b) (n + 1) = none := firstU_none.mpr (fun j hj => by
          cases hb2 : dryK h q F b j with
          | false => rfl
          | true => exact absurd ⟨j, hj, hb2⟩ hx)
        rw [hU] at e
        cases e
    have hch := chain (fun k => ex (d + 1) mX5_firstDry 2 [.val (.ref (s + 15)), .val (.ref s), .val (.int (nI b)), .val (.int (nI k))] [] G I) k (fun j hj => at0 j (by omega) (hm.2 j hj))
    refine Eq.trans hch ?_
    exact at1 k (by omega) hm.1
