/-! the class: the other lines -/
theorem sk0 {N P T b p : Nat} (hb : b < N) (hp : p < P) : SkOk N P T (0, b, p, 0) := by
  refine ⟨by show 0 ≤ 3; omega, fun _ => hb, fun _ => hp, fun c => ?_, fun c => ?_⟩
  · have c' : (0 : Nat) = 1 ∨ (0 : Nat) = 2 := c
    omega
  · have c' : (0 : Nat) = 2 := c
    omega
theorem sk1 {N P T t : Nat} (ht : t < T) : SkOk N P T (1, 0, t, 0) := by
  refine ⟨by show 1 ≤ 3; omega, fun c => ?_, fun c => ?_, fun _ => ht, fun c => ?_⟩
  · have c' : (1 : Nat) = 0 ∨ (1 : Nat) = 3 := c
    omega
  · have c' : (1 : Nat) = 0 := c
    omega
  · have c' : (1 : Nat) = 2 := c
    omega
theorem sk2 {N P T t k : Nat} (ht : t < T) (hk : k ≤ 60) : SkOk N P T (2, 0, t, k) := by
  refine ⟨by show 2 ≤ 3; omega, fun c => ?_, fun c => ?_, fun _ => ht, fun _ => hk⟩
  · have c' : (2 : Nat) = 0 ∨ (2 : Nat) = 3 := c
    omega
  · have c' : (2 : Nat) = 0 := c
    omega
theorem sk3 {N P T b : Nat} (hb : b < N) : SkOk N P T (3, b, 0, 0) := by
  refine ⟨by show 3 ≤ 3; omega, fun _ => hb, fun c => ?_, fun c => ?_, fun c => ?_⟩
  · have c' : (3 : Nat) = 0 := c
    omega
  · have c' : (3 : Nat) = 1 ∨ (3 : Nat) = 2 := c
    omega
  · have c' : (3 : Nat) = 2 := c
    omega
theorem c_readWrings {d t u e a : Nat} {B : Nat → Nat} {r : RS} {G : Gm} {I : Im} (hU : UpL G t u) (H : CpV G I t u B e a) (hr : RC I t u r) (ho : ROk e r) (htold : r.1.isSome = true) (hroom : rSt r < 12) :
    ∃ b I', run (d + 5) mX8_readWrings [.ref t] G I = some (some (.int (bI b)), G, I') ∧ AnL e I I' t u b (lnWrings B e a r) ∧ FL t u I I' := by
  obtain ⟨hT, hs, hp, hd⟩ := hU
  obtain ⟨l1, l2, l3, l4, l5, l6, l7, l8, l9, l10, l11, l12⟩ := id hT
  obtain ⟨r1, r2, r3, r4, r5, r6, r7, r8⟩ := id hr
  obtain ⟨p1, p2, p3, p4, p5, p6, p7, p8, p9, p10, p11, p12⟩ := id hp
  have hs_1 := hs.1; have hs_2 := hs.2.1; have hs_3 := hs.2.2.1; have hs_4 := hs.2.2.2.1; have hs_5 := hs.2.2.2.2.1; have hs_6 := hs.2.2.2.2.2.1; have hs_7 := (hs.2.2.2.2.2.2.1).1; have hs_8 := (hs.2.2.2.2.2.2.1).2.1; have hs_9 := (hs.2.2.2.2.2.2.1).2.2.1; have hs_10 := (hs.2.2.2.2.2.2.1).2.2.2.1; have hs_11 := (hs.2.2.2.2.2.2.1).2.2.2.2.1; have hs_12 := (hs.2.2.2.2.2.2.1).2.2.2.2.2.1; have hs_13 := (hs.2.2.2.2.2.2.1).2.2.2.2.2.2.1; have hs_14 := (hs.2.2.2.2.2.2.1).2.2.2.2.2.2.2.1; have hs_15 := (hs.2.2.2.2.2.2.1).2.2.2.2.2.2.2.2.1; have hs_16 := (hs.2.2.2.2.2.2.1).2.2.2.2.2.2.2.2.2.1; have hs_17 := (hs.2.2.2.2.2.2.1).2.2.2.2.2.2.2.2.2.2.1; have hs_18 := (hs.2.2.2.2.2.2.1).2.2.2.2.2.2.2.2.2.2.2.1; have hs_19 := (hs.2.2.2.2.2.2.1).2.2.2.2.2.2.2.2.2.2.2.2; have hs_20 := (hs.2.2.2.2.2.2.2.1).1; have hs_21 := (hs.2.2.2.2.2.2.2.1).2.1; have hs_22 := (hs.2.2.2.2.2.2.2.1).2.2.1; have hs_23 := (hs.2.2.2.2.2.2.2.1).2.2.2.1; have hs_24 := (hs.2.2.2.2.2.2.2.1).2.2.2.2.1; have hs_25 := (hs.2.2.2.2.2.2.2.1).2.2.2.2.2.1; have hs_26 := (hs.2.2.2.2.2.2.2.1).2.2.2.2.2.2.1; have hs_27 := (hs.2.2.2.2.2.2.2.1).2.2.2.2.2.2.2.1; have hs_28 := (hs.2.2.2.2.2.2.2.1).2.2.2.2.2.2.2.2.1; have hs_29 := (hs.2.2.2.2.2.2.2.1).2.2.2.2.2.2.2.2.2.1; have hs_30 := (hs.2.2.2.2.2.2.2.1).2.2.2.2.2.2.2.2.2.2.1; have hs_31 := (hs.2.2.2.2.2.2.2.1).2.2.2.2.2.2.2.2.2.2.2.1; have hs_32 := (hs.2.2.2.2.2.2.2.1).2.2.2.2.2.2.2.2.2.2.2.2; have hs_33 := hs.2.2.2.2.2.2.2.2.1; have hs_34 := hs.2.2.2.2.2.2.2.2.2.2
  unfold lnWrings
  obtain ⟨b1, y1, f1, A1, F1⟩ := c_takeName (d := d) (ofT := true) H ho.2.2.2.2.2.2.2.1 (r8)
  cases h1 : pM B e a (rNn r) (rNm r) true with
  | inl x =>
    rw [h1] at A1
    obtain ⟨rfl, A1f⟩ := A1
    try simp only [h1, bnd_l, bnd_r]
    simp only [bI_1, bI_0] at f1
    refine ⟨false, y1, ?_, ⟨rfl, A1f⟩, F1.l⟩
    simp (disch := first | assumption | (simp (disch := omega) only [cK_some, ofR_some, ofR_none, Option.toList_some, Option.toList_none, List.cons_append, List.nil_append, isL_i, isL_r, isL_u, isL_2, cs_0, cs_i, cs_r, cs_l, cs_ii, cs_ir, cs_ri, cs_rr, cs_iir, cs_irr, cs_iii, cs_iri, cs_rii, cs_rir, cs_rri, cs_rrr, cs_iiii, cs_iiir, cs_iiri, cs_iirr, cs_irii, cs_irir, cs_irri, cs_irrr, cs_riii, cs_riir, cs_riri, cs_rirr, cs_rrii, cs_rrir, cs_rrri, cs_rrrr, hs_1, hs_2, hs_3, hs_4, hs_5, hs_6, hs_7, hs_8, hs_9, hs_10, hs_11, hs_12, hs_13, hs_14, hs_15, hs_16, hs_17, hs_18, hs_19, hs_20, hs_21, hs_22, hs_23, hs_24, hs_25, hs_26, hs_27, hs_28, hs_29, hs_30, hs_31, hs_32, hs_33, hs_34, l1, inb_n, bq4, bq5, n100, not_false_eq_true, isB_0, isB_1, nI_clamp, nI_nneg, Nat.zero_add, Nat.le_refl]; done) | omega | (simp (disch := omega) only [cK_some, ofR_some, ofR_none, Option.toList_some, Option.toList_none, List.cons_append, List.nil_append, isL_i, isL_r, isL_u, isL_2, cs_0, cs_i, cs_r, cs_l, cs_ii, cs_ir, cs_ri, cs_rr, cs_iir, cs_irr, cs_iii, cs_iri, cs_rii, cs_rir, cs_rri, cs_rrr, cs_iiii, cs_iiir, cs_iiri, cs_iirr, cs_irii, cs_irir, cs_irri, cs_irrr, cs_riii, cs_riir, cs_riri, cs_rirr, cs_rrii, cs_rrir, cs_rrri, cs_rrrr, hs_1, hs_2, hs_3, hs_4, hs_5, hs_6, hs_7, hs_8, hs_9, hs_10, hs_11, hs_12, hs_13, hs_14, hs_15, hs_16, hs_17, hs_18, hs_19, hs_20, hs_21, hs_22, hs_23, hs_24, hs_25, hs_26, hs_27, hs_28, hs_29, hs_30, hs_31, hs_32, hs_33, hs_34, l1, inb_n, bq4, bq5, n100, not_false_eq_true, isB_0, isB_1, nI_clamp, nI_nneg, Nat.zero_add, Nat.le_refl]; omega)) only [xX8_readWrings_0, xX8_readWrings_1, xX8_readWrings_2, xX8_readWrings_5, xX8_readWrings_8, xX8_readWrings_9, cK_some, ofR_some, ofR_none, Option.toList_some, Option.toList_none, List.cons_append, List.nil_append, isL_i, isL_r, isL_u, isL_2, cs_0, cs_i, cs_r, cs_l, cs_ii, cs_ir, cs_ri, cs_rr, cs_iir, cs_irr, cs_iii, cs_iri, cs_rii, cs_rir, cs_rri, cs_rrr, cs_iiii, cs_iiir, cs_iiri, cs_iirr, cs_irii, cs_irir, cs_irri, cs_irrr, cs_riii, cs_riir, cs_riri, cs_rirr, cs_rrii, cs_rrir, cs_rrri, cs_rrrr, hs_1, hs_2, hs_3, hs_4, hs_5, hs_6, hs_7, hs_8, hs_9, hs_10, hs_11, hs_12, hs_13, hs_14, hs_15, hs_16, hs_17, hs_18, hs_19, hs_20, hs_21, hs_22, hs_23, hs_24, hs_25, hs_26, hs_27, hs_28, hs_29, hs_30, hs_31, hs_32, hs_33, hs_34, rX8_readWrings, bI_1, f1, bI_0, Nat.add_sub_cancel, Nat.add_zero, Nat.zero_add, nI_lt, nI_nlt, nI_le, nI_ge, nI_pos, pk_sub, nI_clamp, s2_ne, s2_o, s2_s, nI_add, inb_n, nI_nn, zq0, zq1, ↓reduceIte]
  | inr v1 =>
    rw [h1] at A1
    obtain ⟨rfl, A1a, A1v, A1s, A1z⟩ := A1
    try simp only [h1, bnd_r]
    simp only [bI_1, bI_0] at f1
    have E1 : run (d + 5) mX8_readWrings [.ref t] G I = ex (d + 5) mX8_readWrings 10 [.val (.ref t)] [] G y1 := by
      simp (disch := first | assumption | (simp (disch := omega) only [cK_some, ofR_some, ofR_none, Option.toList_some, Option.toList_none, List.cons_append, List.nil_append, isL_i, isL_r, isL_u, isL_2, cs_0, cs_i, cs_r, cs_l, cs_ii, cs_ir, cs_ri, cs_rr, cs_iir, cs_irr, cs_iii, cs_iri, cs_rii, cs_rir, cs_rri, cs_rrr, cs_iiii, cs_iiir, cs_iiri, cs_iirr, cs_irii, cs_irir, cs_irri, cs_irrr, cs_riii, cs_riir, cs_riri, cs_rirr, cs_rrii, cs_rrir, cs_rrri, cs_rrrr, hs_1, hs_2, hs_3, hs_4, hs_5, hs_6, hs_7, hs_8, hs_9, hs_10, hs_11, hs_12, hs_13, hs_14, hs_15, hs_16, hs_17, hs_18, hs_19, hs_20, hs_21, hs_22, hs_23, hs_24, hs_25, hs_26, hs_27, hs_28, hs_29, hs_30, hs_31, hs_32, hs_33, hs_34, l1, inb_n, bq4, bq5, n100, not_false_eq_true, isB_0, isB_1, nI_clamp, nI_nneg, Nat.zero_add, Nat.le_refl]; done) | omega | (simp (disch := omega) only [cK_some, ofR_some, ofR_none, Option.toList_some, Option.toList_none, List.cons_append, List.nil_append, isL_i, isL_r, isL_u, isL_2, cs_0, cs_i, cs_r, cs_l, cs_ii, cs_ir, cs_ri, cs_rr, cs_iir, cs_irr, cs_iii, cs_iri, cs_rii, cs_rir, cs_rri, cs_rrr, cs_iiii, cs_iiir, cs_iiri, cs_iirr, cs_irii, cs_irir, cs_irri, cs_irrr, cs_riii, cs_riir, cs_riri, cs_rirr, cs_rrii, cs_rrir, cs_rrri, cs_rrrr, hs_1, hs_2, hs_3, hs_4, hs_5, hs_6, hs_7, hs_8, hs_9, hs_10, hs_11, hs_12, hs_13, hs_14, hs_15, hs_16, hs_17, hs_18, hs_19, hs_20, hs_21, hs_22, hs_23, hs_24, hs_25, hs_26, hs_27, hs_28, hs_29, hs_30, hs_31, hs_32, hs_33, hs_34, l1, inb_n, bq4, bq5, n100, not_false_eq_true, isB_0, isB_1, nI_clamp, nI_nneg, Nat.zero_add, Nat.le_refl]; omega)) only [xX8_readWrings_0, xX8_readWrings_1, xX8_readWrings_2, xX8_readWrings_5, cK_some, ofR_some, ofR_none, Option.toList_some, Option.toList_none, List.cons_append, List.nil_append, isL_i, isL_r, isL_u, isL_2, cs_0, cs_i, cs_r, cs_l, cs_ii, cs_ir, cs_ri, cs_rr, cs_iir, cs_irr, cs_iii, cs_iri, cs_rii, cs_rir, cs_rri, cs_rrr, cs_iiii, cs_iiir, cs_iiri, cs_iirr, cs_irii, cs_irir, cs_irri, cs_irrr, cs_riii, cs_riir, cs_riri, cs_rirr, cs_rrii, cs_rrir, cs_rrri, cs_rrrr, hs_1, hs_2, hs_3, hs_4, hs_5, hs_6, hs_7, hs_8, hs_9, hs_10, hs_11, hs_12, hs_13, hs_14, hs_15, hs_16, hs_17, hs_18, hs_19, hs_20, hs_21, hs_22, hs_23, hs_24, hs_25, hs_26, hs_27, hs_28, hs_29, hs_30, hs_31, hs_32, hs_33, hs_34, rX8_readWrings, bI_1, f1, bI_1, Nat.add_sub_cancel, Nat.add_zero, Nat.zero_add, nI_lt, nI_nlt, nI_le, nI_ge, nI_pos, pk_sub, nI_clamp, s2_ne, s2_o, s2_s, nI_add, inb_n, nI_nn, zq0, zq1, ↓reduceIte]
    have L1 : FL t u I y1 := F1.l
    have h1e := pM_e h1 H.2.2.2
    have H1 : CpV G y1 t u B e v1.2 := H.fl L1 hd A1a h1e.1
    have n1b : v1.1 < rT r := by
      obtain ⟨i, i1, i2, i3⟩ := h1e.2
      have := ho.2.2.2.2.2.2.2.2.1 i i1
      rw [i2, i3] at this
      simpa using this
    have n1c : v1.1 < 6 := by have := ho.2.1.1; have := ho.2.1.2.2.1; omega
    have hn12 : rSt r < 12 := hroom
    have ec : y1 (u + 15) 0 = nI (rSt r) := by
      simp (disch := omega) only [F1.1]
      exact r3.2.2.2.2
    have hadd := c_planAdd (d := d + 4) (a := nI 1) (b := -2) (c := nI v1.1) (e := -2) (I := y1) hp ec hn12
    have hW : stWho (1, 0, v1.1, 0) = -2 := by unfold stWho; simp
    have hA : stWhat (1, 0, v1.1, 0) = nI v1.1 := by unfold stWhat; simp
    have hB : stLong (1, 0, v1.1, 0) = -2 := by unfold stLong; simp
    have hz : ∀ c k, c ≠ t → ¬ (c = u + 16 ∨ c = u + 17 ∨ c = u + 18 ∨ c = u + 19 ∨ (c = u + 15 ∧ k = 0)) → s2 (s2 (s2 (s2 (s2 y1 (u + 16) (rSt r) (nI 1)) (u + 17) (rSt r) (-2)) (u + 18) (rSt r) (nI v1.1)) (u + 19) (rSt r) (-2)) (u + 15) 0 (nI (rSt r + 1)) c k = I c k := by
      intro c k hct hc
      by_cases e15 : c = u + 15
      · rw [e15, s2_o (by omega), s2_ne (by omega), s2_ne (by omega), s2_ne (by omega), s2_ne (by omega)]
        simp (disch := omega) only [F1.1]
      · rw [s2_ne e15, s2_ne (by omega), s2_ne (by omega), s2_ne (by omega), s2_ne (by omega)]
        simp (disch := omega) only [F1.1]
    have hzt : s2 (s2 (s2 (s2 (s2 y1 (u + 16) (rSt r) (nI 1)) (u + 17) (rSt r) (-2)) (u + 18) (rSt r) (nI v1.1)) (u + 19) (rSt r) (-2)) (u + 15) 0 (nI (rSt r + 1)) t = y1 t := by
      rw [s2_ne (by omega), s2_ne (by omega), s2_ne (by omega), s2_ne (by omega), s2_ne (by omega)]
    have hrow : ∀ (x : Int32) (c i : Nat) (g : Nat → Int32), (∀ i, i < rSt r → y1 c i = g i) → i < rSt r + 1 → s2 y1 c (rSt r) x c i = if i = rSt r then x else g i := by
      intro x c i g hg hi
      rw [s2_eq]
      by_cases ei : i = rSt r
      · rw [if_pos ei, if_pos ei]
      · rw [if_neg ei, if_neg ei, hg i (by omega)]
    have r7y : ∀ i, i < rSt r → y1 (u + 16) i = nI (rF r i).1 ∧ y1 (u + 17) i = stWho (rF r i) ∧ y1 (u + 18) i = stWhat (rF r i) ∧ y1 (u + 19) i = stLong (rF r i) := fun i hi => by
      simp (disch := omega) only [F1.1]
      exact r7 i hi
    refine ⟨true, s2 (s2 (s2 (s2 (s2 y1 (u + 16) (rSt r) (nI 1)) (u + 17) (rSt r) (-2)) (u + 18) (rSt r) (nI v1.1)) (u + 19) (rSt r) (-2)) (u + 15) 0 (nI (rSt r + 1)), ?_, ⟨rfl, ?_, H1.2.2.2, ⟨?_, fun s hs' => ?_, ⟨?_, ?_, ?_, ?_, s2_s⟩, fun k hk => ?_, fun p hp' => ?_, fun b hb => ?_, fun i hi => ?_, ?_⟩, ?_, ?_⟩, ?_⟩
    · refine E1.trans ?_
      simp (disch := first | assumption | (simp (disch := omega) only [cK_some, ofR_some, ofR_none, Option.toList_some, Option.toList_none, List.cons_append, List.nil_append, isL_i, isL_r, isL_u, isL_2, cs_0, cs_i, cs_r, cs_l, cs_ii, cs_ir, cs_ri, cs_rr, cs_iir, cs_irr, cs_iii, cs_iri, cs_rii, cs_rir, cs_rri, cs_rrr, cs_iiii, cs_iiir, cs_iiri, cs_iirr, cs_irii, cs_irir, cs_irri, cs_irrr, cs_riii, cs_riir, cs_riri, cs_rirr, cs_rrii, cs_rrir, cs_rrri, cs_rrrr, hs_1, hs_2, hs_3, hs_4, hs_5, hs_6, hs_7, hs_8, hs_9, hs_10, hs_11, hs_12, hs_13, hs_14, hs_15, hs_16, hs_17, hs_18, hs_19, hs_20, hs_21, hs_22, hs_23, hs_24, hs_25, hs_26, hs_27, hs_28, hs_29, hs_30, hs_31, hs_32, hs_33, hs_34, l1, inb_n, bq4, bq5, n100, not_false_eq_true, isB_0, isB_1, nI_clamp, nI_nneg, Nat.zero_add, Nat.le_refl]; done) | omega | (simp (disch := omega) only [cK_some, ofR_some, ofR_none, Option.toList_some, Option.toList_none, List.cons_append, List.nil_append, isL_i, isL_r, isL_u, isL_2, cs_0, cs_i, cs_r, cs_l, cs_ii, cs_ir, cs_ri, cs_rr, cs_iir, cs_irr, cs_iii, cs_iri, cs_rii, cs_rir, cs_rri, cs_rrr, cs_iiii, cs_iiir, cs_iiri, cs_iirr, cs_irii, cs_irir, cs_irri, cs_irrr, cs_riii, cs_riir, cs_riri, cs_rirr, cs_rrii, cs_rrir, cs_rrri, cs_rrrr, hs_1, hs_2, hs_3, hs_4, hs_5, hs_6, hs_7, hs_8, hs_9, hs_10, hs_11, hs_12, hs_13, hs_14, hs_15, hs_16, hs_17, hs_18, hs_19, hs_20, hs_21, hs_22, hs_23, hs_24, hs_25, hs_26, hs_27, hs_28, hs_29, hs_30, hs_31, hs_32, hs_33, hs_34, l1, inb_n, bq4, bq5, n100, not_false_eq_true, isB_0, isB_1, nI_clamp, nI_nneg, Nat.zero_add, Nat.le_refl]; omega)) only [xX8_readWrings_10, xX8_readWrings_11, xX8_readWrings_14, xX8_readWrings_17, xX8_readWrings_18, xX8_readWrings_20, xX8_readWrings_21, xX8_readWrings_24, xX8_readWrings_26, xX8_readWrings_29, xX8_readWrings_30, cK_some, ofR_some, ofR_none, Option.toList_some, Option.toList_none, List.cons_append, List.nil_append, isL_i, isL_r, isL_u, isL_2, cs_0, cs_i, cs_r, cs_l, cs_ii, cs_ir, cs_ri, cs_rr, cs_iir, cs_irr, cs_iii, cs_iri, cs_rii, cs_rir, cs_rri, cs_rrr, cs_iiii, cs_iiir, cs_iiri, cs_iirr, cs_irii, cs_irir, cs_irri, cs_irrr, cs_riii, cs_riir, cs_riri, cs_rirr, cs_rrii, cs_rrir, cs_rrri, cs_rrrr, hs_1, hs_2, hs_3, hs_4, hs_5, hs_6, hs_7, hs_8, hs_9, hs_10, hs_11, hs_12, hs_13, hs_14, hs_15, hs_16, hs_17, hs_18, hs_19, hs_20, hs_21, hs_22, hs_23, hs_24, hs_25, hs_26, hs_27, hs_28, hs_29, hs_30, hs_31, hs_32, hs_33, hs_34, A1v, l3, hs_8, hadd, bI_1, Nat.add_sub_cancel, Nat.add_zero, Nat.zero_add, nI_lt, nI_nlt, nI_le, nI_ge, nI_pos, pk_sub, nI_clamp, s2_ne, s2_o, s2_s, nI_add, inb_n, nI_nn, zq0, zq1, ↓reduceIte]
    · rw [hzt]; exact H1.2.2.1
    · rw [hzt]
      simp only [F1.2 9 (by decide) (by decide) (by decide) (by decide) (by decide) (by decide)]
      exact r1
    · have h := r2 s hs'
      rw [hz u 0 (by omega) (by omega), hz u 1 (by omega) (by omega), hz u 2 (by omega) (by omega), hz u 3 (by omega) (by omega), hz u 4 (by omega) (by omega), hz u 5 (by omega) (by omega)]
      exact h
    · rw [hz (u + 1) 0 (by omega) (by omega)]; exact r3.1
    · rw [hz (u + 1) 1 (by omega) (by omega)]; exact r3.2.1
    · rw [hz (u + 1) 2 (by omega) (by omega)]; exact r3.2.2.1
    · rw [hz (u + 8) 0 (by omega) (by omega)]; exact r3.2.2.2.1
    · rw [hz _ _ (by omega) (by omega), hz _ _ (by omega) (by omega), hz _ _ (by omega) (by omega)]; exact r4 k hk
    · rw [hz _ _ (by omega) (by omega), hz _ _ (by omega) (by omega), hz _ _ (by omega) (by omega)]; exact r5 p hp'
    · rw [hz _ _ (by omega) (by omega), hz _ _ (by omega) (by omega), hz _ _ (by omega) (by omega), hz _ _ (by omega) (by omega), hz _ _ (by omega) (by omega), hz _ _ (by omega) (by omega)]; exact r6 b hb
    · have hF : rF (addStep r (1, 0, v1.1, 0)) i = if i = rSt r then (1, 0, v1.1, 0) else rF r i := rfl
      rw [hF]
      have hi' : i < rSt r + 1 := hi
      refine ⟨?_, ?_, ?_, ?_⟩
      · rw [s2_ne (by omega), s2_ne (by omega), s2_ne (by omega), s2_ne (by omega), hrow _ _ i _ (fun i hi => (r7y i hi).1) hi']
        by_cases ei : i = rSt r
        · rw [if_pos ei, if_pos ei]
        · rw [if_neg ei, if_neg ei]
      · rw [s2_ne (by omega), s2_ne (by omega), s2_ne (by omega), s2_eq, s2_ne (by omega)]
        by_cases ei : i = rSt r
        · rw [if_pos ei, if_pos ei, hW]
        · rw [if_neg ei, if_neg ei]; exact (r7y i (by omega)).2.1
      · rw [s2_ne (by omega), s2_ne (by omega), s2_eq, s2_ne (by omega), s2_ne (by omega)]
        by_cases ei : i = rSt r
        · rw [if_pos ei, if_pos ei, hA]
        · rw [if_neg ei, if_neg ei]; exact (r7y i (by omega)).2.2.1
      · rw [s2_ne (by omega), s2_eq, s2_ne (by omega), s2_ne (by omega), s2_ne (by omega)]
        by_cases ei : i = rSt r
        · rw [if_pos ei, if_pos ei, hB]
        · rw [if_neg ei, if_neg ei]; exact (r7y i (by omega)).2.2.2
    · exact ((r8).fq F1).fr (by rw [hzt]) (fun c h1 h2 => by rw [s2_ne (by omega), s2_ne (by omega), s2_ne (by omega), s2_ne (by omega), s2_ne (by omega)])
    · obtain ⟨o1, o2, o3, o4, o5, o6, o7, o8, o9, o10, o11⟩ := ho
      refine ⟨o1, ⟨o2.1, o2.2.1, o2.2.2.1, ?_, o2.2.2.2.2.1, o2.2.2.2.2.2⟩, o3, o4, o5, fun i hi => ?_, o7, o8, o9, o10, fun c => absurd htold (by rw [show r.1 = none from c]; simp)⟩
      · show rSt r + 1 ≤ 12
        omega
      · have hF : rF (addStep r (1, 0, v1.1, 0)) i = if i = rSt r then (1, 0, v1.1, 0) else rF r i := rfl
        rw [hF]
        by_cases ei : i = rSt r
        · rw [if_pos ei]
          show SkOk (rN r) (rP r) (rT r) (1, 0, v1.1, 0)
          exact sk1 n1b
        · rw [if_neg ei]
          have hi' : i < rSt r + 1 := hi
          exact o6 i (by omega)
    · rw [hzt]
      simp only [A1z]
    · exact ((((L1.s2 ⟨by omega, by omega⟩ hd).s2 ⟨by omega, by omega⟩ hd).s2 ⟨by omega, by omega⟩ hd).s2 ⟨by omega, by omega⟩ hd).s2 ⟨by omega, by omega⟩ hd
theorem c_readShakes {d t u e a : Nat} {B : Nat → Nat} {r : RS} {G : Gm} {I : Im} (hU : UpL G t u) (H : CpV G I t u B e a) (hr : RC I t u r) (ho : ROk e r) (htold : r.1.isSome = true) (hroom : rSt r < 12) :
    ∃ b I', run (d + 5) mX8_readShakes [.ref t] G I = some (some (.int (bI b)), G, I') ∧ AnL e I I' t u b (lnShakes B e a r) ∧ FL t u I I' := by
  obtain ⟨hT, hs, hp, hd⟩ := hU
  obtain ⟨l1, l2, l3, l4, l5, l6, l7, l8, l9, l10, l11, l12⟩ := id hT
  obtain ⟨r1, r2, r3, r4, r5, r6, r7, r8⟩ := id hr
  obtain ⟨p1, p2, p3, p4, p5, p6, p7, p8, p9, p10, p11, p12⟩ := id hp
  have hs_1 := hs.1; have hs_2 := hs.2.1; have hs_3 := hs.2.2.1; have hs_4 := hs.2.2.2.1; have hs_5 := hs.2.2.2.2.1; have hs_6 := hs.2.2.2.2.2.1; have hs_7 := (hs.2.2.2.2.2.2.1).1; have hs_8 := (hs.2.2.2.2.2.2.1).2.1; have hs_9 := (hs.2.2.2.2.2.2.1).2.2.1; have hs_10 := (hs.2.2.2.2.2.2.1).2.2.2.1; have hs_11 := (hs.2.2.2.2.2.2.1).2.2.2.2.1; have hs_12 := (hs.2.2.2.2.2.2.1).2.2.2.2.2.1; have hs_13 := (hs.2.2.2.2.2.2.1).2.2.2.2.2.2.1; have hs_14 := (hs.2.2.2.2.2.2.1).2.2.2.2.2.2.2.1; have hs_15 := (hs.2.2.2.2.2.2.1).2.2.2.2.2.2.2.2.1; have hs_16 := (hs.2.2.2.2.2.2.1).2.2.2.2.2.2.2.2.2.1; have hs_17 := (hs.2.2.2.2.2.2.1).2.2.2.2.2.2.2.2.2.2.1; have hs_18 := (hs.2.2.2.2.2.2.1).2.2.2.2.2.2.2.2.2.2.2.1; have hs_19 := (hs.2.2.2.2.2.2.1).2.2.2.2.2.2.2.2.2.2.2.2; have hs_20 := (hs.2.2.2.2.2.2.2.1).1; have hs_21 := (hs.2.2.2.2.2.2.2.1).2.1; have hs_22 := (hs.2.2.2.2.2.2.2.1).2.2.1; have hs_23 := (hs.2.2.2.2.2.2.2.1).2.2.2.1; have hs_24 := (hs.2.2.2.2.2.2.2.1).2.2.2.2.1; have hs_25 := (hs.2.2.2.2.2.2.2.1).2.2.2.2.2.1; have hs_26 := (hs.2.2.2.2.2.2.2.1).2.2.2.2.2.2.1; have hs_27 := (hs.2.2.2.2.2.2.2.1).2.2.2.2.2.2.2.1; have hs_28 := (hs.2.2.2.2.2.2.2.1).2.2.2.2.2.2.2.2.1; have hs_29 := (hs.2.2.2.2.2.2.2.1).2.2.2.2.2.2.2.2.2.1; have hs_30 := (hs.2.2.2.2.2.2.2.1).2.2.2.2.2.2.2.2.2.2.1; have hs_31 := (hs.2.2.2.2.2.2.2.1).2.2.2.2.2.2.2.2.2.2.2.1; have hs_32 := (hs.2.2.2.2.2.2.2.1).2.2.2.2.2.2.2.2.2.2.2.2; have hs_33 := hs.2.2.2.2.2.2.2.2.1; have hs_34 := hs.2.2.2.2.2.2.2.2.2.2
  unfold lnShakes
  obtain ⟨b1, y1, f1, A1, F1⟩ := c_takeName (d := d) (ofT := false) H ho.2.2.2.2.2.2.2.1 (r8)
  cases h1 : pM B e a (rNn r) (rNm r) false with
  | inl x =>
    rw [h1] at A1
    obtain ⟨rfl, A1f⟩ := A1
    try simp only [h1, bnd_l, bnd_r]
    simp only [bI_1, bI_0] at f1
    refine ⟨false, y1, ?_, ⟨rfl, A1f⟩, F1.l⟩
    simp (disch := first | assumption | (simp (disch := omega) only [cK_some, ofR_some, ofR_none, Option.toList_some, Option.toList_none, List.cons_append, List.nil_append, isL_i, isL_r, isL_u, isL_2, cs_0, cs_i, cs_r, cs_l, cs_ii, cs_ir, cs_ri, cs_rr, cs_iir, cs_irr, cs_iii, cs_iri, cs_rii, cs_rir, cs_rri, cs_rrr, cs_iiii, cs_iiir, cs_iiri, cs_iirr, cs_irii, cs_irir, cs_irri, cs_irrr, cs_riii, cs_riir, cs_riri, cs_rirr, cs_rrii, cs_rrir, cs_rrri, cs_rrrr, hs_1, hs_2, hs_3, hs_4, hs_5, hs_6, hs_7, hs_8, hs_9, hs_10, hs_11, hs_12, hs_13, hs_14, hs_15, hs_16, hs_17, hs_18, hs_19, hs_20, hs_21, hs_22, hs_23, hs_24, hs_25, hs_26, hs_27, hs_28, hs_29, hs_30, hs_31, hs_32, hs_33, hs_34, l1, inb_n, bq4, bq5, n100, not_false_eq_true, isB_0, isB_1, nI_clamp, nI_nneg, Nat.zero_add, Nat.le_refl]; done) | omega | (simp (disch := omega) only [cK_some, ofR_some, ofR_none, Option.toList_some, Option.toList_none, List.cons_append, List.nil_append, isL_i, isL_r, isL_u, isL_2, cs_0, cs_i, cs_r, cs_l, cs_ii, cs_ir, cs_ri, cs_rr, cs_iir, cs_irr, cs_iii, cs_iri, cs_rii, cs_rir, cs_rri, cs_rrr, cs_iiii, cs_iiir, cs_iiri, cs_iirr, cs_irii, cs_irir, cs_irri, cs_irrr, cs_riii, cs_riir, cs_riri, cs_rirr, cs_rrii, cs_rrir, cs_rrri, cs_rrrr, hs_1, hs_2, hs_3, hs_4, hs_5, hs_6, hs_7, hs_8, hs_9, hs_10, hs_11, hs_12, hs_13, hs_14, hs_15, hs_16, hs_17, hs_18, hs_19, hs_20, hs_21, hs_22, hs_23, hs_24, hs_25, hs_26, hs_27, hs_28, hs_29, hs_30, hs_31, hs_32, hs_33, hs_34, l1, inb_n, bq4, bq5, n100, not_false_eq_true, isB_0, isB_1, nI_clamp, nI_nneg, Nat.zero_add, Nat.le_refl]; omega)) only [xX8_readShakes_0, xX8_readShakes_1, xX8_readShakes_2, xX8_readShakes_5, xX8_readShakes_8, xX8_readShakes_9, cK_some, ofR_some, ofR_none, Option.toList_some, Option.toList_none, List.cons_append, List.nil_append, isL_i, isL_r, isL_u, isL_2, cs_0, cs_i, cs_r, cs_l, cs_ii, cs_ir, cs_ri, cs_rr, cs_iir, cs_irr, cs_iii, cs_iri, cs_rii, cs_rir, cs_rri, cs_rrr, cs_iiii, cs_iiir, cs_iiri, cs_iirr, cs_irii, cs_irir, cs_irri, cs_irrr, cs_riii, cs_riir, cs_riri, cs_rirr, cs_rrii, cs_rrir, cs_rrri, cs_rrrr, hs_1, hs_2, hs_3, hs_4, hs_5, hs_6, hs_7, hs_8, hs_9, hs_10, hs_11, hs_12, hs_13, hs_14, hs_15, hs_16, hs_17, hs_18, hs_19, hs_20, hs_21, hs_22, hs_23, hs_24, hs_25, hs_26, hs_27, hs_28, hs_29, hs_30, hs_31, hs_32, hs_33, hs_34, rX8_readShakes, bI_0, f1, bI_0, Nat.add_sub_cancel, Nat.add_zero, Nat.zero_add, nI_lt, nI_nlt, nI_le, nI_ge, nI_pos, pk_sub, nI_clamp, s2_ne, s2_o, s2_s, nI_add, inb_n, nI_nn, zq0, zq1, ↓reduceIte]
  | inr v1 =>
    rw [h1] at A1
    obtain ⟨rfl, A1a, A1v, A1s, A1z⟩ := A1
    try simp only [h1, bnd_r]
    simp only [bI_1, bI_0] at f1
    have E1 : run (d + 5) mX8_readShakes [.ref t] G I = ex (d + 5) mX8_readShakes 10 [.val (.ref t)] [] G y1 := by
      simp (disch := first | assumption | (simp (disch := omega) only [cK_some, ofR_some, ofR_none, Option.toList_some, Option.toList_none, List.cons_append, List.nil_append, isL_i, isL_r, isL_u, isL_2, cs_0, cs_i, cs_r, cs_l, cs_ii, cs_ir, cs_ri, cs_rr, cs_iir, cs_irr, cs_iii, cs_iri, cs_rii, cs_rir, cs_rri, cs_rrr, cs_iiii, cs_iiir, cs_iiri, cs_iirr, cs_irii, cs_irir, cs_irri, cs_irrr, cs_riii, cs_riir, cs_riri, cs_rirr, cs_rrii, cs_rrir, cs_rrri, cs_rrrr, hs_1, hs_2, hs_3, hs_4, hs_5, hs_6, hs_7, hs_8, hs_9, hs_10, hs_11, hs_12, hs_13, hs_14, hs_15, hs_16, hs_17, hs_18, hs_19, hs_20, hs_21, hs_22, hs_23, hs_24, hs_25, hs_26, hs_27, hs_28, hs_29, hs_30, hs_31, hs_32, hs_33, hs_34, l1, inb_n, bq4, bq5, n100, not_false_eq_true, isB_0, isB_1, nI_clamp, nI_nneg, Nat.zero_add, Nat.le_refl]; done) | omega | (simp (disch := omega) only [cK_some, ofR_some, ofR_none, Option.toList_some, Option.toList_none, List.cons_append, List.nil_append, isL_i, isL_r, isL_u, isL_2, cs_0, cs_i, cs_r, cs_l, cs_ii, cs_ir, cs_ri, cs_rr, cs_iir, cs_irr, cs_iii, cs_iri, cs_rii, cs_rir, cs_rri, cs_rrr, cs_iiii, cs_iiir, cs_iiri, cs_iirr, cs_irii, cs_irir, cs_irri, cs_irrr, cs_riii, cs_riir, cs_riri, cs_rirr, cs_rrii, cs_rrir, cs_rrri, cs_rrrr, hs_1, hs_2, hs_3, hs_4, hs_5, hs_6, hs_7, hs_8, hs_9, hs_10, hs_11, hs_12, hs_13, hs_14, hs_15, hs_16, hs_17, hs_18, hs_19, hs_20, hs_21, hs_22, hs_23, hs_24, hs_25, hs_26, hs_27, hs_28, hs_29, hs_30, hs_31, hs_32, hs_33, hs_34, l1, inb_n, bq4, bq5, n100, not_false_eq_true, isB_0, isB_1, nI_clamp, nI_nneg, Nat.zero_add, Nat.le_refl]; omega)) only [xX8_readShakes_0, xX8_readShakes_1, xX8_readShakes_2, xX8_readShakes_5, cK_some, ofR_some, ofR_none, Option.toList_some, Option.toList_none, List.cons_append, List.nil_append, isL_i, isL_r, isL_u, isL_2, cs_0, cs_i, cs_r, cs_l, cs_ii, cs_ir, cs_ri, cs_rr, cs_iir, cs_irr, cs_iii, cs_iri, cs_rii, cs_rir, cs_rri, cs_rrr, cs_iiii, cs_iiir, cs_iiri, cs_iirr, cs_irii, cs_irir, cs_irri, cs_irrr, cs_riii, cs_riir, cs_riri, cs_rirr, cs_rrii, cs_rrir, cs_rrri, cs_rrrr, hs_1, hs_2, hs_3, hs_4, hs_5, hs_6, hs_7, hs_8, hs_9, hs_10, hs_11, hs_12, hs_13, hs_14, hs_15, hs_16, hs_17, hs_18, hs_19, hs_20, hs_21, hs_22, hs_23, hs_24, hs_25, hs_26, hs_27, hs_28, hs_29, hs_30, hs_31, hs_32, hs_33, hs_34, rX8_readShakes, bI_0, f1, bI_1, Nat.add_sub_cancel, Nat.add_zero, Nat.zero_add, nI_lt, nI_nlt, nI_le, nI_ge, nI_pos, pk_sub, nI_clamp, s2_ne, s2_o, s2_s, nI_add, inb_n, nI_nn, zq0, zq1, ↓reduceIte]
    have L1 : FL t u I y1 := F1.l
    have h1e := pM_e h1 H.2.2.2
    have H1 : CpV G y1 t u B e v1.2 := H.fl L1 hd A1a h1e.1
    have n1b : v1.1 < rN r := by
      obtain ⟨i, i1, i2, i3⟩ := h1e.2
      have := ho.2.2.2.2.2.2.2.2.1 i i1
      rw [i2, i3] at this
      simpa using this
    have n1c : v1.1 < 6 := by have := ho.2.1.1; have := ho.2.1.2.2.1; omega
    have hn12 : rSt r < 12 := hroom
    have ec : y1 (u + 15) 0 = nI (rSt r) := by
      simp (disch := omega) only [F1.1]
      exact r3.2.2.2.2
    have hadd := c_planAdd (d := d + 4) (a := nI 3) (b := nI v1.1) (c := -2) (e := -2) (I := y1) hp ec hn12
    have hW : stWho (3, v1.1, 0, 0) = nI v1.1 := by unfold stWho; simp
    have hA : stWhat (3, v1.1, 0, 0) = -2 := by unfold stWhat; simp
    have hB : stLong (3, v1.1, 0, 0) = -2 := by unfold stLong; simp
    have hz : ∀ c k, c ≠ t → ¬ (c = u + 16 ∨ c = u + 17 ∨ c = u + 18 ∨ c = u + 19 ∨ (c = u + 15 ∧ k = 0)) → s2 (s2 (s2 (s2 (s2 y1 (u + 16) (rSt r) (nI 3)) (u + 17) (rSt r) (nI v1.1)) (u + 18) (rSt r) (-2)) (u + 19) (rSt r) (-2)) (u + 15) 0 (nI (rSt r + 1)) c k = I c k := by
      intro c k hct hc
      by_cases e15 : c = u + 15
      · rw [e15, s2_o (by omega), s2_ne (by omega), s2_ne (by omega), s2_ne (by omega), s2_ne (by omega)]
        simp (disch := omega) only [F1.1]
      · rw [s2_ne e15, s2_ne (by omega), s2_ne (by omega), s2_ne (by omega), s2_ne (by omega)]
        simp (disch := omega) only [F1.1]
    have hzt : s2 (s2 (s2 (s2 (s2 y1 (u + 16) (rSt r) (nI 3)) (u + 17) (rSt r) (nI v1.1)) (u + 18) (rSt r) (-2)) (u + 19) (rSt r) (-2)) (u + 15) 0 (nI (rSt r + 1)) t = y1 t := by
      rw [s2_ne (by omega), s2_ne (by omega), s2_ne (by omega), s2_ne (by omega), s2_ne (by omega)]
    have hrow : ∀ (x : Int32) (c i : Nat) (g : Nat → Int32), (∀ i, i < rSt r → y1 c i = g i) → i < rSt r + 1 → s2 y1 c (rSt r) x c i = if i = rSt r then x else g i := by
      intro x c i g hg hi
      rw [s2_eq]
      by_cases ei : i = rSt r
      · rw [if_pos ei, if_pos ei]
      · rw [if_neg ei, if_neg ei, hg i (by omega)]
    have r7y : ∀ i, i < rSt r → y1 (u + 16) i = nI (rF r i).1 ∧ y1 (u + 17) i = stWho (rF r i) ∧ y1 (u + 18) i = stWhat (rF r i) ∧ y1 (u + 19) i = stLong (rF r i) := fun i hi => by
      simp (disch := omega) only [F1.1]
      exact r7 i hi
    refine ⟨true, s2 (s2 (s2 (s2 (s2 y1 (u + 16) (rSt r) (nI 3)) (u + 17) (rSt r) (nI v1.1)) (u + 18) (rSt r) (-2)) (u + 19) (rSt r) (-2)) (u + 15) 0 (nI (rSt r + 1)), ?_, ⟨rfl, ?_, H1.2.2.2, ⟨?_, fun s hs' => ?_, ⟨?_, ?_, ?_, ?_, s2_s⟩, fun k hk => ?_, fun p hp' => ?_, fun b hb => ?_, fun i hi => ?_, ?_⟩, ?_, ?_⟩, ?_⟩
    · refine E1.trans ?_
      simp (disch := first | assumption | (simp (disch := omega) only [cK_some, ofR_some, ofR_none, Option.toList_some, Option.toList_none, List.cons_append, List.nil_append, isL_i, isL_r, isL_u, isL_2, cs_0, cs_i, cs_r, cs_l, cs_ii, cs_ir, cs_ri, cs_rr, cs_iir, cs_irr, cs_iii, cs_iri, cs_rii, cs_rir, cs_rri, cs_rrr, cs_iiii, cs_iiir, cs_iiri, cs_iirr, cs_irii, cs_irir, cs_irri, cs_irrr, cs_riii, cs_riir, cs_riri, cs_rirr, cs_rrii, cs_rrir, cs_rrri, cs_rrrr, hs_1, hs_2, hs_3, hs_4, hs_5, hs_6, hs_7, hs_8, hs_9, hs_10, hs_11, hs_12, hs_13, hs_14, hs_15, hs_16, hs_17, hs_18, hs_19, hs_20, hs_21, hs_22, hs_23, hs_24, hs_25, hs_26, hs_27, hs_28, hs_29, hs_30, hs_31, hs_32, hs_33, hs_34, l1, inb_n, bq4, bq5, n100, not_false_eq_true, isB_0, isB_1, nI_clamp, nI_nneg, Nat.zero_add, Nat.le_refl]; done) | omega | (simp (disch := omega) only [cK_some, ofR_some, ofR_none, Option.toList_some, Option.toList_none, List.cons_append, List.nil_append, isL_i, isL_r, isL_u, isL_2, cs_0, cs_i, cs_r, cs_l, cs_ii, cs_ir, cs_ri, cs_rr, cs_iir, cs_irr, cs_iii, cs_iri, cs_rii, cs_rir, cs_rri, cs_rrr, cs_iiii, cs_iiir, cs_iiri, cs_iirr, cs_irii, cs_irir, cs_irri, cs_irrr, cs_riii, cs_riir, cs_riri, cs_rirr, cs_rrii, cs_rrir, cs_rrri, cs_rrrr, hs_1, hs_2, hs_3, hs_4, hs_5, hs_6, hs_7, hs_8, hs_9, hs_10, hs_11, hs_12, hs_13, hs_14, hs_15, hs_16, hs_17, hs_18, hs_19, hs_20, hs_21, hs_22, hs_23, hs_24, hs_25, hs_26, hs_27, hs_28, hs_29, hs_30, hs_31, hs_32, hs_33, hs_34, l1, inb_n, bq4, bq5, n100, not_false_eq_true, isB_0, isB_1, nI_clamp, nI_nneg, Nat.zero_add, Nat.le_refl]; omega)) only [xX8_readShakes_10, xX8_readShakes_11, xX8_readShakes_14, xX8_readShakes_17, xX8_readShakes_18, xX8_readShakes_19, xX8_readShakes_22, xX8_readShakes_24, xX8_readShakes_26, xX8_readShakes_29, xX8_readShakes_30, cK_some, ofR_some, ofR_none, Option.toList_some, Option.toList_none, List.cons_append, List.nil_append, isL_i, isL_r, isL_u, isL_2, cs_0, cs_i, cs_r, cs_l, cs_ii, cs_ir, cs_ri, cs_rr, cs_iir, cs_irr, cs_iii, cs_iri, cs_rii, cs_rir, cs_rri, cs_rrr, cs_iiii, cs_iiir, cs_iiri, cs_iirr, cs_irii, cs_irir, cs_irri, cs_irrr, cs_riii, cs_riir, cs_riri, cs_rirr, cs_rrii, cs_rrir, cs_rrri, cs_rrrr, hs_1, hs_2, hs_3, hs_4, hs_5, hs_6, hs_7, hs_8, hs_9, hs_10, hs_11, hs_12, hs_13, hs_14, hs_15, hs_16, hs_17, hs_18, hs_19, hs_20, hs_21, hs_22, hs_23, hs_24, hs_25, hs_26, hs_27, hs_28, hs_29, hs_30, hs_31, hs_32, hs_33, hs_34, A1v, l3, hs_8, hadd, bI_1, Nat.add_sub_cancel, Nat.add_zero, Nat.zero_add, nI_lt, nI_nlt, nI_le, nI_ge, nI_pos, pk_sub, nI_clamp, s2_ne, s2_o, s2_s, nI_add, inb_n, nI_nn, zq0, zq1, ↓reduceIte]
    · rw [hzt]; exact H1.2.2.1
    · rw [hzt]
      simp only [F1.2 9 (by decide) (by decide) (by decide) (by decide) (by decide) (by decide)]
      exact r1
    · have h := r2 s hs'
      rw [hz u 0 (by omega) (by omega), hz u 1 (by omega) (by omega), hz u 2 (by omega) (by omega), hz u 3 (by omega) (by omega), hz u 4 (by omega) (by omega), hz u 5 (by omega) (by omega)]
      exact h
    · rw [hz (u + 1) 0 (by omega) (by omega)]; exact r3.1
    · rw [hz (u + 1) 1 (by omega) (by omega)]; exact r3.2.1
    · rw [hz (u + 1) 2 (by omega) (by omega)]; exact r3.2.2.1
    · rw [hz (u + 8) 0 (by omega) (by omega)]; exact r3.2.2.2.1
    · rw [hz _ _ (by omega) (by omega), hz _ _ (by omega) (by omega), hz _ _ (by omega) (by omega)]; exact r4 k hk
    · rw [hz _ _ (by omega) (by omega), hz _ _ (by omega) (by omega), hz _ _ (by omega) (by omega)]; exact r5 p hp'
    · rw [hz _ _ (by omega) (by omega), hz _ _ (by omega) (by omega), hz _ _ (by omega) (by omega), hz _ _ (by omega) (by omega), hz _ _ (by omega) (by omega), hz _ _ (by omega) (by omega)]; exact r6 b hb
    · have hF : rF (addStep r (3, v1.1, 0, 0)) i = if i = rSt r then (3, v1.1, 0, 0) else rF r i := rfl
      rw [hF]
      have hi' : i < rSt r + 1 := hi
      refine ⟨?_, ?_, ?_, ?_⟩
      · rw [s2_ne (by omega), s2_ne (by omega), s2_ne (by omega), s2_ne (by omega), hrow _ _ i _ (fun i hi => (r7y i hi).1) hi']
        by_cases ei : i = rSt r
        · rw [if_pos ei, if_pos ei]
        · rw [if_neg ei, if_neg ei]
      · rw [s2_ne (by omega), s2_ne (by omega), s2_ne (by omega), s2_eq, s2_ne (by omega)]
        by_cases ei : i = rSt r
        · rw [if_pos ei, if_pos ei, hW]
        · rw [if_neg ei, if_neg ei]; exact (r7y i (by omega)).2.1
      · rw [s2_ne (by omega), s2_ne (by omega), s2_eq, s2_ne (by omega), s2_ne (by omega)]
        by_cases ei : i = rSt r
        · rw [if_pos ei, if_pos ei, hA]
        · rw [if_neg ei, if_neg ei]; exact (r7y i (by omega)).2.2.1
      · rw [s2_ne (by omega), s2_eq, s2_ne (by omega), s2_ne (by omega), s2_ne (by omega)]
        by_cases ei : i = rSt r
        · rw [if_pos ei, if_pos ei, hB]
        · rw [if_neg ei, if_neg ei]; exact (r7y i (by omega)).2.2.2
    · exact ((r8).fq F1).fr (by rw [hzt]) (fun c h1 h2 => by rw [s2_ne (by omega), s2_ne (by omega), s2_ne (by omega), s2_ne (by omega), s2_ne (by omega)])
    · obtain ⟨o1, o2, o3, o4, o5, o6, o7, o8, o9, o10, o11⟩ := ho
      refine ⟨o1, ⟨o2.1, o2.2.1, o2.2.2.1, ?_, o2.2.2.2.2.1, o2.2.2.2.2.2⟩, o3, o4, o5, fun i hi => ?_, o7, o8, o9, o10, fun c => absurd htold (by rw [show r.1 = none from c]; simp)⟩
      · show rSt r + 1 ≤ 12
        omega
      · have hF : rF (addStep r (3, v1.1, 0, 0)) i = if i = rSt r then (3, v1.1, 0, 0) else rF r i := rfl
        rw [hF]
        by_cases ei : i = rSt r
        · rw [if_pos ei]
          show SkOk (rN r) (rP r) (rT r) (3, v1.1, 0, 0)
          exact sk3 n1b
        · rw [if_neg ei]
          have hi' : i < rSt r + 1 := hi
          exact o6 i (by omega)
    · rw [hzt]
      simp only [A1z]
    · exact ((((L1.s2 ⟨by omega, by omega⟩ hd).s2 ⟨by omega, by omega⟩ hd).s2 ⟨by omega, by omega⟩ hd).s2 ⟨by omega, by omega⟩ hd).s2 ⟨by omega, by omega⟩ hd
theorem c_readHangs {d t u e a : Nat} {B : Nat → Nat} {r : RS} {G : Gm} {I : Im} (hU : UpL G t u) (H : CpV G I t u B e a) (hr : RC I t u r) (ho : ROk e r) (htold : r.1.isSome = true) (hroom : rSt r < 12) :
    ∃ b I', run (d + 5) mX8_readHangs [.ref t] G I = some (some (.int (bI b)), G, I') ∧ AnL e I I' t u b (lnHangs B e a r) ∧ FL t u I I' := by
  obtain ⟨hT, hs, hp, hd⟩ := hU
  obtain ⟨l1, l2, l3, l4, l5, l6, l7, l8, l9, l10, l11, l12⟩ := id hT
  obtain ⟨r1, r2, r3, r4, r5, r6, r7, r8⟩ := id hr
  obtain ⟨p1, p2, p3, p4, p5, p6, p7, p8, p9, p10, p11, p12⟩ := id hp
  have hs_1 := hs.1; have hs_2 := hs.2.1; have hs_3 := hs.2.2.1; have hs_4 := hs.2.2.2.1; have hs_5 := hs.2.2.2.2.1; have hs_6 := hs.2.2.2.2.2.1; have hs_7 := (hs.2.2.2.2.2.2.1).1; have hs_8 := (hs.2.2.2.2.2.2.1).2.1; have hs_9 := (hs.2.2.2.2.2.2.1).2.2.1; have hs_10 := (hs.2.2.2.2.2.2.1).2.2.2.1; have hs_11 := (hs.2.2.2.2.2.2.1).2.2.2.2.1; have hs_12 := (hs.2.2.2.2.2.2.1).2.2.2.2.2.1; have hs_13 := (hs.2.2.2.2.2.2.1).2.2.2.2.2.2.1; have hs_14 := (hs.2.2.2.2.2.2.1).2.2.2.2.2.2.2.1; have hs_15 := (hs.2.2.2.2.2.2.1).2.2.2.2.2.2.2.2.1; have hs_16 := (hs.2.2.2.2.2.2.1).2.2.2.2.2.2.2.2.2.1; have hs_17 := (hs.2.2.2.2.2.2.1).2.2.2.2.2.2.2.2.2.2.1; have hs_18 := (hs.2.2.2.2.2.2.1).2.2.2.2.2.2.2.2.2.2.2.1; have hs_19 := (hs.2.2.2.2.2.2.1).2.2.2.2.2.2.2.2.2.2.2.2; have hs_20 := (hs.2.2.2.2.2.2.2.1).1; have hs_21 := (hs.2.2.2.2.2.2.2.1).2.1; have hs_22 := (hs.2.2.2.2.2.2.2.1).2.2.1; have hs_23 := (hs.2.2.2.2.2.2.2.1).2.2.2.1; have hs_24 := (hs.2.2.2.2.2.2.2.1).2.2.2.2.1; have hs_25 := (hs.2.2.2.2.2.2.2.1).2.2.2.2.2.1; have hs_26 := (hs.2.2.2.2.2.2.2.1).2.2.2.2.2.2.1; have hs_27 := (hs.2.2.2.2.2.2.2.1).2.2.2.2.2.2.2.1; have hs_28 := (hs.2.2.2.2.2.2.2.1).2.2.2.2.2.2.2.2.1; have hs_29 := (hs.2.2.2.2.2.2.2.1).2.2.2.2.2.2.2.2.2.1; have hs_30 := (hs.2.2.2.2.2.2.2.1).2.2.2.2.2.2.2.2.2.2.1; have hs_31 := (hs.2.2.2.2.2.2.2.1).2.2.2.2.2.2.2.2.2.2.2.1; have hs_32 := (hs.2.2.2.2.2.2.2.1).2.2.2.2.2.2.2.2.2.2.2.2; have hs_33 := hs.2.2.2.2.2.2.2.2.1; have hs_34 := hs.2.2.2.2.2.2.2.2.2.2
  unfold lnHangs
  obtain ⟨b1, y1, f1, A1, F1⟩ := c_takeName (d := d) (ofT := true) H ho.2.2.2.2.2.2.2.1 (r8)
  cases h1 : pM B e a (rNn r) (rNm r) true with
  | inl x =>
    rw [h1] at A1
    obtain ⟨rfl, A1f⟩ := A1
    try simp only [h1, bnd_l, bnd_r]
    simp only [bI_1, bI_0] at f1
    refine ⟨false, y1, ?_, ⟨rfl, A1f⟩, F1.l⟩
    simp (disch := first | assumption | (simp (disch := omega) only [cK_some, ofR_some, ofR_none, Option.toList_some, Option.toList_none, List.cons_append, List.nil_append, isL_i, isL_r, isL_u, isL_2, cs_0, cs_i, cs_r, cs_l, cs_ii, cs_ir, cs_ri, cs_rr, cs_iir, cs_irr, cs_iii, cs_iri, cs_rii, cs_rir, cs_rri, cs_rrr, cs_iiii, cs_iiir, cs_iiri, cs_iirr, cs_irii, cs_irir, cs_irri, cs_irrr, cs_riii, cs_riir, cs_riri, cs_rirr, cs_rrii, cs_rrir, cs_rrri, cs_rrrr, hs_1, hs_2, hs_3, hs_4, hs_5, hs_6, hs_7, hs_8, hs_9, hs_10, hs_11, hs_12, hs_13, hs_14, hs_15, hs_16, hs_17, hs_18, hs_19, hs_20, hs_21, hs_22, hs_23, hs_24, hs_25, hs_26, hs_27, hs_28, hs_29, hs_30, hs_31, hs_32, hs_33, hs_34, l1, inb_n, bq4, bq5, n100, not_false_eq_true, isB_0, isB_1, nI_clamp, nI_nneg, Nat.zero_add, Nat.le_refl]; done) | omega | (simp (disch := omega) only [cK_some, ofR_some, ofR_none, Option.toList_some, Option.toList_none, List.cons_append, List.nil_append, isL_i, isL_r, isL_u, isL_2, cs_0, cs_i, cs_r, cs_l, cs_ii, cs_ir, cs_ri, cs_rr, cs_iir, cs_irr, cs_iii, cs_iri, cs_rii, cs_rir, cs_rri, cs_rrr, cs_iiii, cs_iiir, cs_iiri, cs_iirr, cs_irii, cs_irir, cs_irri, cs_irrr, cs_riii, cs_riir, cs_riri, cs_rirr, cs_rrii, cs_rrir, cs_rrri, cs_rrrr, hs_1, hs_2, hs_3, hs_4, hs_5, hs_6, hs_7, hs_8, hs_9, hs_10, hs_11, hs_12, hs_13, hs_14, hs_15, hs_16, hs_17, hs_18, hs_19, hs_20, hs_21, hs_22, hs_23, hs_24, hs_25, hs_26, hs_27, hs_28, hs_29, hs_30, hs_31, hs_32, hs_33, hs_34, l1, inb_n, bq4, bq5, n100, not_false_eq_true, isB_0, isB_1, nI_clamp, nI_nneg, Nat.zero_add, Nat.le_refl]; omega)) only [xX8_readHangs_0, xX8_readHangs_1, xX8_readHangs_2, xX8_readHangs_5, xX8_readHangs_8, xX8_readHangs_9, cK_some, ofR_some, ofR_none, Option.toList_some, Option.toList_none, List.cons_append, List.nil_append, isL_i, isL_r, isL_u, isL_2, cs_0, cs_i, cs_r, cs_l, cs_ii, cs_ir, cs_ri, cs_rr, cs_iir, cs_irr, cs_iii, cs_iri, cs_rii, cs_rir, cs_rri, cs_rrr, cs_iiii, cs_iiir, cs_iiri, cs_iirr, cs_irii, cs_irir, cs_irri, cs_irrr, cs_riii, cs_riir, cs_riri, cs_rirr, cs_rrii, cs_rrir, cs_rrri, cs_rrrr, hs_1, hs_2, hs_3, hs_4, hs_5, hs_6, hs_7, hs_8, hs_9, hs_10, hs_11, hs_12, hs_13, hs_14, hs_15, hs_16, hs_17, hs_18, hs_19, hs_20, hs_21, hs_22, hs_23, hs_24, hs_25, hs_26, hs_27, hs_28, hs_29, hs_30, hs_31, hs_32, hs_33, hs_34, rX8_readHangs, bI_1, f1, bI_0, Nat.add_sub_cancel, Nat.add_zero, Nat.zero_add, nI_lt, nI_nlt, nI_le, nI_ge, nI_pos, pk_sub, nI_clamp, s2_ne, s2_o, s2_s, nI_add, inb_n, nI_nn, zq0, zq1, ↓reduceIte]
  | inr v1 =>
    rw [h1] at A1
    obtain ⟨rfl, A1a, A1v, A1s, A1z⟩ := A1
    try simp only [h1, bnd_r]
    simp only [bI_1, bI_0] at f1
    have E1 : run (d + 5) mX8_readHangs [.ref t] G I = ex (d + 5) mX8_readHangs 10 [.val (.ref t), .unset] [] G y1 := by
      simp (disch := first | assumption | (simp (disch := omega) only [cK_some, ofR_some, ofR_none, Option.toList_some, Option.toList_none, List.cons_append, List.nil_append, isL_i, isL_r, isL_u, isL_2, cs_0, cs_i, cs_r, cs_l, cs_ii, cs_ir, cs_ri, cs_rr, cs_iir, cs_irr, cs_iii, cs_iri, cs_rii, cs_rir, cs_rri, cs_rrr, cs_iiii, cs_iiir, cs_iiri, cs_iirr, cs_irii, cs_irir, cs_irri, cs_irrr, cs_riii, cs_riir, cs_riri, cs_rirr, cs_rrii, cs_rrir, cs_rrri, cs_rrrr, hs_1, hs_2, hs_3, hs_4, hs_5, hs_6, hs_7, hs_8, hs_9, hs_10, hs_11, hs_12, hs_13, hs_14, hs_15, hs_16, hs_17, hs_18, hs_19, hs_20, hs_21, hs_22, hs_23, hs_24, hs_25, hs_26, hs_27, hs_28, hs_29, hs_30, hs_31, hs_32, hs_33, hs_34, l1, inb_n, bq4, bq5, n100, not_false_eq_true, isB_0, isB_1, nI_clamp, nI_nneg, Nat.zero_add, Nat.le_refl]; done) | omega | (simp (disch := omega) only [cK_some, ofR_some, ofR_none, Option.toList_some, Option.toList_none, List.cons_append, List.nil_append, isL_i, isL_r, isL_u, isL_2, cs_0, cs_i, cs_r, cs_l, cs_ii, cs_ir, cs_ri, cs_rr, cs_iir, cs_irr, cs_iii, cs_iri, cs_rii, cs_rir, cs_rri, cs_rrr, cs_iiii, cs_iiir, cs_iiri, cs_iirr, cs_irii, cs_irir, cs_irri, cs_irrr, cs_riii, cs_riir, cs_riri, cs_rirr, cs_rrii, cs_rrir, cs_rrri, cs_rrrr, hs_1, hs_2, hs_3, hs_4, hs_5, hs_6, hs_7, hs_8, hs_9, hs_10, hs_11, hs_12, hs_13, hs_14, hs_15, hs_16, hs_17, hs_18, hs_19, hs_20, hs_21, hs_22, hs_23, hs_24, hs_25, hs_26, hs_27, hs_28, hs_29, hs_30, hs_31, hs_32, hs_33, hs_34, l1, inb_n, bq4, bq5, n100, not_false_eq_true, isB_0, isB_1, nI_clamp, nI_nneg, Nat.zero_add, Nat.le_refl]; omega)) only [xX8_readHangs_0, xX8_readHangs_1, xX8_readHangs_2, xX8_readHangs_5, cK_some, ofR_some, ofR_none, Option.toList_some, Option.toList_none, List.cons_append, List.nil_append, isL_i, isL_r, isL_u, isL_2, cs_0, cs_i, cs_r, cs_l, cs_ii, cs_ir, cs_ri, cs_rr, cs_iir, cs_irr, cs_iii, cs_iri, cs_rii, cs_rir, cs_rri, cs_rrr, cs_iiii, cs_iiir, cs_iiri, cs_iirr, cs_irii, cs_irir, cs_irri, cs_irrr, cs_riii, cs_riir, cs_riri, cs_rirr, cs_rrii, cs_rrir, cs_rrri, cs_rrrr, hs_1, hs_2, hs_3, hs_4, hs_5, hs_6, hs_7, hs_8, hs_9, hs_10, hs_11, hs_12, hs_13, hs_14, hs_15, hs_16, hs_17, hs_18, hs_19, hs_20, hs_21, hs_22, hs_23, hs_24, hs_25, hs_26, hs_27, hs_28, hs_29, hs_30, hs_31, hs_32, hs_33, hs_34, rX8_readHangs, bI_1, f1, bI_1, Nat.add_sub_cancel, Nat.add_zero, Nat.zero_add, nI_lt, nI_nlt, nI_le, nI_ge, nI_pos, pk_sub, nI_clamp, s2_ne, s2_o, s2_s, nI_add, inb_n, nI_nn, zq0, zq1, ↓reduceIte]
    have L1 : FL t u I y1 := F1.l
    have h1e := pM_e h1 H.2.2.2
    have H1 : CpV G y1 t u B e v1.2 := H.fl L1 hd A1a h1e.1
    have n1b : v1.1 < rT r := by
      obtain ⟨i, i1, i2, i3⟩ := h1e.2
      have := ho.2.2.2.2.2.2.2.2.1 i i1
      rw [i2, i3] at this
      simpa using this
    have n1c : v1.1 < 6 := by have := ho.2.1.1; have := ho.2.1.2.2.1; omega
    have E2 : run (d + 5) mX8_readHangs [.ref t] G I = ex (d + 5) mX8_readHangs 15 [.val (.ref t), .val (.int (nI v1.1))] [] G y1 := by
      refine E1.trans ?_
      simp (disch := first | assumption | (simp (disch := omega) only [cK_some, ofR_some, ofR_none, Option.toList_some, Option.toList_none, List.cons_append, List.nil_append, isL_i, isL_r, isL_u, isL_2, cs_0, cs_i, cs_r, cs_l, cs_ii, cs_ir, cs_ri, cs_rr, cs_iir, cs_irr, cs_iii, cs_iri, cs_rii, cs_rir, cs_rri, cs_rrr, cs_iiii, cs_iiir, cs_iiri, cs_iirr, cs_irii, cs_irir, cs_irri, cs_irrr, cs_riii, cs_riir, cs_riri, cs_rirr, cs_rrii, cs_rrir, cs_rrri, cs_rrrr, hs_1, hs_2, hs_3, hs_4, hs_5, hs_6, hs_7, hs_8, hs_9, hs_10, hs_11, hs_12, hs_13, hs_14, hs_15, hs_16, hs_17, hs_18, hs_19, hs_20, hs_21, hs_22, hs_23, hs_24, hs_25, hs_26, hs_27, hs_28, hs_29, hs_30, hs_31, hs_32, hs_33, hs_34, l1, inb_n, bq4, bq5, n100, not_false_eq_true, isB_0, isB_1, nI_clamp, nI_nneg, Nat.zero_add, Nat.le_refl]; done) | omega | (simp (disch := omega) only [cK_some, ofR_some, ofR_none, Option.toList_some, Option.toList_none, List.cons_append, List.nil_append, isL_i, isL_r, isL_u, isL_2, cs_0, cs_i, cs_r, cs_l, cs_ii, cs_ir, cs_ri, cs_rr, cs_iir, cs_irr, cs_iii, cs_iri, cs_rii, cs_rir, cs_rri, cs_rrr, cs_iiii, cs_iiir, cs_iiri, cs_iirr, cs_irii, cs_irir, cs_irri, cs_irrr, cs_riii, cs_riir, cs_riri, cs_rirr, cs_rrii, cs_rrir, cs_rrri, cs_rrrr, hs_1, hs_2, hs_3, hs_4, hs_5, hs_6, hs_7, hs_8, hs_9, hs_10, hs_11, hs_12, hs_13, hs_14, hs_15, hs_16, hs_17, hs_18, hs_19, hs_20, hs_21, hs_22, hs_23, hs_24, hs_25, hs_26, hs_27, hs_28, hs_29, hs_30, hs_31, hs_32, hs_33, hs_34, l1, inb_n, bq4, bq5, n100, not_false_eq_true, isB_0, isB_1, nI_clamp, nI_nneg, Nat.zero_add, Nat.le_refl]; omega)) only [xX8_readHangs_10, xX8_readHangs_11, xX8_readHangs_14, cK_some, ofR_some, ofR_none, Option.toList_some, Option.toList_none, List.cons_append, List.nil_append, isL_i, isL_r, isL_u, isL_2, cs_0, cs_i, cs_r, cs_l, cs_ii, cs_ir, cs_ri, cs_rr, cs_iir, cs_irr, cs_iii, cs_iri, cs_rii, cs_rir, cs_rri, cs_rrr, cs_iiii, cs_iiir, cs_iiri, cs_iirr, cs_irii, cs_irir, cs_irri, cs_irrr, cs_riii, cs_riir, cs_riri, cs_rirr, cs_rrii, cs_rrir, cs_rrri, cs_rrrr, hs_1, hs_2, hs_3, hs_4, hs_5, hs_6, hs_7, hs_8, hs_9, hs_10, hs_11, hs_12, hs_13, hs_14, hs_15, hs_16, hs_17, hs_18, hs_19, hs_20, hs_21, hs_22, hs_23, hs_24, hs_25, hs_26, hs_27, hs_28, hs_29, hs_30, hs_31, hs_32, hs_33, hs_34, A1v, Nat.add_sub_cancel, Nat.add_zero, Nat.zero_add, nI_lt, nI_nlt, nI_le, nI_ge, nI_pos, pk_sub, nI_clamp, s2_ne, s2_o, s2_s, nI_add, inb_n, nI_nn, zq0, zq1, ↓reduceIte]
    have L2 : FL t u I y1 := L1
    obtain ⟨b3, y3, f3, A3, F3⟩ := c_takeWhole (d := d + 1) (lo := 1) (hi := 60) H1 (by omega) (by omega)
    cases h3 : pN B e v1.2 (1) (60) with
    | inl x =>
      rw [h3] at A3
      obtain ⟨rfl, A3f⟩ := A3
      try simp only [h3, bnd_l, bnd_r]
      simp only [bI_1, bI_0] at f3
      refine ⟨false, y3, E2.trans ?_, ⟨rfl, A3f⟩, (FL.tr L2 F3.l)⟩
      simp (disch := first | assumption | (simp (disch := omega) only [cK_some, ofR_some, ofR_none, Option.toList_some, Option.toList_none, List.cons_append, List.nil_append, isL_i, isL_r, isL_u, isL_2, cs_0, cs_i, cs_r, cs_l, cs_ii, cs_ir, cs_ri, cs_rr, cs_iir, cs_irr, cs_iii, cs_iri, cs_rii, cs_rir, cs_rri, cs_rrr, cs_iiii, cs_iiir, cs_iiri, cs_iirr, cs_irii, cs_irir, cs_irri, cs_irrr, cs_riii, cs_riir, cs_riri, cs_rirr, cs_rrii, cs_rrir, cs_rrri, cs_rrrr, hs_1, hs_2, hs_3, hs_4, hs_5, hs_6, hs_7, hs_8, hs_9, hs_10, hs_11, hs_12, hs_13, hs_14, hs_15, hs_16, hs_17, hs_18, hs_19, hs_20, hs_21, hs_22, hs_23, hs_24, hs_25, hs_26, hs_27, hs_28, hs_29, hs_30, hs_31, hs_32, hs_33, hs_34, l1, inb_n, bq4, bq5, n100, not_false_eq_true, isB_0, isB_1, nI_clamp, nI_nneg, Nat.zero_add, Nat.le_refl]; done) | omega | (simp (disch := omega) only [cK_some, ofR_some, ofR_none, Option.toList_some, Option.toList_none, List.cons_append, List.nil_append, isL_i, isL_r, isL_u, isL_2, cs_0, cs_i, cs_r, cs_l, cs_ii, cs_ir, cs_ri, cs_rr, cs_iir, cs_irr, cs_iii, cs_iri, cs_rii, cs_rir, cs_rri, cs_rrr, cs_iiii, cs_iiir, cs_iiri, cs_iirr, cs_irii, cs_irir, cs_irri, cs_irrr, cs_riii, cs_riir, cs_riri, cs_rirr, cs_rrii, cs_rrir, cs_rrri, cs_rrrr, hs_1, hs_2, hs_3, hs_4, hs_5, hs_6, hs_7, hs_8, hs_9, hs_10, hs_11, hs_12, hs_13, hs_14, hs_15, hs_16, hs_17, hs_18, hs_19, hs_20, hs_21, hs_22, hs_23, hs_24, hs_25, hs_26, hs_27, hs_28, hs_29, hs_30, hs_31, hs_32, hs_33, hs_34, l1, inb_n, bq4, bq5, n100, not_false_eq_true, isB_0, isB_1, nI_clamp, nI_nneg, Nat.zero_add, Nat.le_refl]; omega)) only [xX8_readHangs_15, xX8_readHangs_16, xX8_readHangs_17, xX8_readHangs_19, xX8_readHangs_22, xX8_readHangs_25, xX8_readHangs_26, cK_some, ofR_some, ofR_none, Option.toList_some, Option.toList_none, List.cons_append, List.nil_append, isL_i, isL_r, isL_u, isL_2, cs_0, cs_i, cs_r, cs_l, cs_ii, cs_ir, cs_ri, cs_rr, cs_iir, cs_irr, cs_iii, cs_iri, cs_rii, cs_rir, cs_rri, cs_rrr, cs_iiii, cs_iiir, cs_iiri, cs_iirr, cs_irii, cs_irir, cs_irri, cs_irrr, cs_riii, cs_riir, cs_riri, cs_rirr, cs_rrii, cs_rrir, cs_rrri, cs_rrrr, hs_1, hs_2, hs_3, hs_4, hs_5, hs_6, hs_7, hs_8, hs_9, hs_10, hs_11, hs_12, hs_13, hs_14, hs_15, hs_16, hs_17, hs_18, hs_19, hs_20, hs_21, hs_22, hs_23, hs_24, hs_25, hs_26, hs_27, hs_28, hs_29, hs_30, hs_31, hs_32, hs_33, hs_34, f3, bI_0, Nat.add_sub_cancel, Nat.add_zero, Nat.zero_add, nI_lt, nI_nlt, nI_le, nI_ge, nI_pos, pk_sub, nI_clamp, s2_ne, s2_o, s2_s, nI_add, inb_n, nI_nn, zq0, zq1, ↓reduceIte]
    | inr v3 =>
      rw [h3] at A3
      obtain ⟨rfl, A3a, A3v, A3s, A3z⟩ := A3
      try simp only [h3, bnd_r]
      simp only [bI_1, bI_0] at f3
      have E3 : run (d + 5) mX8_readHangs [.ref t] G I = ex (d + 5) mX8_readHangs 27 [.val (.ref t), .val (.int (nI v1.1))] [] G y3 := by
        refine E2.trans ?_
        simp (disch := first | assumption | (simp (disch := omega) only [cK_some, ofR_some, ofR_none, Option.toList_some, Option.toList_none, List.cons_append, List.nil_append, isL_i, isL_r, isL_u, isL_2, cs_0, cs_i, cs_r, cs_l, cs_ii, cs_ir, cs_ri, cs_rr, cs_iir, cs_irr, cs_iii, cs_iri, cs_rii, cs_rir, cs_rri, cs_rrr, cs_iiii, cs_iiir, cs_iiri, cs_iirr, cs_irii, cs_irir, cs_irri, cs_irrr, cs_riii, cs_riir, cs_riri, cs_rirr, cs_rrii, cs_rrir, cs_rrri, cs_rrrr, hs_1, hs_2, hs_3, hs_4, hs_5, hs_6, hs_7, hs_8, hs_9, hs_10, hs_11, hs_12, hs_13, hs_14, hs_15, hs_16, hs_17, hs_18, hs_19, hs_20, hs_21, hs_22, hs_23, hs_24, hs_25, hs_26, hs_27, hs_28, hs_29, hs_30, hs_31, hs_32, hs_33, hs_34, l1, inb_n, bq4, bq5, n100, not_false_eq_true, isB_0, isB_1, nI_clamp, nI_nneg, Nat.zero_add, Nat.le_refl]; done) | omega | (simp (disch := omega) only [cK_some, ofR_some, ofR_none, Option.toList_some, Option.toList_none, List.cons_append, List.nil_append, isL_i, isL_r, isL_u, isL_2, cs_0, cs_i, cs_r, cs_l, cs_ii, cs_ir, cs_ri, cs_rr, cs_iir, cs_irr, cs_iii, cs_iri, cs_rii, cs_rir, cs_rri, cs_rrr, cs_iiii, cs_iiir, cs_iiri, cs_iirr, cs_irii, cs_irir, cs_irri, cs_irrr, cs_riii, cs_riir, cs_riri, cs_rirr, cs_rrii, cs_rrir, cs_rrri, cs_rrrr, hs_1, hs_2, hs_3, hs_4, hs_5, hs_6, hs_7, hs_8, hs_9, hs_10, hs_11, hs_12, hs_13, hs_14, hs_15, hs_16, hs_17, hs_18, hs_19, hs_20, hs_21, hs_22, hs_23, hs_24, hs_25, hs_26, hs_27, hs_28, hs_29, hs_30, hs_31, hs_32, hs_33, hs_34, l1, inb_n, bq4, bq5, n100, not_false_eq_true, isB_0, isB_1, nI_clamp, nI_nneg, Nat.zero_add, Nat.le_refl]; omega)) only [xX8_readHangs_15, xX8_readHangs_16, xX8_readHangs_17, xX8_readHangs_19, xX8_readHangs_22, cK_some, ofR_some, ofR_none, Option.toList_some, Option.toList_none, List.cons_append, List.nil_append, isL_i, isL_r, isL_u, isL_2, cs_0, cs_i, cs_r, cs_l, cs_ii, cs_ir, cs_ri, cs_rr, cs_iir, cs_irr, cs_iii, cs_iri, cs_rii, cs_rir, cs_rri, cs_rrr, cs_iiii, cs_iiir, cs_iiri, cs_iirr, cs_irii, cs_irir, cs_irri, cs_irrr, cs_riii, cs_riir, cs_riri, cs_rirr, cs_rrii, cs_rrir, cs_rrri, cs_rrrr, hs_1, hs_2, hs_3, hs_4, hs_5, hs_6, hs_7, hs_8, hs_9, hs_10, hs_11, hs_12, hs_13, hs_14, hs_15, hs_16, hs_17, hs_18, hs_19, hs_20, hs_21, hs_22, hs_23, hs_24, hs_25, hs_26, hs_27, hs_28, hs_29, hs_30, hs_31, hs_32, hs_33, hs_34, f3, bI_1, Nat.add_sub_cancel, Nat.add_zero, Nat.zero_add, nI_lt, nI_nlt, nI_le, nI_ge, nI_pos, pk_sub, nI_clamp, s2_ne, s2_o, s2_s, nI_add, inb_n, nI_nn, zq0, zq1, ↓reduceIte]
      have L3 : FL t u I y3 := (FL.tr L2 F3.l)
      have h3e := pN_e h3 H1.2.2.2
      have H3 : CpV G y3 t u B e v3.2 := H.fl L3 hd A3a h3e.1
      have hn12 : rSt r < 12 := hroom
      have ec : y3 (u + 15) 0 = nI (rSt r) := by
        simp (disch := omega) only [F1.1, F3.1]
        exact r3.2.2.2.2
      have hadd := c_planAdd (d := d + 4) (a := nI 2) (b := -2) (c := nI v1.1) (e := nI v3.1) (I := y3) hp ec hn12
      have hW : stWho (2, 0, v1.1, v3.1) = -2 := by unfold stWho; simp
      have hA : stWhat (2, 0, v1.1, v3.1) = nI v1.1 := by unfold stWhat; simp
      have hB : stLong (2, 0, v1.1, v3.1) = nI v3.1 := by unfold stLong; simp
      have hz : ∀ c k, c ≠ t → ¬ (c = u + 16 ∨ c = u + 17 ∨ c = u + 18 ∨ c = u + 19 ∨ (c = u + 15 ∧ k = 0)) → s2 (s2 (s2 (s2 (s2 y3 (u + 16) (rSt r) (nI 2)) (u + 17) (rSt r) (-2)) (u + 18) (rSt r) (nI v1.1)) (u + 19) (rSt r) (nI v3.1)) (u + 15) 0 (nI (rSt r + 1)) c k = I c k := by
        intro c k hct hc
        by_cases e15 : c = u + 15
        · rw [e15, s2_o (by omega), s2_ne (by omega), s2_ne (by omega), s2_ne (by omega), s2_ne (by omega)]
          simp (disch := omega) only [F1.1, F3.1]
        · rw [s2_ne e15, s2_ne (by omega), s2_ne (by omega), s2_ne (by omega), s2_ne (by omega)]
          simp (disch := omega) only [F1.1, F3.1]
      have hzt : s2 (s2 (s2 (s2 (s2 y3 (u + 16) (rSt r) (nI 2)) (u + 17) (rSt r) (-2)) (u + 18) (rSt r) (nI v1.1)) (u + 19) (rSt r) (nI v3.1)) (u + 15) 0 (nI (rSt r + 1)) t = y3 t := by
        rw [s2_ne (by omega), s2_ne (by omega), s2_ne (by omega), s2_ne (by omega), s2_ne (by omega)]
      have hrow : ∀ (x : Int32) (c i : Nat) (g : Nat → Int32), (∀ i, i < rSt r → y3 c i = g i) → i < rSt r + 1 → s2 y3 c (rSt r) x c i = if i = rSt r then x else g i := by
        intro x c i g hg hi
        rw [s2_eq]
        by_cases ei : i = rSt r
        · rw [if_pos ei, if_pos ei]
        · rw [if_neg ei, if_neg ei, hg i (by omega)]
      have r7y : ∀ i, i < rSt r → y3 (u + 16) i = nI (rF r i).1 ∧ y3 (u + 17) i = stWho (rF r i) ∧ y3 (u + 18) i = stWhat (rF r i) ∧ y3 (u + 19) i = stLong (rF r i) := fun i hi => by
        simp (disch := omega) only [F1.1, F3.1]
        exact r7 i hi
      refine ⟨true, s2 (s2 (s2 (s2 (s2 y3 (u + 16) (rSt r) (nI 2)) (u + 17) (rSt r) (-2)) (u + 18) (rSt r) (nI v1.1)) (u + 19) (rSt r) (nI v3.1)) (u + 15) 0 (nI (rSt r + 1)), ?_, ⟨rfl, ?_, H3.2.2.2, ⟨?_, fun s hs' => ?_, ⟨?_, ?_, ?_, ?_, s2_s⟩, fun k hk => ?_, fun p hp' => ?_, fun b hb => ?_, fun i hi => ?_, ?_⟩, ?_, ?_⟩, ?_⟩
      · refine E3.trans ?_
        simp (disch := first | assumption | (simp (disch := omega) only [cK_some, ofR_some, ofR_none, Option.toList_some, Option.toList_none, List.cons_append, List.nil_append, isL_i, isL_r, isL_u, isL_2, cs_0, cs_i, cs_r, cs_l, cs_ii, cs_ir, cs_ri, cs_rr, cs_iir, cs_irr, cs_iii, cs_iri, cs_rii, cs_rir, cs_rri, cs_rrr, cs_iiii, cs_iiir, cs_iiri, cs_iirr, cs_irii, cs_irir, cs_irri, cs_irrr, cs_riii, cs_riir, cs_riri, cs_rirr, cs_rrii, cs_rrir, cs_rrri, cs_rrrr, hs_1, hs_2, hs_3, hs_4, hs_5, hs_6, hs_7, hs_8, hs_9, hs_10, hs_11, hs_12, hs_13, hs_14, hs_15, hs_16, hs_17, hs_18, hs_19, hs_20, hs_21, hs_22, hs_23, hs_24, hs_25, hs_26, hs_27, hs_28, hs_29, hs_30, hs_31, hs_32, hs_33, hs_34, l1, inb_n, bq4, bq5, n100, not_false_eq_true, isB_0, isB_1, nI_clamp, nI_nneg, Nat.zero_add, Nat.le_refl]; done) | omega | (simp (disch := omega) only [cK_some, ofR_some, ofR_none, Option.toList_some, Option.toList_none, List.cons_append, List.nil_append, isL_i, isL_r, isL_u, isL_2, cs_0, cs_i, cs_r, cs_l, cs_ii, cs_ir, cs_ri, cs_rr, cs_iir, cs_irr, cs_iii, cs_iri, cs_rii, cs_rir, cs_rri, cs_rrr, cs_iiii, cs_iiir, cs_iiri, cs_iirr, cs_irii, cs_irir, cs_irri, cs_irrr, cs_riii, cs_riir, cs_riri, cs_rirr, cs_rrii, cs_rrir, cs_rrri, cs_rrrr, hs_1, hs_2, hs_3, hs_4, hs_5, hs_6, hs_7, hs_8, hs_9, hs_10, hs_11, hs_12, hs_13, hs_14, hs_15, hs_16, hs_17, hs_18, hs_19, hs_20, hs_21, hs_22, hs_23, hs_24, hs_25, hs_26, hs_27, hs_28, hs_29, hs_30, hs_31, hs_32, hs_33, hs_34, l1, inb_n, bq4, bq5, n100, not_false_eq_true, isB_0, isB_1, nI_clamp, nI_nneg, Nat.zero_add, Nat.le_refl]; omega)) only [xX8_readHangs_27, xX8_readHangs_28, xX8_readHangs_31, xX8_readHangs_34, xX8_readHangs_35, xX8_readHangs_37, xX8_readHangs_38, xX8_readHangs_39, xX8_readHangs_42, xX8_readHangs_45, xX8_readHangs_46, cK_some, ofR_some, ofR_none, Option.toList_some, Option.toList_none, List.cons_append, List.nil_append, isL_i, isL_r, isL_u, isL_2, cs_0, cs_i, cs_r, cs_l, cs_ii, cs_ir, cs_ri, cs_rr, cs_iir, cs_irr, cs_iii, cs_iri, cs_rii, cs_rir, cs_rri, cs_rrr, cs_iiii, cs_iiir, cs_iiri, cs_iirr, cs_irii, cs_irir, cs_irri, cs_irrr, cs_riii, cs_riir, cs_riri, cs_rirr, cs_rrii, cs_rrir, cs_rrri, cs_rrrr, hs_1, hs_2, hs_3, hs_4, hs_5, hs_6, hs_7, hs_8, hs_9, hs_10, hs_11, hs_12, hs_13, hs_14, hs_15, hs_16, hs_17, hs_18, hs_19, hs_20, hs_21, hs_22, hs_23, hs_24, hs_25, hs_26, hs_27, hs_28, hs_29, hs_30, hs_31, hs_32, hs_33, hs_34, A3v, l3, hs_8, hadd, bI_1, Nat.add_sub_cancel, Nat.add_zero, Nat.zero_add, nI_lt, nI_nlt, nI_le, nI_ge, nI_pos, pk_sub, nI_clamp, s2_ne, s2_o, s2_s, nI_add, inb_n, nI_nn, zq0, zq1, ↓reduceIte]
      · rw [hzt]; exact H3.2.2.1
      · rw [hzt]
        simp only [F1.2 9 (by decide) (by decide) (by decide) (by decide) (by decide) (by decide), F3.2 9 (by decide) (by decide) (by decide) (by decide) (by decide) (by decide)]
        exact r1
      · have h := r2 s hs'
        rw [hz u 0 (by omega) (by omega), hz u 1 (by omega) (by omega), hz u 2 (by omega) (by omega), hz u 3 (by omega) (by omega), hz u 4 (by omega) (by omega), hz u 5 (by omega) (by omega)]
        exact h
      · rw [hz (u + 1) 0 (by omega) (by omega)]; exact r3.1
      · rw [hz (u + 1) 1 (by omega) (by omega)]; exact r3.2.1
      · rw [hz (u + 1) 2 (by omega) (by omega)]; exact r3.2.2.1
      · rw [hz (u + 8) 0 (by omega) (by omega)]; exact r3.2.2.2.1
      · rw [hz _ _ (by omega) (by omega), hz _ _ (by omega) (by omega), hz _ _ (by omega) (by omega)]; exact r4 k hk
      · rw [hz _ _ (by omega) (by omega), hz _ _ (by omega) (by omega), hz _ _ (by omega) (by omega)]; exact r5 p hp'
      · rw [hz _ _ (by omega) (by omega), hz _ _ (by omega) (by omega), hz _ _ (by omega) (by omega), hz _ _ (by omega) (by omega), hz _ _ (by omega) (by omega), hz _ _ (by omega) (by omega)]; exact r6 b hb
      · have hF : rF (addStep r (2, 0, v1.1, v3.1)) i = if i = rSt r then (2, 0, v1.1, v3.1) else rF r i := rfl
        rw [hF]
        have hi' : i < rSt r + 1 := hi
        refine ⟨?_, ?_, ?_, ?_⟩
        · rw [s2_ne (by omega), s2_ne (by omega), s2_ne (by omega), s2_ne (by omega), hrow _ _ i _ (fun i hi => (r7y i hi).1) hi']
          by_cases ei : i = rSt r
          · rw [if_pos ei, if_pos ei]
          · rw [if_neg ei, if_neg ei]
        · rw [s2_ne (by omega), s2_ne (by omega), s2_ne (by omega), s2_eq, s2_ne (by omega)]
          by_cases ei : i = rSt r
          · rw [if_pos ei, if_pos ei, hW]
          · rw [if_neg ei, if_neg ei]; exact (r7y i (by omega)).2.1
        · rw [s2_ne (by omega), s2_ne (by omega), s2_eq, s2_ne (by omega), s2_ne (by omega)]
          by_cases ei : i = rSt r
          · rw [if_pos ei, if_pos ei, hA]
          · rw [if_neg ei, if_neg ei]; exact (r7y i (by omega)).2.2.1
        · rw [s2_ne (by omega), s2_eq, s2_ne (by omega), s2_ne (by omega), s2_ne (by omega)]
          by_cases ei : i = rSt r
          · rw [if_pos ei, if_pos ei, hB]
          · rw [if_neg ei, if_neg ei]; exact (r7y i (by omega)).2.2.2
      · exact (((r8).fq F1).fq F3).fr (by rw [hzt]) (fun c h1 h2 => by rw [s2_ne (by omega), s2_ne (by omega), s2_ne (by omega), s2_ne (by omega), s2_ne (by omega)])
      · obtain ⟨o1, o2, o3, o4, o5, o6, o7, o8, o9, o10, o11⟩ := ho
        refine ⟨o1, ⟨o2.1, o2.2.1, o2.2.2.1, ?_, o2.2.2.2.2.1, o2.2.2.2.2.2⟩, o3, o4, o5, fun i hi => ?_, o7, o8, o9, o10, fun c => absurd htold (by rw [show r.1 = none from c]; simp)⟩
        · show rSt r + 1 ≤ 12
          omega
        · have hF : rF (addStep r (2, 0, v1.1, v3.1)) i = if i = rSt r then (2, 0, v1.1, v3.1) else rF r i := rfl
          rw [hF]
          by_cases ei : i = rSt r
          · rw [if_pos ei]
            show SkOk (rN r) (rP r) (rT r) (2, 0, v1.1, v3.1)
            exact sk2 n1b h3e.2.2
          · rw [if_neg ei]
            have hi' : i < rSt r + 1 := hi
            exact o6 i (by omega)
      · rw [hzt]
        simp only [A1z, A3z]
      · exact ((((L3.s2 ⟨by omega, by omega⟩ hd).s2 ⟨by omega, by omega⟩ hd).s2 ⟨by omega, by omega⟩ hd).s2 ⟨by omega, by omega⟩ hd).s2 ⟨by omega, by omega⟩ hd
theorem c_readWipes {d t u e a : Nat} {B : Nat → Nat} {r : RS} {G : Gm} {I : Im} (hU : UpL G t u) (H : CpV G I t u B e a) (hr : RC I t u r) (ho : ROk e r) (htold : r.1.isSome = true) (hroom : rSt r < 12) :
    ∃ b I', run (d + 5) mX8_readWipes [.ref t] G I = some (some (.int (bI b)), G, I') ∧ AnL e I I' t u b (lnWipes B e a r) ∧ FL t u I I' := by
  obtain ⟨hT, hs, hp, hd⟩ := hU
  obtain ⟨l1, l2, l3, l4, l5, l6, l7, l8, l9, l10, l11, l12⟩ := id hT
  obtain ⟨r1, r2, r3, r4, r5, r6, r7, r8⟩ := id hr
  obtain ⟨p1, p2, p3, p4, p5, p6, p7, p8, p9, p10, p11, p12⟩ := id hp
  have hs_1 := hs.1; have hs_2 := hs.2.1; have hs_3 := hs.2.2.1; have hs_4 := hs.2.2.2.1; have hs_5 := hs.2.2.2.2.1; have hs_6 := hs.2.2.2.2.2.1; have hs_7 := (hs.2.2.2.2.2.2.1).1; have hs_8 := (hs.2.2.2.2.2.2.1).2.1; have hs_9 := (hs.2.2.2.2.2.2.1).2.2.1; have hs_10 := (hs.2.2.2.2.2.2.1).2.2.2.1; have hs_11 := (hs.2.2.2.2.2.2.1).2.2.2.2.1; have hs_12 := (hs.2.2.2.2.2.2.1).2.2.2.2.2.1; have hs_13 := (hs.2.2.2.2.2.2.1).2.2.2.2.2.2.1; have hs_14 := (hs.2.2.2.2.2.2.1).2.2.2.2.2.2.2.1; have hs_15 := (hs.2.2.2.2.2.2.1).2.2.2.2.2.2.2.2.1; have hs_16 := (hs.2.2.2.2.2.2.1).2.2.2.2.2.2.2.2.2.1; have hs_17 := (hs.2.2.2.2.2.2.1).2.2.2.2.2.2.2.2.2.2.1; have hs_18 := (hs.2.2.2.2.2.2.1).2.2.2.2.2.2.2.2.2.2.2.1; have hs_19 := (hs.2.2.2.2.2.2.1).2.2.2.2.2.2.2.2.2.2.2.2; have hs_20 := (hs.2.2.2.2.2.2.2.1).1; have hs_21 := (hs.2.2.2.2.2.2.2.1).2.1; have hs_22 := (hs.2.2.2.2.2.2.2.1).2.2.1; have hs_23 := (hs.2.2.2.2.2.2.2.1).2.2.2.1; have hs_24 := (hs.2.2.2.2.2.2.2.1).2.2.2.2.1; have hs_25 := (hs.2.2.2.2.2.2.2.1).2.2.2.2.2.1; have hs_26 := (hs.2.2.2.2.2.2.2.1).2.2.2.2.2.2.1; have hs_27 := (hs.2.2.2.2.2.2.2.1).2.2.2.2.2.2.2.1; have hs_28 := (hs.2.2.2.2.2.2.2.1).2.2.2.2.2.2.2.2.1; have hs_29 := (hs.2.2.2.2.2.2.2.1).2.2.2.2.2.2.2.2.2.1; have hs_30 := (hs.2.2.2.2.2.2.2.1).2.2.2.2.2.2.2.2.2.2.1; have hs_31 := (hs.2.2.2.2.2.2.2.1).2.2.2.2.2.2.2.2.2.2.2.1; have hs_32 := (hs.2.2.2.2.2.2.2.1).2.2.2.2.2.2.2.2.2.2.2.2; have hs_33 := hs.2.2.2.2.2.2.2.2.1; have hs_34 := hs.2.2.2.2.2.2.2.2.2.2
  unfold lnWipes
  obtain ⟨b1, y1, f1, A1, F1⟩ := c_takeName (d := d) (ofT := false) H ho.2.2.2.2.2.2.2.1 (r8)
  cases h1 : pM B e a (rNn r) (rNm r) false with
  | inl x =>
    rw [h1] at A1
    obtain ⟨rfl, A1f⟩ := A1
    try simp only [h1, bnd_l, bnd_r]
    simp only [bI_1, bI_0] at f1
    refine ⟨false, y1, ?_, ⟨rfl, A1f⟩, F1.l⟩
    simp (disch := first | assumption | (simp (disch := omega) only [cK_some, ofR_some, ofR_none, Option.toList_some, Option.toList_none, List.cons_append, List.nil_append, isL_i, isL_r, isL_u, isL_2, cs_0, cs_i, cs_r, cs_l, cs_ii, cs_ir, cs_ri, cs_rr, cs_iir, cs_irr, cs_iii, cs_iri, cs_rii, cs_rir, cs_rri, cs_rrr, cs_iiii, cs_iiir, cs_iiri, cs_iirr, cs_irii, cs_irir, cs_irri, cs_irrr, cs_riii, cs_riir, cs_riri, cs_rirr, cs_rrii, cs_rrir, cs_rrri, cs_rrrr, hs_1, hs_2, hs_3, hs_4, hs_5, hs_6, hs_7, hs_8, hs_9, hs_10, hs_11, hs_12, hs_13, hs_14, hs_15, hs_16, hs_17, hs_18, hs_19, hs_20, hs_21, hs_22, hs_23, hs_24, hs_25, hs_26, hs_27, hs_28, hs_29, hs_30, hs_31, hs_32, hs_33, hs_34, l1, inb_n, bq4, bq5, n100, not_false_eq_true, isB_0, isB_1, nI_clamp, nI_nneg, Nat.zero_add, Nat.le_refl]; done) | omega | (simp (disch := omega) only [cK_some, ofR_some, ofR_none, Option.toList_some, Option.toList_none, List.cons_append, List.nil_append, isL_i, isL_r, isL_u, isL_2, cs_0, cs_i, cs_r, cs_l, cs_ii, cs_ir, cs_ri, cs_rr, cs_iir, cs_irr, cs_iii, cs_iri, cs_rii, cs_rir, cs_rri, cs_rrr, cs_iiii, cs_iiir, cs_iiri, cs_iirr, cs_irii, cs_irir, cs_irri, cs_irrr, cs_riii, cs_riir, cs_riri, cs_rirr, cs_rrii, cs_rrir, cs_rrri, cs_rrrr, hs_1, hs_2, hs_3, hs_4, hs_5, hs_6, hs_7, hs_8, hs_9, hs_10, hs_11, hs_12, hs_13, hs_14, hs_15, hs_16, hs_17, hs_18, hs_19, hs_20, hs_21, hs_22, hs_23, hs_24, hs_25, hs_26, hs_27, hs_28, hs_29, hs_30, hs_31, hs_32, hs_33, hs_34, l1, inb_n, bq4, bq5, n100, not_false_eq_true, isB_0, isB_1, nI_clamp, nI_nneg, Nat.zero_add, Nat.le_refl]; omega)) only [xX8_readWipes_0, xX8_readWipes_1, xX8_readWipes_2, xX8_readWipes_5, xX8_readWipes_8, xX8_readWipes_9, cK_some, ofR_some, ofR_none, Option.toList_some, Option.toList_none, List.cons_append, List.nil_append, isL_i, isL_r, isL_u, isL_2, cs_0, cs_i, cs_r, cs_l, cs_ii, cs_ir, cs_ri, cs_rr, cs_iir, cs_irr, cs_iii, cs_iri, cs_rii, cs_rir, cs_rri, cs_rrr, cs_iiii, cs_iiir, cs_iiri, cs_iirr, cs_irii, cs_irir, cs_irri, cs_irrr, cs_riii, cs_riir, cs_riri, cs_rirr, cs_rrii, cs_rrir, cs_rrri, cs_rrrr, hs_1, hs_2, hs_3, hs_4, hs_5, hs_6, hs_7, hs_8, hs_9, hs_10, hs_11, hs_12, hs_13, hs_14, hs_15, hs_16, hs_17, hs_18, hs_19, hs_20, hs_21, hs_22, hs_23, hs_24, hs_25, hs_26, hs_27, hs_28, hs_29, hs_30, hs_31, hs_32, hs_33, hs_34, rX8_readWipes, bI_0, f1, bI_0, Nat.add_sub_cancel, Nat.add_zero, Nat.zero_add, nI_lt, nI_nlt, nI_le, nI_ge, nI_pos, pk_sub, nI_clamp, s2_ne, s2_o, s2_s, nI_add, inb_n, nI_nn, zq0, zq1, ↓reduceIte]
  | inr v1 =>
    rw [h1] at A1
    obtain ⟨rfl, A1a, A1v, A1s, A1z⟩ := A1
    try simp only [h1, bnd_r]
    simp only [bI_1, bI_0] at f1
    have E1 : run (d + 5) mX8_readWipes [.ref t] G I = ex (d + 5) mX8_readWipes 10 [.val (.ref t), .unset, .unset] [] G y1 := by
      simp (disch := first | assumption | (simp (disch := omega) only [cK_some, ofR_some, ofR_none, Option.toList_some, Option.toList_none, List.cons_append, List.nil_append, isL_i, isL_r, isL_u, isL_2, cs_0, cs_i, cs_r, cs_l, cs_ii, cs_ir, cs_ri, cs_rr, cs_iir, cs_irr, cs_iii, cs_iri, cs_rii, cs_rir, cs_rri, cs_rrr, cs_iiii, cs_iiir, cs_iiri, cs_iirr, cs_irii, cs_irir, cs_irri, cs_irrr, cs_riii, cs_riir, cs_riri, cs_rirr, cs_rrii, cs_rrir, cs_rrri, cs_rrrr, hs_1, hs_2, hs_3, hs_4, hs_5, hs_6, hs_7, hs_8, hs_9, hs_10, hs_11, hs_12, hs_13, hs_14, hs_15, hs_16, hs_17, hs_18, hs_19, hs_20, hs_21, hs_22, hs_23, hs_24, hs_25, hs_26, hs_27, hs_28, hs_29, hs_30, hs_31, hs_32, hs_33, hs_34, l1, inb_n, bq4, bq5, n100, not_false_eq_true, isB_0, isB_1, nI_clamp, nI_nneg, Nat.zero_add, Nat.le_refl]; done) | omega | (simp (disch := omega) only [cK_some, ofR_some, ofR_none, Option.toList_some, Option.toList_none, List.cons_append, List.nil_append, isL_i, isL_r, isL_u, isL_2, cs_0, cs_i, cs_r, cs_l, cs_ii, cs_ir, cs_ri, cs_rr, cs_iir, cs_irr, cs_iii, cs_iri, cs_rii, cs_rir, cs_rri, cs_rrr, cs_iiii, cs_iiir, cs_iiri, cs_iirr, cs_irii, cs_irir, cs_irri, cs_irrr, cs_riii, cs_riir, cs_riri, cs_rirr, cs_rrii, cs_rrir, cs_rrri, cs_rrrr, hs_1, hs_2, hs_3, hs_4, hs_5, hs_6, hs_7, hs_8, hs_9, hs_10, hs_11, hs_12, hs_13, hs_14, hs_15, hs_16, hs_17, hs_18, hs_19, hs_20, hs_21, hs_22, hs_23, hs_24, hs_25, hs_26, hs_27, hs_28, hs_29, hs_30, hs_31, hs_32, hs_33, hs_34, l1, inb_n, bq4, bq5, n100, not_false_eq_true, isB_0, isB_1, nI_clamp, nI_nneg, Nat.zero_add, Nat.le_refl]; omega)) only [xX8_readWipes_0, xX8_readWipes_1, xX8_readWipes_2, xX8_readWipes_5, cK_some, ofR_some, ofR_none, Option.toList_some, Option.toList_none, List.cons_append, List.nil_append, isL_i, isL_r, isL_u, isL_2, cs_0, cs_i, cs_r, cs_l, cs_ii, cs_ir, cs_ri, cs_rr, cs_iir, cs_irr, cs_iii, cs_iri, cs_rii, cs_rir, cs_rri, cs_rrr, cs_iiii, cs_iiir, cs_iiri, cs_iirr, cs_irii, cs_irir, cs_irri, cs_irrr, cs_riii, cs_riir, cs_riri, cs_rirr, cs_rrii, cs_rrir, cs_rrri, cs_rrrr, hs_1, hs_2, hs_3, hs_4, hs_5, hs_6, hs_7, hs_8, hs_9, hs_10, hs_11, hs_12, hs_13, hs_14, hs_15, hs_16, hs_17, hs_18, hs_19, hs_20, hs_21, hs_22, hs_23, hs_24, hs_25, hs_26, hs_27, hs_28, hs_29, hs_30, hs_31, hs_32, hs_33, hs_34, rX8_readWipes, bI_0, f1, bI_1, Nat.add_sub_cancel, Nat.add_zero, Nat.zero_add, nI_lt, nI_nlt, nI_le, nI_ge, nI_pos, pk_sub, nI_clamp, s2_ne, s2_o, s2_s, nI_add, inb_n, nI_nn, zq0, zq1, ↓reduceIte]
    have L1 : FL t u I y1 := F1.l
    have h1e := pM_e h1 H.2.2.2
    have H1 : CpV G y1 t u B e v1.2 := H.fl L1 hd A1a h1e.1
    have n1b : v1.1 < rN r := by
      obtain ⟨i, i1, i2, i3⟩ := h1e.2
      have := ho.2.2.2.2.2.2.2.2.1 i i1
      rw [i2, i3] at this
      simpa using this
    have n1c : v1.1 < 6 := by have := ho.2.1.1; have := ho.2.1.2.2.1; omega
    have E2 : run (d + 5) mX8_readWipes [.ref t] G I = ex (d + 5) mX8_readWipes 15 [.val (.ref t), .val (.int (nI v1.1)), .unset] [] G y1 := by
      refine E1.trans ?_
      simp (disch := first | assumption | (simp (disch := omega) only [cK_some, ofR_some, ofR_none, Option.toList_some, Option.toList_none, List.cons_append, List.nil_append, isL_i, isL_r, isL_u, isL_2, cs_0, cs_i, cs_r, cs_l, cs_ii, cs_ir, cs_ri, cs_rr, cs_iir, cs_irr, cs_iii, cs_iri, cs_rii, cs_rir, cs_rri, cs_rrr, cs_iiii, cs_iiir, cs_iiri, cs_iirr, cs_irii, cs_irir, cs_irri, cs_irrr, cs_riii, cs_riir, cs_riri, cs_rirr, cs_rrii, cs_rrir, cs_rrri, cs_rrrr, hs_1, hs_2, hs_3, hs_4, hs_5, hs_6, hs_7, hs_8, hs_9, hs_10, hs_11, hs_12, hs_13, hs_14, hs_15, hs_16, hs_17, hs_18, hs_19, hs_20, hs_21, hs_22, hs_23, hs_24, hs_25, hs_26, hs_27, hs_28, hs_29, hs_30, hs_31, hs_32, hs_33, hs_34, l1, inb_n, bq4, bq5, n100, not_false_eq_true, isB_0, isB_1, nI_clamp, nI_nneg, Nat.zero_add, Nat.le_refl]; done) | omega | (simp (disch := omega) only [cK_some, ofR_some, ofR_none, Option.toList_some, Option.toList_none, List.cons_append, List.nil_append, isL_i, isL_r, isL_u, isL_2, cs_0, cs_i, cs_r, cs_l, cs_ii, cs_ir, cs_ri, cs_rr, cs_iir, cs_irr, cs_iii, cs_iri, cs_rii, cs_rir, cs_rri, cs_rrr, cs_iiii, cs_iiir, cs_iiri, cs_iirr, cs_irii, cs_irir, cs_irri, cs_irrr, cs_riii, cs_riir, cs_riri, cs_rirr, cs_rrii, cs_rrir, cs_rrri, cs_rrrr, hs_1, hs_2, hs_3, hs_4, hs_5, hs_6, hs_7, hs_8, hs_9, hs_10, hs_11, hs_12, hs_13, hs_14, hs_15, hs_16, hs_17, hs_18, hs_19, hs_20, hs_21, hs_22, hs_23, hs_24, hs_25, hs_26, hs_27, hs_28, hs_29, hs_30, hs_31, hs_32, hs_33, hs_34, l1, inb_n, bq4, bq5, n100, not_false_eq_true, isB_0, isB_1, nI_clamp, nI_nneg, Nat.zero_add, Nat.le_refl]; omega)) only [xX8_readWipes_10, xX8_readWipes_11, xX8_readWipes_14, cK_some, ofR_some, ofR_none, Option.toList_some, Option.toList_none, List.cons_append, List.nil_append, isL_i, isL_r, isL_u, isL_2, cs_0, cs_i, cs_r, cs_l, cs_ii, cs_ir, cs_ri, cs_rr, cs_iir, cs_irr, cs_iii, cs_iri, cs_rii, cs_rir, cs_rri, cs_rrr, cs_iiii, cs_iiir, cs_iiri, cs_iirr, cs_irii, cs_irir, cs_irri, cs_irrr, cs_riii, cs_riir, cs_riri, cs_rirr, cs_rrii, cs_rrir, cs_rrri, cs_rrrr, hs_1, hs_2, hs_3, hs_4, hs_5, hs_6, hs_7, hs_8, hs_9, hs_10, hs_11, hs_12, hs_13, hs_14, hs_15, hs_16, hs_17, hs_18, hs_19, hs_20, hs_21, hs_22, hs_23, hs_24, hs_25, hs_26, hs_27, hs_28, hs_29, hs_30, hs_31, hs_32, hs_33, hs_34, A1v, Nat.add_sub_cancel, Nat.add_zero, Nat.zero_add, nI_lt, nI_nlt, nI_le, nI_ge, nI_pos, pk_sub, nI_clamp, s2_ne, s2_o, s2_s, nI_add, inb_n, nI_nn, zq0, zq1, ↓reduceIte]
    have L2 : FL t u I y1 := L1
    obtain ⟨b3, y3, f3, A3, F3⟩ := c_takeName (d := d) (ofT := true) H1 ho.2.2.2.2.2.2.2.1 ((r8).fq F1)
    cases h3 : pM B e v1.2 (rNn r) (rNm r) true with
    | inl x =>
      rw [h3] at A3
      obtain ⟨rfl, A3f⟩ := A3
      try simp only [h3, bnd_l, bnd_r]
      simp only [bI_1, bI_0] at f3
      refine ⟨false, y3, E2.trans ?_, ⟨rfl, A3f⟩, (FL.tr L2 F3.l)⟩
      simp (disch := first | assumption | (simp (disch := omega) only [cK_some, ofR_some, ofR_none, Option.toList_some, Option.toList_none, List.cons_append, List.nil_append, isL_i, isL_r, isL_u, isL_2, cs_0, cs_i, cs_r, cs_l, cs_ii, cs_ir, cs_ri, cs_rr, cs_iir, cs_irr, cs_iii, cs_iri, cs_rii, cs_rir, cs_rri, cs_rrr, cs_iiii, cs_iiir, cs_iiri, cs_iirr, cs_irii, cs_irir, cs_irri, cs_irrr, cs_riii, cs_riir, cs_riri, cs_rirr, cs_rrii, cs_rrir, cs_rrri, cs_rrrr, hs_1, hs_2, hs_3, hs_4, hs_5, hs_6, hs_7, hs_8, hs_9, hs_10, hs_11, hs_12, hs_13, hs_14, hs_15, hs_16, hs_17, hs_18, hs_19, hs_20, hs_21, hs_22, hs_23, hs_24, hs_25, hs_26, hs_27, hs_28, hs_29, hs_30, hs_31, hs_32, hs_33, hs_34, l1, inb_n, bq4, bq5, n100, not_false_eq_true, isB_0, isB_1, nI_clamp, nI_nneg, Nat.zero_add, Nat.le_refl]; done) | omega | (simp (disch := omega) only [cK_some, ofR_some, ofR_none, Option.toList_some, Option.toList_none, List.cons_append, List.nil_append, isL_i, isL_r, isL_u, isL_2, cs_0, cs_i, cs_r, cs_l, cs_ii, cs_ir, cs_ri, cs_rr, cs_iir, cs_irr, cs_iii, cs_iri, cs_rii, cs_rir, cs_rri, cs_rrr, cs_iiii, cs_iiir, cs_iiri, cs_iirr, cs_irii, cs_irir, cs_irri, cs_irrr, cs_riii, cs_riir, cs_riri, cs_rirr, cs_rrii, cs_rrir, cs_rrri, cs_rrrr, hs_1, hs_2, hs_3, hs_4, hs_5, hs_6, hs_7, hs_8, hs_9, hs_10, hs_11, hs_12, hs_13, hs_14, hs_15, hs_16, hs_17, hs_18, hs_19, hs_20, hs_21, hs_22, hs_23, hs_24, hs_25, hs_26, hs_27, hs_28, hs_29, hs_30, hs_31, hs_32, hs_33, hs_34, l1, inb_n, bq4, bq5, n100, not_false_eq_true, isB_0, isB_1, nI_clamp, nI_nneg, Nat.zero_add, Nat.le_refl]; omega)) only [xX8_readWipes_15, xX8_readWipes_16, xX8_readWipes_17, xX8_readWipes_20, xX8_readWipes_23, xX8_readWipes_24, cK_some, ofR_some, ofR_none, Option.toList_some, Option.toList_none, List.cons_append, List.nil_append, isL_i, isL_r, isL_u, isL_2, cs_0, cs_i, cs_r, cs_l, cs_ii, cs_ir, cs_ri, cs_rr, cs_iir, cs_irr, cs_iii, cs_iri, cs_rii, cs_rir, cs_rri, cs_rrr, cs_iiii, cs_iiir, cs_iiri, cs_iirr, cs_irii, cs_irir, cs_irri, cs_irrr, cs_riii, cs_riir, cs_riri, cs_rirr, cs_rrii, cs_rrir, cs_rrri, cs_rrrr, hs_1, hs_2, hs_3, hs_4, hs_5, hs_6, hs_7, hs_8, hs_9, hs_10, hs_11, hs_12, hs_13, hs_14, hs_15, hs_16, hs_17, hs_18, hs_19, hs_20, hs_21, hs_22, hs_23, hs_24, hs_25, hs_26, hs_27, hs_28, hs_29, hs_30, hs_31, hs_32, hs_33, hs_34, bI_1, f3, bI_0, Nat.add_sub_cancel, Nat.add_zero, Nat.zero_add, nI_lt, nI_nlt, nI_le, nI_ge, nI_pos, pk_sub, nI_clamp, s2_ne, s2_o, s2_s, nI_add, inb_n, nI_nn, zq0, zq1, ↓reduceIte]
    | inr v3 =>
      rw [h3] at A3
      obtain ⟨rfl, A3a, A3v, A3s, A3z⟩ := A3
      try simp only [h3, bnd_r]
      simp only [bI_1, bI_0] at f3
      have E3 : run (d + 5) mX8_readWipes [.ref t] G I = ex (d + 5) mX8_readWipes 25 [.val (.ref t), .val (.int (nI v1.1)), .unset] [] G y3 := by
        refine E2.trans ?_
        simp (disch := first | assumption | (simp (disch := omega) only [cK_some, ofR_some, ofR_none, Option.toList_some, Option.toList_none, List.cons_append, List.nil_append, isL_i, isL_r, isL_u, isL_2, cs_0, cs_i, cs_r, cs_l, cs_ii, cs_ir, cs_ri, cs_rr, cs_iir, cs_irr, cs_iii, cs_iri, cs_rii, cs_rir, cs_rri, cs_rrr, cs_iiii, cs_iiir, cs_iiri, cs_iirr, cs_irii, cs_irir, cs_irri, cs_irrr, cs_riii, cs_riir, cs_riri, cs_rirr, cs_rrii, cs_rrir, cs_rrri, cs_rrrr, hs_1, hs_2, hs_3, hs_4, hs_5, hs_6, hs_7, hs_8, hs_9, hs_10, hs_11, hs_12, hs_13, hs_14, hs_15, hs_16, hs_17, hs_18, hs_19, hs_20, hs_21, hs_22, hs_23, hs_24, hs_25, hs_26, hs_27, hs_28, hs_29, hs_30, hs_31, hs_32, hs_33, hs_34, l1, inb_n, bq4, bq5, n100, not_false_eq_true, isB_0, isB_1, nI_clamp, nI_nneg, Nat.zero_add, Nat.le_refl]; done) | omega | (simp (disch := omega) only [cK_some, ofR_some, ofR_none, Option.toList_some, Option.toList_none, List.cons_append, List.nil_append, isL_i, isL_r, isL_u, isL_2, cs_0, cs_i, cs_r, cs_l, cs_ii, cs_ir, cs_ri, cs_rr, cs_iir, cs_irr, cs_iii, cs_iri, cs_rii, cs_rir, cs_rri, cs_rrr, cs_iiii, cs_iiir, cs_iiri, cs_iirr, cs_irii, cs_irir, cs_irri, cs_irrr, cs_riii, cs_riir, cs_riri, cs_rirr, cs_rrii, cs_rrir, cs_rrri, cs_rrrr, hs_1, hs_2, hs_3, hs_4, hs_5, hs_6, hs_7, hs_8, hs_9, hs_10, hs_11, hs_12, hs_13, hs_14, hs_15, hs_16, hs_17, hs_18, hs_19, hs_20, hs_21, hs_22, hs_23, hs_24, hs_25, hs_26, hs_27, hs_28, hs_29, hs_30, hs_31, hs_32, hs_33, hs_34, l1, inb_n, bq4, bq5, n100, not_false_eq_true, isB_0, isB_1, nI_clamp, nI_nneg, Nat.zero_add, Nat.le_refl]; omega)) only [xX8_readWipes_15, xX8_readWipes_16, xX8_readWipes_17, xX8_readWipes_20, cK_some, ofR_some, ofR_none, Option.toList_some, Option.toList_none, List.cons_append, List.nil_append, isL_i, isL_r, isL_u, isL_2, cs_0, cs_i, cs_r, cs_l, cs_ii, cs_ir, cs_ri, cs_rr, cs_iir, cs_irr, cs_iii, cs_iri, cs_rii, cs_rir, cs_rri, cs_rrr, cs_iiii, cs_iiir, cs_iiri, cs_iirr, cs_irii, cs_irir, cs_irri, cs_irrr, cs_riii, cs_riir, cs_riri, cs_rirr, cs_rrii, cs_rrir, cs_rrri, cs_rrrr, hs_1, hs_2, hs_3, hs_4, hs_5, hs_6, hs_7, hs_8, hs_9, hs_10, hs_11, hs_12, hs_13, hs_14, hs_15, hs_16, hs_17, hs_18, hs_19, hs_20, hs_21, hs_22, hs_23, hs_24, hs_25, hs_26, hs_27, hs_28, hs_29, hs_30, hs_31, hs_32, hs_33, hs_34, bI_1, f3, bI_1, Nat.add_sub_cancel, Nat.add_zero, Nat.zero_add, nI_lt, nI_nlt, nI_le, nI_ge, nI_pos, pk_sub, nI_clamp, s2_ne, s2_o, s2_s, nI_add, inb_n, nI_nn, zq0, zq1, ↓reduceIte]
      have L3 : FL t u I y3 := (FL.tr L2 F3.l)
      have h3e := pM_e h3 H1.2.2.2
      have H3 : CpV G y3 t u B e v3.2 := H.fl L3 hd A3a h3e.1
      have n3b : v3.1 < rT r := by
        obtain ⟨i, i1, i2, i3⟩ := h3e.2
        have := ho.2.2.2.2.2.2.2.2.1 i i1
        rw [i2, i3] at this
        simpa using this
      have n3c : v3.1 < 6 := by have := ho.2.1.1; have := ho.2.1.2.2.1; omega
      have E4 : run (d + 5) mX8_readWipes [.ref t] G I = ex (d + 5) mX8_readWipes 30 [.val (.ref t), .val (.int (nI v1.1)), .val (.int (nI v3.1))] [] G y3 := by
        refine E3.trans ?_
        simp (disch := first | assumption | (simp (disch := omega) only [cK_some, ofR_some, ofR_none, Option.toList_some, Option.toList_none, List.cons_append, List.nil_append, isL_i, isL_r, isL_u, isL_2, cs_0, cs_i, cs_r, cs_l, cs_ii, cs_ir, cs_ri, cs_rr, cs_iir, cs_irr, cs_iii, cs_iri, cs_rii, cs_rir, cs_rri, cs_rrr, cs_iiii, cs_iiir, cs_iiri, cs_iirr, cs_irii, cs_irir, cs_irri, cs_irrr, cs_riii, cs_riir, cs_riri, cs_rirr, cs_rrii, cs_rrir, cs_rrri, cs_rrrr, hs_1, hs_2, hs_3, hs_4, hs_5, hs_6, hs_7, hs_8, hs_9, hs_10, hs_11, hs_12, hs_13, hs_14, hs_15, hs_16, hs_17, hs_18, hs_19, hs_20, hs_21, hs_22, hs_23, hs_24, hs_25, hs_26, hs_27, hs_28, hs_29, hs_30, hs_31, hs_32, hs_33, hs_34, l1, inb_n, bq4, bq5, n100, not_false_eq_true, isB_0, isB_1, nI_clamp, nI_nneg, Nat.zero_add, Nat.le_refl]; done) | omega | (simp (disch := omega) only [cK_some, ofR_some, ofR_none, Option.toList_some, Option.toList_none, List.cons_append, List.nil_append, isL_i, isL_r, isL_u, isL_2, cs_0, cs_i, cs_r, cs_l, cs_ii, cs_ir, cs_ri, cs_rr, cs_iir, cs_irr, cs_iii, cs_iri, cs_rii, cs_rir, cs_rri, cs_rrr, cs_iiii, cs_iiir, cs_iiri, cs_iirr, cs_irii, cs_irir, cs_irri, cs_irrr, cs_riii, cs_riir, cs_riri, cs_rirr, cs_rrii, cs_rrir, cs_rrri, cs_rrrr, hs_1, hs_2, hs_3, hs_4, hs_5, hs_6, hs_7, hs_8, hs_9, hs_10, hs_11, hs_12, hs_13, hs_14, hs_15, hs_16, hs_17, hs_18, hs_19, hs_20, hs_21, hs_22, hs_23, hs_24, hs_25, hs_26, hs_27, hs_28, hs_29, hs_30, hs_31, hs_32, hs_33, hs_34, l1, inb_n, bq4, bq5, n100, not_false_eq_true, isB_0, isB_1, nI_clamp, nI_nneg, Nat.zero_add, Nat.le_refl]; omega)) only [xX8_readWipes_25, xX8_readWipes_26, xX8_readWipes_29, cK_some, ofR_some, ofR_none, Option.toList_some, Option.toList_none, List.cons_append, List.nil_append, isL_i, isL_r, isL_u, isL_2, cs_0, cs_i, cs_r, cs_l, cs_ii, cs_ir, cs_ri, cs_rr, cs_iir, cs_irr, cs_iii, cs_iri, cs_rii, cs_rir, cs_rri, cs_rrr, cs_iiii, cs_iiir, cs_iiri, cs_iirr, cs_irii, cs_irir, cs_irri, cs_irrr, cs_riii, cs_riir, cs_riri, cs_rirr, cs_rrii, cs_rrir, cs_rrri, cs_rrrr, hs_1, hs_2, hs_3, hs_4, hs_5, hs_6, hs_7, hs_8, hs_9, hs_10, hs_11, hs_12, hs_13, hs_14, hs_15, hs_16, hs_17, hs_18, hs_19, hs_20, hs_21, hs_22, hs_23, hs_24, hs_25, hs_26, hs_27, hs_28, hs_29, hs_30, hs_31, hs_32, hs_33, hs_34, A3v, Nat.add_sub_cancel, Nat.add_zero, Nat.zero_add, nI_lt, nI_nlt, nI_le, nI_ge, nI_pos, pk_sub, nI_clamp, s2_ne, s2_o, s2_s, nI_add, inb_n, nI_nn, zq0, zq1, ↓reduceIte]
      have L4 : FL t u I y3 := L3
      have hsz := ho.2.2.1 v3.1 n3b
      have hT3 := ho.2.1.1
      have hP6 := ho.2.1.2.1
      have eSz : y3 (u + 2) v3.1 = nI (rSz r v3.1) := by
        simp (disch := omega) only [F1.1, F3.1]
        exact (r4 _ n3b).1
      have hsu := pk_sub hsz.1
      obtain ⟨b5, y5, f5, A5, F5⟩ := c_takeWhole (d := d + 1) (lo := 0) (hi := rSz r v3.1 - 1) H3 (by omega) (by omega)
      cases h5 : pN B e v3.2 (0) (rSz r v3.1 - 1) with
      | inl x =>
        rw [h5] at A5
        obtain ⟨rfl, A5f⟩ := A5
        try simp only [h5, bnd_l, bnd_r]
        simp only [bI_1, bI_0] at f5
        refine ⟨false, y5, E4.trans ?_, ⟨rfl, A5f⟩, (FL.tr L4 F5.l)⟩
        simp (disch := first | assumption | (simp (disch := omega) only [cK_some, ofR_some, ofR_none, Option.toList_some, Option.toList_none, List.cons_append, List.nil_append, isL_i, isL_r, isL_u, isL_2, cs_0, cs_i, cs_r, cs_l, cs_ii, cs_ir, cs_ri, cs_rr, cs_iir, cs_irr, cs_iii, cs_iri, cs_rii, cs_rir, cs_rri, cs_rrr, cs_iiii, cs_iiir, cs_iiri, cs_iirr, cs_irii, cs_irir, cs_irri, cs_irrr, cs_riii, cs_riir, cs_riri, cs_rirr, cs_rrii, cs_rrir, cs_rrri, cs_rrrr, hs_1, hs_2, hs_3, hs_4, hs_5, hs_6, hs_7, hs_8, hs_9, hs_10, hs_11, hs_12, hs_13, hs_14, hs_15, hs_16, hs_17, hs_18, hs_19, hs_20, hs_21, hs_22, hs_23, hs_24, hs_25, hs_26, hs_27, hs_28, hs_29, hs_30, hs_31, hs_32, hs_33, hs_34, l1, hs_7, hs_16, inb_n, bq4, bq5, n100, not_false_eq_true, isB_0, isB_1, nI_clamp, nI_nneg, Nat.zero_add, Nat.le_refl]; done) | omega | (simp (disch := omega) only [cK_some, ofR_some, ofR_none, Option.toList_some, Option.toList_none, List.cons_append, List.nil_append, isL_i, isL_r, isL_u, isL_2, cs_0, cs_i, cs_r, cs_l, cs_ii, cs_ir, cs_ri, cs_rr, cs_iir, cs_irr, cs_iii, cs_iri, cs_rii, cs_rir, cs_rri, cs_rrr, cs_iiii, cs_iiir, cs_iiri, cs_iirr, cs_irii, cs_irir, cs_irri, cs_irrr, cs_riii, cs_riir, cs_riri, cs_rirr, cs_rrii, cs_rrir, cs_rrri, cs_rrrr, hs_1, hs_2, hs_3, hs_4, hs_5, hs_6, hs_7, hs_8, hs_9, hs_10, hs_11, hs_12, hs_13, hs_14, hs_15, hs_16, hs_17, hs_18, hs_19, hs_20, hs_21, hs_22, hs_23, hs_24, hs_25, hs_26, hs_27, hs_28, hs_29, hs_30, hs_31, hs_32, hs_33, hs_34, l1, hs_7, hs_16, inb_n, bq4, bq5, n100, not_false_eq_true, isB_0, isB_1, nI_clamp, nI_nneg, Nat.zero_add, Nat.le_refl]; omega)) only [xX8_readWipes_30, xX8_readWipes_31, xX8_readWipes_32, xX8_readWipes_33, xX8_readWipes_36, xX8_readWipes_39, xX8_readWipes_42, xX8_readWipes_43, xX8_readWipes_44, xX8_readWipes_45, xX8_readWipes_46, xX8_readWipes_49, xX8_readWipes_52, xX8_readWipes_53, cK_some, ofR_some, ofR_none, Option.toList_some, Option.toList_none, List.cons_append, List.nil_append, isL_i, isL_r, isL_u, isL_2, cs_0, cs_i, cs_r, cs_l, cs_ii, cs_ir, cs_ri, cs_rr, cs_iir, cs_irr, cs_iii, cs_iri, cs_rii, cs_rir, cs_rri, cs_rrr, cs_iiii, cs_iiir, cs_iiri, cs_iirr, cs_irii, cs_irir, cs_irri, cs_irrr, cs_riii, cs_riir, cs_riri, cs_rirr, cs_rrii, cs_rrir, cs_rrri, cs_rrrr, hs_1, hs_2, hs_3, hs_4, hs_5, hs_6, hs_7, hs_8, hs_9, hs_10, hs_11, hs_12, hs_13, hs_14, hs_15, hs_16, hs_17, hs_18, hs_19, hs_20, hs_21, hs_22, hs_23, hs_24, hs_25, hs_26, hs_27, hs_28, hs_29, hs_30, hs_31, hs_32, hs_33, hs_34, l3, hs_2, hs_9, eSz, hsu, f5, bI_0, Nat.add_sub_cancel, Nat.add_zero, Nat.zero_add, nI_lt, nI_nlt, nI_le, nI_ge, nI_pos, pk_sub, nI_clamp, s2_ne, s2_o, s2_s, nI_add, inb_n, nI_nn, zq0, zq1, ↓reduceIte]
      | inr v5 =>
        rw [h5] at A5
        obtain ⟨rfl, A5a, A5v, A5s, A5z⟩ := A5
        try simp only [h5, bnd_r]
        simp only [bI_1, bI_0] at f5
        have E5 : run (d + 5) mX8_readWipes [.ref t] G I = ex (d + 5) mX8_readWipes 54 [.val (.ref t), .val (.int (nI v1.1)), .val (.int (nI v3.1))] [] G y5 := by
          refine E4.trans ?_
          simp (disch := first | assumption | (simp (disch := omega) only [cK_some, ofR_some, ofR_none, Option.toList_some, Option.toList_none, List.cons_append, List.nil_append, isL_i, isL_r, isL_u, isL_2, cs_0, cs_i, cs_r, cs_l, cs_ii, cs_ir, cs_ri, cs_rr, cs_iir, cs_irr, cs_iii, cs_iri, cs_rii, cs_rir, cs_rri, cs_rrr, cs_iiii, cs_iiir, cs_iiri, cs_iirr, cs_irii, cs_irir, cs_irri, cs_irrr, cs_riii, cs_riir, cs_riri, cs_rirr, cs_rrii, cs_rrir, cs_rrri, cs_rrrr, hs_1, hs_2, hs_3, hs_4, hs_5, hs_6, hs_7, hs_8, hs_9, hs_10, hs_11, hs_12, hs_13, hs_14, hs_15, hs_16, hs_17, hs_18, hs_19, hs_20, hs_21, hs_22, hs_23, hs_24, hs_25, hs_26, hs_27, hs_28, hs_29, hs_30, hs_31, hs_32, hs_33, hs_34, l1, hs_7, hs_16, inb_n, bq4, bq5, n100, not_false_eq_true, isB_0, isB_1, nI_clamp, nI_nneg, Nat.zero_add, Nat.le_refl]; done) | omega | (simp (disch := omega) only [cK_some, ofR_some, ofR_none, Option.toList_some, Option.toList_none, List.cons_append, List.nil_append, isL_i, isL_r, isL_u, isL_2, cs_0, cs_i, cs_r, cs_l, cs_ii, cs_ir, cs_ri, cs_rr, cs_iir, cs_irr, cs_iii, cs_iri, cs_rii, cs_rir, cs_rri, cs_rrr, cs_iiii, cs_iiir, cs_iiri, cs_iirr, cs_irii, cs_irir, cs_irri, cs_irrr, cs_riii, cs_riir, cs_riri, cs_rirr, cs_rrii, cs_rrir, cs_rrri, cs_rrrr, hs_1, hs_2, hs_3, hs_4, hs_5, hs_6, hs_7, hs_8, hs_9, hs_10, hs_11, hs_12, hs_13, hs_14, hs_15, hs_16, hs_17, hs_18, hs_19, hs_20, hs_21, hs_22, hs_23, hs_24, hs_25, hs_26, hs_27, hs_28, hs_29, hs_30, hs_31, hs_32, hs_33, hs_34, l1, hs_7, hs_16, inb_n, bq4, bq5, n100, not_false_eq_true, isB_0, isB_1, nI_clamp, nI_nneg, Nat.zero_add, Nat.le_refl]; omega)) only [xX8_readWipes_30, xX8_readWipes_31, xX8_readWipes_32, xX8_readWipes_33, xX8_readWipes_36, xX8_readWipes_39, xX8_readWipes_42, xX8_readWipes_43, xX8_readWipes_44, xX8_readWipes_45, xX8_readWipes_46, xX8_readWipes_49, cK_some, ofR_some, ofR_none, Option.toList_some, Option.toList_none, List.cons_append, List.nil_append, isL_i, isL_r, isL_u, isL_2, cs_0, cs_i, cs_r, cs_l, cs_ii, cs_ir, cs_ri, cs_rr, cs_iir, cs_irr, cs_iii, cs_iri, cs_rii, cs_rir, cs_rri, cs_rrr, cs_iiii, cs_iiir, cs_iiri, cs_iirr, cs_irii, cs_irir, cs_irri, cs_irrr, cs_riii, cs_riir, cs_riri, cs_rirr, cs_rrii, cs_rrir, cs_rrri, cs_rrrr, hs_1, hs_2, hs_3, hs_4, hs_5, hs_6, hs_7, hs_8, hs_9, hs_10, hs_11, hs_12, hs_13, hs_14, hs_15, hs_16, hs_17, hs_18, hs_19, hs_20, hs_21, hs_22, hs_23, hs_24, hs_25, hs_26, hs_27, hs_28, hs_29, hs_30, hs_31, hs_32, hs_33, hs_34, l3, hs_2, hs_9, eSz, hsu, f5, bI_1, Nat.add_sub_cancel, Nat.add_zero, Nat.zero_add, nI_lt, nI_nlt, nI_le, nI_ge, nI_pos, pk_sub, nI_clamp, s2_ne, s2_o, s2_s, nI_add, inb_n, nI_nn, zq0, zq1, ↓reduceIte]
        have L5 : FL t u I y5 := (FL.tr L4 F5.l)
        have h5e := pN_e h5 H3.2.2.2
        have H5 : CpV G y5 t u B e v5.2 := H.fl L5 hd A5a h5e.1
        have eFi : y5 (u + 3) v3.1 = nI (rFi r v3.1) := by
          simp (disch := omega) only [F1.1, F3.1, F5.1]
          exact (r4 _ n3b).2.1
        have hn12 : rSt r < 12 := hroom
        have ec : y5 (u + 15) 0 = nI (rSt r) := by
          simp (disch := omega) only [F1.1, F3.1, F5.1]
          exact r3.2.2.2.2
        have hadd := c_planAdd (d := d + 4) (a := nI 0) (b := nI v1.1) (c := nI (rFi r v3.1 + v5.1)) (e := -2) (I := y5) hp ec hn12
        have hW : stWho (0, v1.1, rFi r v3.1 + v5.1, 0) = nI v1.1 := by unfold stWho; simp
        have hA : stWhat (0, v1.1, rFi r v3.1 + v5.1, 0) = nI (rFi r v3.1 + v5.1) := by unfold stWhat; simp
        have hB : stLong (0, v1.1, rFi r v3.1 + v5.1, 0) = -2 := by unfold stLong; simp
        have hz : ∀ c k, c ≠ t → ¬ (c = u + 16 ∨ c = u + 17 ∨ c = u + 18 ∨ c = u + 19 ∨ (c = u + 15 ∧ k = 0)) → s2 (s2 (s2 (s2 (s2 y5 (u + 16) (rSt r) (nI 0)) (u + 17) (rSt r) (nI v1.1)) (u + 18) (rSt r) (nI (rFi r v3.1 + v5.1))) (u + 19) (rSt r) (-2)) (u + 15) 0 (nI (rSt r + 1)) c k = I c k := by
          intro c k hct hc
          by_cases e15 : c = u + 15
          · rw [e15, s2_o (by omega), s2_ne (by omega), s2_ne (by omega), s2_ne (by omega), s2_ne (by omega)]
            simp (disch := omega) only [F1.1, F3.1, F5.1]
          · rw [s2_ne e15, s2_ne (by omega), s2_ne (by omega), s2_ne (by omega), s2_ne (by omega)]
            simp (disch := omega) only [F1.1, F3.1, F5.1]
        have hzt : s2 (s2 (s2 (s2 (s2 y5 (u + 16) (rSt r) (nI 0)) (u + 17) (rSt r) (nI v1.1)) (u + 18) (rSt r) (nI (rFi r v3.1 + v5.1))) (u + 19) (rSt r) (-2)) (u + 15) 0 (nI (rSt r + 1)) t = y5 t := by
          rw [s2_ne (by omega), s2_ne (by omega), s2_ne (by omega), s2_ne (by omega), s2_ne (by omega)]
        have hrow : ∀ (x : Int32) (c i : Nat) (g : Nat → Int32), (∀ i, i < rSt r → y5 c i = g i) → i < rSt r + 1 → s2 y5 c (rSt r) x c i = if i = rSt r then x else g i := by
          intro x c i g hg hi
          rw [s2_eq]
          by_cases ei : i = rSt r
          · rw [if_pos ei, if_pos ei]
          · rw [if_neg ei, if_neg ei, hg i (by omega)]
        have r7y : ∀ i, i < rSt r → y5 (u + 16) i = nI (rF r i).1 ∧ y5 (u + 17) i = stWho (rF r i) ∧ y5 (u + 18) i = stWhat (rF r i) ∧ y5 (u + 19) i = stLong (rF r i) := fun i hi => by
          simp (disch := omega) only [F1.1, F3.1, F5.1]
          exact r7 i hi
        refine ⟨true, s2 (s2 (s2 (s2 (s2 y5 (u + 16) (rSt r) (nI 0)) (u + 17) (rSt r) (nI v1.1)) (u + 18) (rSt r) (nI (rFi r v3.1 + v5.1))) (u + 19) (rSt r) (-2)) (u + 15) 0 (nI (rSt r + 1)), ?_, ⟨rfl, ?_, H5.2.2.2, ⟨?_, fun s hs' => ?_, ⟨?_, ?_, ?_, ?_, s2_s⟩, fun k hk => ?_, fun p hp' => ?_, fun b hb => ?_, fun i hi => ?_, ?_⟩, ?_, ?_⟩, ?_⟩
        · refine E5.trans ?_
          simp (disch := first | assumption | (simp (disch := omega) only [cK_some, ofR_some, ofR_none, Option.toList_some, Option.toList_none, List.cons_append, List.nil_append, isL_i, isL_r, isL_u, isL_2, cs_0, cs_i, cs_r, cs_l, cs_ii, cs_ir, cs_ri, cs_rr, cs_iir, cs_irr, cs_iii, cs_iri, cs_rii, cs_rir, cs_rri, cs_rrr, cs_iiii, cs_iiir, cs_iiri, cs_iirr, cs_irii, cs_irir, cs_irri, cs_irrr, cs_riii, cs_riir, cs_riri, cs_rirr, cs_rrii, cs_rrir, cs_rrri, cs_rrrr, hs_1, hs_2, hs_3, hs_4, hs_5, hs_6, hs_7, hs_8, hs_9, hs_10, hs_11, hs_12, hs_13, hs_14, hs_15, hs_16, hs_17, hs_18, hs_19, hs_20, hs_21, hs_22, hs_23, hs_24, hs_25, hs_26, hs_27, hs_28, hs_29, hs_30, hs_31, hs_32, hs_33, hs_34, l1, inb_n, bq4, bq5, n100, not_false_eq_true, isB_0, isB_1, nI_clamp, nI_nneg, Nat.zero_add, Nat.le_refl]; done) | omega | (simp (disch := omega) only [cK_some, ofR_some, ofR_none, Option.toList_some, Option.toList_none, List.cons_append, List.nil_append, isL_i, isL_r, isL_u, isL_2, cs_0, cs_i, cs_r, cs_l, cs_ii, cs_ir, cs_ri, cs_rr, cs_iir, cs_irr, cs_iii, cs_iri, cs_rii, cs_rir, cs_rri, cs_rrr, cs_iiii, cs_iiir, cs_iiri, cs_iirr, cs_irii, cs_irir, cs_irri, cs_irrr, cs_riii, cs_riir, cs_riri, cs_rirr, cs_rrii, cs_rrir, cs_rrri, cs_rrrr, hs_1, hs_2, hs_3, hs_4, hs_5, hs_6, hs_7, hs_8, hs_9, hs_10, hs_11, hs_12, hs_13, hs_14, hs_15, hs_16, hs_17, hs_18, hs_19, hs_20, hs_21, hs_22, hs_23, hs_24, hs_25, hs_26, hs_27, hs_28, hs_29, hs_30, hs_31, hs_32, hs_33, hs_34, l1, inb_n, bq4, bq5, n100, not_false_eq_true, isB_0, isB_1, nI_clamp, nI_nneg, Nat.zero_add, Nat.le_refl]; omega)) only [xX8_readWipes_54, xX8_readWipes_55, xX8_readWipes_58, xX8_readWipes_61, xX8_readWipes_62, xX8_readWipes_63, xX8_readWipes_64, xX8_readWipes_67, xX8_readWipes_70, xX8_readWipes_73, xX8_readWipes_74, xX8_readWipes_75, xX8_readWipes_76, xX8_readWipes_79, xX8_readWipes_80, xX8_readWipes_82, xX8_readWipes_85, xX8_readWipes_86, cK_some, ofR_some, ofR_none, Option.toList_some, Option.toList_none, List.cons_append, List.nil_append, isL_i, isL_r, isL_u, isL_2, cs_0, cs_i, cs_r, cs_l, cs_ii, cs_ir, cs_ri, cs_rr, cs_iir, cs_irr, cs_iii, cs_iri, cs_rii, cs_rir, cs_rri, cs_rrr, cs_iiii, cs_iiir, cs_iiri, cs_iirr, cs_irii, cs_irir, cs_irri, cs_irrr, cs_riii, cs_riir, cs_riri, cs_rirr, cs_rrii, cs_rrir, cs_rrri, cs_rrrr, hs_1, hs_2, hs_3, hs_4, hs_5, hs_6, hs_7, hs_8, hs_9, hs_10, hs_11, hs_12, hs_13, hs_14, hs_15, hs_16, hs_17, hs_18, hs_19, hs_20, hs_21, hs_22, hs_23, hs_24, hs_25, hs_26, hs_27, hs_28, hs_29, hs_30, hs_31, hs_32, hs_33, hs_34, A5v, hs_2, hs_10, eFi, l3, hs_8, hadd, bI_1, Nat.add_sub_cancel, Nat.add_zero, Nat.zero_add, nI_lt, nI_nlt, nI_le, nI_ge, nI_pos, pk_sub, nI_clamp, s2_ne, s2_o, s2_s, nI_add, inb_n, nI_nn, zq0, zq1, ↓reduceIte]
        · rw [hzt]; exact H5.2.2.1
        · rw [hzt]
          simp only [F1.2 9 (by decide) (by decide) (by decide) (by decide) (by decide) (by decide), F3.2 9 (by decide) (by decide) (by decide) (by decide) (by decide) (by decide), F5.2 9 (by decide) (by decide) (by decide) (by decide) (by decide) (by decide)]
          exact r1
        · have h := r2 s hs'
          rw [hz u 0 (by omega) (by omega), hz u 1 (by omega) (by omega), hz u 2 (by omega) (by omega), hz u 3 (by omega) (by omega), hz u 4 (by omega) (by omega), hz u 5 (by omega) (by omega)]
          exact h
        · rw [hz (u + 1) 0 (by omega) (by omega)]; exact r3.1
        · rw [hz (u + 1) 1 (by omega) (by omega)]; exact r3.2.1
        · rw [hz (u + 1) 2 (by omega) (by omega)]; exact r3.2.2.1
        · rw [hz (u + 8) 0 (by omega) (by omega)]; exact r3.2.2.2.1
        · rw [hz _ _ (by omega) (by omega), hz _ _ (by omega) (by omega), hz _ _ (by omega) (by omega)]; exact r4 k hk
        · rw [hz _ _ (by omega) (by omega), hz _ _ (by omega) (by omega), hz _ _ (by omega) (by omega)]; exact r5 p hp'
        · rw [hz _ _ (by omega) (by omega), hz _ _ (by omega) (by omega), hz _ _ (by omega) (by omega), hz _ _ (by omega) (by omega), hz _ _ (by omega) (by omega), hz _ _ (by omega) (by omega)]; exact r6 b hb
        · have hF : rF (addStep r (0, v1.1, rFi r v3.1 + v5.1, 0)) i = if i = rSt r then (0, v1.1, rFi r v3.1 + v5.1, 0) else rF r i := rfl
          rw [hF]
          have hi' : i < rSt r + 1 := hi
          refine ⟨?_, ?_, ?_, ?_⟩
          · rw [s2_ne (by omega), s2_ne (by omega), s2_ne (by omega), s2_ne (by omega), hrow _ _ i _ (fun i hi => (r7y i hi).1) hi']
            by_cases ei : i = rSt r
            · rw [if_pos ei, if_pos ei]
            · rw [if_neg ei, if_neg ei]
          · rw [s2_ne (by omega), s2_ne (by omega), s2_ne (by omega), s2_eq, s2_ne (by omega)]
            by_cases ei : i = rSt r
            · rw [if_pos ei, if_pos ei, hW]
            · rw [if_neg ei, if_neg ei]; exact (r7y i (by omega)).2.1
          · rw [s2_ne (by omega), s2_ne (by omega), s2_eq, s2_ne (by omega), s2_ne (by omega)]
            by_cases ei : i = rSt r
            · rw [if_pos ei, if_pos ei, hA]
            · rw [if_neg ei, if_neg ei]; exact (r7y i (by omega)).2.2.1
          · rw [s2_ne (by omega), s2_eq, s2_ne (by omega), s2_ne (by omega), s2_ne (by omega)]
            by_cases ei : i = rSt r
            · rw [if_pos ei, if_pos ei, hB]
            · rw [if_neg ei, if_neg ei]; exact (r7y i (by omega)).2.2.2
        · exact ((((r8).fq F1).fq F3).fq F5).fr (by rw [hzt]) (fun c h1 h2 => by rw [s2_ne (by omega), s2_ne (by omega), s2_ne (by omega), s2_ne (by omega), s2_ne (by omega)])
        · obtain ⟨o1, o2, o3, o4, o5, o6, o7, o8, o9, o10, o11⟩ := ho
          refine ⟨o1, ⟨o2.1, o2.2.1, o2.2.2.1, ?_, o2.2.2.2.2.1, o2.2.2.2.2.2⟩, o3, o4, o5, fun i hi => ?_, o7, o8, o9, o10, fun c => absurd htold (by rw [show r.1 = none from c]; simp)⟩
          · show rSt r + 1 ≤ 12
            omega
          · have hF : rF (addStep r (0, v1.1, rFi r v3.1 + v5.1, 0)) i = if i = rSt r then (0, v1.1, rFi r v3.1 + v5.1, 0) else rF r i := rfl
            rw [hF]
            by_cases ei : i = rSt r
            · rw [if_pos ei]
              show SkOk (rN r) (rP r) (rT r) (0, v1.1, rFi r v3.1 + v5.1, 0)
              exact sk0 n1b (by have h3 := hsz.2.2.1; have h4 := h5e.2.2; omega)
            · rw [if_neg ei]
              have hi' : i < rSt r + 1 := hi
              exact o6 i (by omega)
        · rw [hzt]
          simp only [A1z, A3z, A5z]
        · exact ((((L5.s2 ⟨by omega, by omega⟩ hd).s2 ⟨by omega, by omega⟩ hd).s2 ⟨by omega, by omega⟩ hd).s2 ⟨by omega, by omega⟩ hd).s2 ⟨by omega, by omega⟩ hd
