/-! the model's led; the world behind led -/
theorem s2_s2 {f : Im} {a k : Nat} {u v : Int32} : s2 (s2 f a k u) a k v = s2 f a k v := by
  funext b j
  by_cases e : b = a
  · subst e
    by_cases e2 : j = k
    · subst e2; rw [s2_s, s2_s]
    · rw [s2_o e2, s2_o e2, s2_o e2]
  · rw [s2_ne e, s2_ne e, s2_ne e]
theorem m_ledL {d m S N : Nat} {z : Int32} {f : Nat → Bool} {G : Gm} {I : Im} (l1 : gT G m = (23, 32)) (l3 : gR G m 3 = some S) (lS : gT G S = (22, 31)) (iN : I S 8 = nI N) (hN : N ≤ 6) (hdry : ∀ b, b < N → run d mX13_isDry [.ref m, .int (nI 0), .int (nI b)] G I = some (some (.int (if f b = true then nI 1 else nI 0)), G, I)) :
    ∀ n b cn, b + n = N → cn ≤ b → ex (d + 1) mX13_led 9 [.val (.ref m), .val (.int z), .val (.int (nI cn)), .val (.int (nI b))] [] G I = (match ledG f z n b cn with
      | some b' => some (some (.int (nI b')), G, I)
      | none => some (some (.int (nI 0)), G, s2 I m 0 (nI 1))) := by
  intro n
  induction n with
  | zero =>
    intro b cn hb hc
    have e1 : b = N := by omega
    rw [e1]
    show _ = some (some (Value.int (nI 0)), G, s2 I m 0 (nI 1))
    have := True.intro
    simp (disch := first | assumption | (simp (disch := omega) only [cK_some, ofR_some, ofR_none, Option.toList_some, Option.toList_none, List.cons_append, List.nil_append, isL_i, isL_r, isL_u, isL_2, cs_0, cs_i, cs_r, cs_l, cs_ii, cs_ir, cs_ri, cs_rr, cs_iir, cs_irr, cs_iii, cs_iri, cs_rii, cs_rir, cs_rri, cs_rrr, cs_iiii, cs_iiir, cs_iiri, cs_iirr, cs_irii, cs_irir, cs_irri, cs_irrr, cs_riii, cs_riir, cs_riri, cs_rirr, cs_rrii, cs_rrir, cs_rrri, cs_rrrr, l1, lS, inb_n, bq4, bq5, n100, not_false_eq_true, isB_0, isB_1, nI_clamp, nI_nneg, Nat.zero_add, Nat.le_refl]; done) | omega | (simp (disch := omega) only [cK_some, ofR_some, ofR_none, Option.toList_some, Option.toList_none, List.cons_append, List.nil_append, isL_i, isL_r, isL_u, isL_2, cs_0, cs_i, cs_r, cs_l, cs_ii, cs_ir, cs_ri, cs_rr, cs_iir, cs_irr, cs_iii, cs_iri, cs_rii, cs_rir, cs_rri, cs_rrr, cs_iiii, cs_iiir, cs_iiri, cs_iirr, cs_irii, cs_irir, cs_irri, cs_irrr, cs_riii, cs_riir, cs_riri, cs_rirr, cs_rrii, cs_rrir, cs_rrri, cs_rrrr, l1, lS, inb_n, bq4, bq5, n100, not_false_eq_true, isB_0, isB_1, nI_clamp, nI_nneg, Nat.zero_add, Nat.le_refl]; omega)) only [xX13_led_0, xX13_led_1, xX13_led_2, xX13_led_5, xX13_led_6, xX13_led_7, xX13_led_8, xX13_led_9, xX13_led_10, xX13_led_13r, xX13_led_13n, xX13_led_16, xX13_led_17, xX13_led_18, xX13_led_21, xX13_led_24, xX13_led_27, xX13_led_28, xX13_led_29, xX13_led_30, xX13_led_33, xX13_led_36, xX13_led_39, xX13_led_40, xX13_led_41, xX13_led_44, xX13_led_45, xX13_led_46, xX13_led_49, xX13_led_55, xX13_led_56, xX13_led_57, xX13_led_60, xX13_led_61, cK_some, ofR_some, ofR_none, Option.toList_some, Option.toList_none, List.cons_append, List.nil_append, isL_i, isL_r, isL_u, isL_2, cs_0, cs_i, cs_r, cs_l, cs_ii, cs_ir, cs_ri, cs_rr, cs_iir, cs_irr, cs_iii, cs_iri, cs_rii, cs_rir, cs_rri, cs_rrr, cs_iiii, cs_iiir, cs_iiri, cs_iirr, cs_irii, cs_irir, cs_irri, cs_irrr, cs_riii, cs_riir, cs_riri, cs_rirr, cs_rrii, cs_rrir, cs_rrri, cs_rrrr, l3, iN, Nat.add_sub_cancel, Nat.add_zero, Nat.zero_add, nI_lt, nI_nlt, nI_le, nI_ge, nI_pos, pk_sub, nI_clamp, s2_ne, s2_o, s2_s, nI_add, inb_n, nI_nn, zq0, zq1, ↓reduceIte]
  | succ n ih =>
    intro b cn hb hc
    have hd := hdry b (by omega)
    have hG : ledG f z (n + 1) b cn = if f b = true then ledG f z n (b + 1) cn else if nI cn = z then some b else ledG f z n (b + 1) (cn + 1) := rfl
    rw [hG]
    have hbN : b < N := by omega
    have n10 : (nI 1 = 0) = False := by decide
    have n00 : (nI 0 = 0) = True := by decide
    cases hf : f b with
    | true =>
      rw [hf, if_pos rfl] at hd
      rw [if_pos rfl]
      have := True.intro
      have h1 : ex (d + 1) mX13_led 9 [.val (.ref m), .val (.int z), .val (.int (nI cn)), .val (.int (nI b))] [] G I = ex (d + 1) mX13_led 52 [.val (.ref m), .val (.int z), .val (.int (nI cn)), .val (.int (nI (b + 1)))] [] G I := by
        simp (disch := first | assumption | (simp (disch := omega) only [cK_some, ofR_some, ofR_none, Option.toList_some, Option.toList_none, List.cons_append, List.nil_append, isL_i, isL_r, isL_u, isL_2, cs_0, cs_i, cs_r, cs_l, cs_ii, cs_ir, cs_ri, cs_rr, cs_iir, cs_irr, cs_iii, cs_iri, cs_rii, cs_rir, cs_rri, cs_rrr, cs_iiii, cs_iiir, cs_iiri, cs_iirr, cs_irii, cs_irir, cs_irri, cs_irrr, cs_riii, cs_riir, cs_riri, cs_rirr, cs_rrii, cs_rrir, cs_rrri, cs_rrrr, l1, lS, inb_n, bq4, bq5, n100, not_false_eq_true, isB_0, isB_1, nI_clamp, nI_nneg, Nat.zero_add, Nat.le_refl]; done) | omega | (simp (disch := omega) only [cK_some, ofR_some, ofR_none, Option.toList_some, Option.toList_none, List.cons_append, List.nil_append, isL_i, isL_r, isL_u, isL_2, cs_0, cs_i, cs_r, cs_l, cs_ii, cs_ir, cs_ri, cs_rr, cs_iir, cs_irr, cs_iii, cs_iri, cs_rii, cs_rir, cs_rri, cs_rrr, cs_iiii, cs_iiir, cs_iiri, cs_iirr, cs_irii, cs_irir, cs_irri, cs_irrr, cs_riii, cs_riir, cs_riri, cs_rirr, cs_rrii, cs_rrir, cs_rrri, cs_rrrr, l1, lS, inb_n, bq4, bq5, n100, not_false_eq_true, isB_0, isB_1, nI_clamp, nI_nneg, Nat.zero_add, Nat.le_refl]; omega)) only [xX13_led_0, xX13_led_1, xX13_led_2, xX13_led_5, xX13_led_6, xX13_led_7, xX13_led_8, xX13_led_9, xX13_led_10, xX13_led_13r, xX13_led_13n, xX13_led_16, xX13_led_17, xX13_led_18, xX13_led_21, xX13_led_24, xX13_led_27, xX13_led_28, xX13_led_29, xX13_led_30, xX13_led_33, xX13_led_36, xX13_led_39, xX13_led_40, xX13_led_41, xX13_led_44, xX13_led_45, xX13_led_46, xX13_led_49, cK_some, ofR_some, ofR_none, Option.toList_some, Option.toList_none, List.cons_append, List.nil_append, isL_i, isL_r, isL_u, isL_2, cs_0, cs_i, cs_r, cs_l, cs_ii, cs_ir, cs_ri, cs_rr, cs_iir, cs_irr, cs_iii, cs_iri, cs_rii, cs_rir, cs_rri, cs_rrr, cs_iiii, cs_iiir, cs_iiri, cs_iirr, cs_irii, cs_irir, cs_irri, cs_irrr, cs_riii, cs_riir, cs_riri, cs_rirr, cs_rrii, cs_rrir, cs_rrri, cs_rrrr, l3, iN, hd, n10, Nat.add_sub_cancel, Nat.add_zero, Nat.zero_add, nI_lt, nI_nlt, nI_le, nI_ge, nI_pos, pk_sub, nI_clamp, s2_ne, s2_o, s2_s, nI_add, inb_n, nI_nn, zq0, zq1, ↓reduceIte]
      rw [h1, xX13_led_52]
      exact ih (b + 1) cn (by omega) (by omega)
    | false =>
      rw [hf, if_neg (by decide)] at hd
      rw [if_neg (by decide)]
      by_cases hz : nI cn = z
      · rw [if_pos hz]
        have hz' : (nI cn = z) = True := eq_true hz
        show _ = some (some (Value.int (nI b)), G, I)
        have := True.intro
        simp (disch := first | assumption | (simp (disch := omega) only [cK_some, ofR_some, ofR_none, Option.toList_some, Option.toList_none, List.cons_append, List.nil_append, isL_i, isL_r, isL_u, isL_2, cs_0, cs_i, cs_r, cs_l, cs_ii, cs_ir, cs_ri, cs_rr, cs_iir, cs_irr, cs_iii, cs_iri, cs_rii, cs_rir, cs_rri, cs_rrr, cs_iiii, cs_iiir, cs_iiri, cs_iirr, cs_irii, cs_irir, cs_irri, cs_irrr, cs_riii, cs_riir, cs_riri, cs_rirr, cs_rrii, cs_rrir, cs_rrri, cs_rrrr, l1, lS, inb_n, bq4, bq5, n100, not_false_eq_true, isB_0, isB_1, nI_clamp, nI_nneg, Nat.zero_add, Nat.le_refl]; done) | omega | (simp (disch := omega) only [cK_some, ofR_some, ofR_none, Option.toList_some, Option.toList_none, List.cons_append, List.nil_append, isL_i, isL_r, isL_u, isL_2, cs_0, cs_i, cs_r, cs_l, cs_ii, cs_ir, cs_ri, cs_rr, cs_iir, cs_irr, cs_iii, cs_iri, cs_rii, cs_rir, cs_rri, cs_rrr, cs_iiii, cs_iiir, cs_iiri, cs_iirr, cs_irii, cs_irir, cs_irri, cs_irrr, cs_riii, cs_riir, cs_riri, cs_rirr, cs_rrii, cs_rrir, cs_rrri, cs_rrrr, l1, lS, inb_n, bq4, bq5, n100, not_false_eq_true, isB_0, isB_1, nI_clamp, nI_nneg, Nat.zero_add, Nat.le_refl]; omega)) only [xX13_led_0, xX13_led_1, xX13_led_2, xX13_led_5, xX13_led_6, xX13_led_7, xX13_led_8, xX13_led_9, xX13_led_10, xX13_led_13r, xX13_led_13n, xX13_led_16, xX13_led_17, xX13_led_18, xX13_led_21, xX13_led_24, xX13_led_27, xX13_led_28, xX13_led_29, xX13_led_30, xX13_led_33, xX13_led_36, xX13_led_39, xX13_led_40, xX13_led_41, xX13_led_44, xX13_led_45, xX13_led_46, xX13_led_49, cK_some, ofR_some, ofR_none, Option.toList_some, Option.toList_none, List.cons_append, List.nil_append, isL_i, isL_r, isL_u, isL_2, cs_0, cs_i, cs_r, cs_l, cs_ii, cs_ir, cs_ri, cs_rr, cs_iir, cs_irr, cs_iii, cs_iri, cs_rii, cs_rir, cs_rri, cs_rrr, cs_iiii, cs_iiir, cs_iiri, cs_iirr, cs_irii, cs_irir, cs_irri, cs_irrr, cs_riii, cs_riir, cs_riri, cs_rirr, cs_rrii, cs_rrir, cs_rrri, cs_rrrr, l3, iN, hd, n00, hz', Nat.add_sub_cancel, Nat.add_zero, Nat.zero_add, nI_lt, nI_nlt, nI_le, nI_ge, nI_pos, pk_sub, nI_clamp, s2_ne, s2_o, s2_s, nI_add, inb_n, nI_nn, zq0, zq1, ↓reduceIte]
      · rw [if_neg hz]
        have hz' : (nI cn = z) = False := eq_false hz
        have := True.intro
        have h1 : ex (d + 1) mX13_led 9 [.val (.ref m), .val (.int z), .val (.int (nI cn)), .val (.int (nI b))] [] G I = ex (d + 1) mX13_led 52 [.val (.ref m), .val (.int z), .val (.int (nI (cn + 1))), .val (.int (nI (b + 1)))] [] G I := by
          simp (disch := first | assumption | (simp (disch := omega) only [cK_some, ofR_some, ofR_none, Option.toList_some, Option.toList_none, List.cons_append, List.nil_append, isL_i, isL_r, isL_u, isL_2, cs_0, cs_i, cs_r, cs_l, cs_ii, cs_ir, cs_ri, cs_rr, cs_iir, cs_irr, cs_iii, cs_iri, cs_rii, cs_rir, cs_rri, cs_rrr, cs_iiii, cs_iiir, cs_iiri, cs_iirr, cs_irii, cs_irir, cs_irri, cs_irrr, cs_riii, cs_riir, cs_riri, cs_rirr, cs_rrii, cs_rrir, cs_rrri, cs_rrrr, l1, lS, inb_n, bq4, bq5, n100, not_false_eq_true, isB_0, isB_1, nI_clamp, nI_nneg, Nat.zero_add, Nat.le_refl]; done) | omega | (simp (disch := omega) only [cK_some, ofR_some, ofR_none, Option.toList_some, Option.toList_none, List.cons_append, List.nil_append, isL_i, isL_r, isL_u, isL_2, cs_0, cs_i, cs_r, cs_l, cs_ii, cs_ir, cs_ri, cs_rr, cs_iir, cs_irr, cs_iii, cs_iri, cs_rii, cs_rir, cs_rri, cs_rrr, cs_iiii, cs_iiir, cs_iiri, cs_iirr, cs_irii, cs_irir, cs_irri, cs_irrr, cs_riii, cs_riir, cs_riri, cs_rirr, cs_rrii, cs_rrir, cs_rrri, cs_rrrr, l1, lS, inb_n, bq4, bq5, n100, not_false_eq_true, isB_0, isB_1, nI_clamp, nI_nneg, Nat.zero_add, Nat.le_refl]; omega)) only [xX13_led_0, xX13_led_1, xX13_led_2, xX13_led_5, xX13_led_6, xX13_led_7, xX13_led_8, xX13_led_9, xX13_led_10, xX13_led_13r, xX13_led_13n, xX13_led_16, xX13_led_17, xX13_led_18, xX13_led_21, xX13_led_24, xX13_led_27, xX13_led_28, xX13_led_29, xX13_led_30, xX13_led_33, xX13_led_36, xX13_led_39, xX13_led_40, xX13_led_41, xX13_led_44, xX13_led_45, xX13_led_46, xX13_led_49, cK_some, ofR_some, ofR_none, Option.toList_some, Option.toList_none, List.cons_append, List.nil_append, isL_i, isL_r, isL_u, isL_2, cs_0, cs_i, cs_r, cs_l, cs_ii, cs_ir, cs_ri, cs_rr, cs_iir, cs_irr, cs_iii, cs_iri, cs_rii, cs_rir, cs_rri, cs_rrr, cs_iiii, cs_iiir, cs_iiri, cs_iirr, cs_irii, cs_irir, cs_irri, cs_irrr, cs_riii, cs_riir, cs_riri, cs_rirr, cs_rrii, cs_rrir, cs_rrri, cs_rrrr, l3, iN, hd, n00, hz', Nat.add_sub_cancel, Nat.add_zero, Nat.zero_add, nI_lt, nI_nlt, nI_le, nI_ge, nI_pos, pk_sub, nI_clamp, s2_ne, s2_o, s2_s, nI_add, inb_n, nI_nn, zq0, zq1, ↓reduceIte]
        rw [h1, xX13_led_52]
        exact ih (b + 1) (cn + 1) (by omega) (by omega)
theorem m_thrown {d m : Nat} {G : Gm} {I : Im} (l1 : gT G m = (23, 32)) : run d mX13_thrown [.ref m] G I = some (some (.int (I m 0)), G, I) := by
  have := True.intro
  simp (disch := first | assumption | (simp (disch := omega) only [cK_some, ofR_some, ofR_none, Option.toList_some, Option.toList_none, List.cons_append, List.nil_append, isL_i, isL_r, isL_u, isL_2, cs_0, cs_i, cs_r, cs_l, cs_ii, cs_ir, cs_ri, cs_rr, cs_iir, cs_irr, cs_iii, cs_iri, cs_rii, cs_rir, cs_rri, cs_rrr, cs_iiii, cs_iiir, cs_iiri, cs_iirr, cs_irii, cs_irir, cs_irri, cs_irrr, cs_riii, cs_riir, cs_riri, cs_rirr, cs_rrii, cs_rrir, cs_rrri, cs_rrrr, l1, inb_n, bq4, bq5, n100, not_false_eq_true, isB_0, isB_1, nI_clamp, nI_nneg, Nat.zero_add, Nat.le_refl]; done) | omega | (simp (disch := omega) only [cK_some, ofR_some, ofR_none, Option.toList_some, Option.toList_none, List.cons_append, List.nil_append, isL_i, isL_r, isL_u, isL_2, cs_0, cs_i, cs_r, cs_l, cs_ii, cs_ir, cs_ri, cs_rr, cs_iir, cs_irr, cs_iii, cs_iri, cs_rii, cs_rir, cs_rri, cs_rrr, cs_iiii, cs_iiir, cs_iiri, cs_iirr, cs_irii, cs_irir, cs_irri, cs_irrr, cs_riii, cs_riir, cs_riri, cs_rirr, cs_rrii, cs_rrir, cs_rrri, cs_rrrr, l1, inb_n, bq4, bq5, n100, not_false_eq_true, isB_0, isB_1, nI_clamp, nI_nneg, Nat.zero_add, Nat.le_refl]; omega)) only [xX13_thrown_0, xX13_thrown_1, xX13_thrown_4, cK_some, ofR_some, ofR_none, Option.toList_some, Option.toList_none, List.cons_append, List.nil_append, isL_i, isL_r, isL_u, isL_2, cs_0, cs_i, cs_r, cs_l, cs_ii, cs_ir, cs_ri, cs_rr, cs_iir, cs_irr, cs_iii, cs_iri, cs_rii, cs_rir, cs_rri, cs_rrr, cs_iiii, cs_iiir, cs_iiri, cs_iirr, cs_irii, cs_irir, cs_irri, cs_irrr, cs_riii, cs_riir, cs_riri, cs_rirr, cs_rrii, cs_rrir, cs_rrri, cs_rrrr, rX13_thrown, Nat.add_sub_cancel, Nat.add_zero, Nat.zero_add, nI_lt, nI_nlt, nI_le, nI_ge, nI_pos, pk_sub, nI_clamp, s2_ne, s2_o, s2_s, nI_add, inb_n, nI_nn, zq0, zq1, ↓reduceIte]
theorem MoW.upd {G G' : Gm} {I : Im} {o : Option Gh} (h : MoW G I 339 o) (hB : MoB G 339) (hn : 352 ≤ gN G) (hN : gN G ≤ gN G') (e : ∀ c, c < gN G → gT G' c = gT G c ∧ gR G' c = gR G c) : MoB G' 339 ∧ MoW G' I 339 o := by
  have hB' : MoB G' 339 := hB.fr (fun c _ h => (e c (by omega)).1) (fun j _ _ => by rw [(e 339 (by omega)).2])
  exact ⟨hB', h.g hB' (by rw [(e 339 (by omega)).2]) hN (fun c _ h => e c h) (fun _ _ _ => rfl) (fun _ _ => rfl) (by omega)⟩
theorem led_both {x : Cx} {G : Gm} {I : Im} {k : Nat} {z : Int32} (W : Wd G I 0 k) : ∃ sh N f, LdF x G I sh N f ∧ ∀ G', (∀ c, c < gN G → gT G' c = gT G c ∧ gR G' c = gR G c) → gN G ≤ gN G' → run 12 mX13_led [.ref 339, .int z] G' I = (match ledG f z N 0 0 with
      | some b => some (some (.int (nI b)), G', s2 I 339 0 (nI 0))
      | none => some (some (.int (nI 0)), G', s2 I 339 0 (nI 1))) := by
  obtain ⟨s, u, nn, B, o, hT, hB, ⟨c0, c1, -, -⟩, hV, hV2, hTr, hC, hM, hk⟩ := W
  have hB : MoB G 339 := hB
  have hM : MoW G I 339 o := hM
  have hcnt := hC.cnt
  obtain ⟨hT1, -, ⟨hS, -⟩, -, -, hSc, -⟩ := id hT
  have base : ∀ f, (∀ b, b < nB o → run 0 mX6_isDry [.ref 171, .ref s, .int (nI b)] G I = some (some (.int (bI (f b))), G, I)) → LdF x G I s (nB o) f := fun f hf => ⟨hT1.1, hT1.2.2.1, hT1.2.2.2.1, hS.1, hS.2.2.1, hS.2.2.2.2.2.2.2.1.1, hcnt.2.1, hSc.1, hcnt.1.1, hf⟩
  cases o with
  | none =>
    refine ⟨s, 0, fun _ => true, base _ (fun b hb => absurd hb (Nat.not_lt_zero b)), fun G' e hN => ?_⟩
    show _ = some (some (Value.int (nI 0)), G', s2 I 339 0 (nI 1))
    obtain ⟨hB', hM'⟩ := hM.upd hB (by omega) hN e
    have l1 := hB'.1
    have l3 := hM'.1
    have h1 : run 12 mX13_led [.ref 339, .int z] G' I = some (some (Value.int (nI 0)), G', s2 (s2 I 339 0 (nI 0)) 339 0 (nI 1)) := by
      have := True.intro
      simp (disch := first | assumption | (simp (disch := omega) only [cK_some, ofR_some, ofR_none, Option.toList_some, Option.toList_none, List.cons_append, List.nil_append, isL_i, isL_r, isL_u, isL_2, cs_0, cs_i, cs_r, cs_l, cs_ii, cs_ir, cs_ri, cs_rr, cs_iir, cs_irr, cs_iii, cs_iri, cs_rii, cs_rir, cs_rri, cs_rrr, cs_iiii, cs_iiir, cs_iiri, cs_iirr, cs_irii, cs_irir, cs_irri, cs_irrr, cs_riii, cs_riir, cs_riri, cs_rirr, cs_rrii, cs_rrir, cs_rrri, cs_rrrr, l1, inb_n, bq4, bq5, n100, not_false_eq_true, isB_0, isB_1, nI_clamp, nI_nneg, Nat.zero_add, Nat.le_refl]; done) | omega | (simp (disch := omega) only [cK_some, ofR_some, ofR_none, Option.toList_some, Option.toList_none, List.cons_append, List.nil_append, isL_i, isL_r, isL_u, isL_2, cs_0, cs_i, cs_r, cs_l, cs_ii, cs_ir, cs_ri, cs_rr, cs_iir, cs_irr, cs_iii, cs_iri, cs_rii, cs_rir, cs_rri, cs_rrr, cs_iiii, cs_iiir, cs_iiri, cs_iirr, cs_irii, cs_irir, cs_irri, cs_irrr, cs_riii, cs_riir, cs_riri, cs_rirr, cs_rrii, cs_rrir, cs_rrri, cs_rrrr, l1, inb_n, bq4, bq5, n100, not_false_eq_true, isB_0, isB_1, nI_clamp, nI_nneg, Nat.zero_add, Nat.le_refl]; omega)) only [xX13_led_0, xX13_led_1, xX13_led_2, xX13_led_5, xX13_led_6, xX13_led_7, xX13_led_8, xX13_led_9, xX13_led_10, xX13_led_13r, xX13_led_13n, xX13_led_55, xX13_led_56, xX13_led_57, xX13_led_60, xX13_led_61, cK_some, ofR_some, ofR_none, Option.toList_some, Option.toList_none, List.cons_append, List.nil_append, isL_i, isL_r, isL_u, isL_2, cs_0, cs_i, cs_r, cs_l, cs_ii, cs_ir, cs_ri, cs_rr, cs_iir, cs_irr, cs_iii, cs_iri, cs_rii, cs_rir, cs_rri, cs_rrr, cs_iiii, cs_iiir, cs_iiri, cs_iirr, cs_irii, cs_irir, cs_irri, cs_irrr, cs_riii, cs_riir, cs_riri, cs_rirr, cs_rrii, cs_rrir, cs_rrri, cs_rrrr, rX13_led, l3, Nat.add_sub_cancel, Nat.add_zero, Nat.zero_add, nI_lt, nI_nlt, nI_le, nI_ge, nI_pos, pk_sub, nI_clamp, s2_ne, s2_o, s2_s, nI_add, inb_n, nI_nn, zq0, zq1, ↓reduceIte]
    rw [h1, s2_s2]
  | some g =>
    have K := hC.ct
    obtain ⟨ha, hs, hd, hv, ho, hq, hqo⟩ := K
    refine ⟨s, nB (some g), fun b => decide (qD (gQ g) b ≤ hWant (gH g) b), base _ (fun b hb => ?_), fun G' e hN => ?_⟩
    · rw [bI_ite (p := qD (gQ g) b ≤ hWant (gH g) b) rfl]
      exact rn_isDry ha hs hv ho hq hqo hb
    · obtain ⟨hB', hM'⟩ := hM.upd hB (by omega) hN e
      have l1 := hB'.1
      have hM2 := hM'.f (j := 0) (z := nI 0) (by decide) (by decide)
      obtain ⟨S, l3, K⟩ := hM2.mt
      have lS := K.2.1.1
      have iN := K.2.2.2.1.1.1
      have hb6 := hcnt.1.1
      have h2 := m_ledL (d := 11) (z := z) (f := fun b => decide (qD (gQ g) b ≤ hWant (gH g) b)) l1 l3 lS iN hb6 (fun b hb => by
        rw [mo_isDry K hb]
        by_cases c : qD (gQ g) b ≤ hWant (gH g) b
        · rw [if_pos c, if_pos (decide_eq_true c)]
        · rw [if_neg c, if_neg (by rw [decide_eq_false c]; decide)]) _ 0 0 (Nat.zero_add _) (Nat.le_refl _)
      have h1 : run 12 mX13_led [.ref 339, .int z] G' I = ex (11 + 1) mX13_led 9 [.val (.ref 339), .val (.int z), .val (.int (nI 0)), .val (.int (nI 0))] [] G' (s2 I 339 0 (nI 0)) := by
        have := True.intro
        simp (disch := first | assumption | (simp (disch := omega) only [cK_some, ofR_some, ofR_none, Option.toList_some, Option.toList_none, List.cons_append, List.nil_append, isL_i, isL_r, isL_u, isL_2, cs_0, cs_i, cs_r, cs_l, cs_ii, cs_ir, cs_ri, cs_rr, cs_iir, cs_irr, cs_iii, cs_iri, cs_rii, cs_rir, cs_rri, cs_rrr, cs_iiii, cs_iiir, cs_iiri, cs_iirr, cs_irii, cs_irir, cs_irri, cs_irrr, cs_riii, cs_riir, cs_riri, cs_rirr, cs_rrii, cs_rrir, cs_rrri, cs_rrrr, l1, inb_n, bq4, bq5, n100, not_false_eq_true, isB_0, isB_1, nI_clamp, nI_nneg, Nat.zero_add, Nat.le_refl]; done) | omega | (simp (disch := omega) only [cK_some, ofR_some, ofR_none, Option.toList_some, Option.toList_none, List.cons_append, List.nil_append, isL_i, isL_r, isL_u, isL_2, cs_0, cs_i, cs_r, cs_l, cs_ii, cs_ir, cs_ri, cs_rr, cs_iir, cs_irr, cs_iii, cs_iri, cs_rii, cs_rir, cs_rri, cs_rrr, cs_iiii, cs_iiir, cs_iiri, cs_iirr, cs_irii, cs_irir, cs_irri, cs_irrr, cs_riii, cs_riir, cs_riri, cs_rirr, cs_rrii, cs_rrir, cs_rrri, cs_rrrr, l1, inb_n, bq4, bq5, n100, not_false_eq_true, isB_0, isB_1, nI_clamp, nI_nneg, Nat.zero_add, Nat.le_refl]; omega)) only [xX13_led_0, xX13_led_1, xX13_led_2, xX13_led_5, xX13_led_6, xX13_led_7, xX13_led_8, cK_some, ofR_some, ofR_none, Option.toList_some, Option.toList_none, List.cons_append, List.nil_append, isL_i, isL_r, isL_u, isL_2, cs_0, cs_i, cs_r, cs_l, cs_ii, cs_ir, cs_ri, cs_rr, cs_iir, cs_irr, cs_iii, cs_iri, cs_rii, cs_rir, cs_rri, cs_rrr, cs_iiii, cs_iiir, cs_iiri, cs_iirr, cs_irii, cs_irir, cs_irri, cs_irrr, cs_riii, cs_riir, cs_riri, cs_rirr, cs_rrii, cs_rrir, cs_rrri, cs_rrrr, rX13_led, Nat.add_sub_cancel, Nat.add_zero, Nat.zero_add, nI_lt, nI_nlt, nI_le, nI_ge, nI_pos, pk_sub, nI_clamp, s2_ne, s2_o, s2_s, nI_add, inb_n, nI_nn, zq0, zq1, ↓reduceIte]
      rw [h1, h2]
      show (match ledG _ z (nB (some g)) 0 0 with | some b => some (some (Value.int (nI b)), G', s2 I 339 0 (nI 0)) | none => some (some (Value.int (nI 0)), G', s2 (s2 I 339 0 (nI 0)) 339 0 (nI 1))) = _
      rw [s2_s2]
theorem Wd.upd {G G' : Gm} {I : Im} {k : Nat} {z : Int32} (W : Wd G I 0 k) (e : ∀ c, c < gN G → gT G' c = gT G c ∧ gR G' c = gR G c) (hN : gN G ≤ gN G') (hN1 : gN G' ≤ gN G + 1) (hS1 : gS G' ≤ gS G + 6) : Wd G' (s2 I 339 0 z) 0 (k + 1) := by
  have W1 := W.idle (z := z)
  obtain ⟨_, _, _, _, _, -, -, ⟨-, b1, b2, b3⟩, -⟩ := W
  obtain ⟨s, u, nn, B, o, hT, hB, ⟨c0, c1, -, -⟩, hV, hV2, hTr, hC, hM, hk⟩ := W1
  have q : Gq G G' 0 (0 + 338) := fun c _ h => e c (by omega)
  have hB : MoB G 339 := hB
  obtain ⟨hB', hM'⟩ := MoW.upd hM hB (by omega) hN e
  exact ⟨s, u, nn, B, o, hT.g q, hB', ⟨by rw [(e _ (by omega)).1]; exact c0, by omega, by omega, by omega⟩, hV, hV2, hTr, hC.g hT (q.m (by omega) (by omega)), hM', hk⟩
