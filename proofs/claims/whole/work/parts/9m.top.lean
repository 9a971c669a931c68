/-! the class' objects; it is fed -/
def Tp (G : Gm) (x s u : Nat) : Prop := (gT G x = (21, 12) ∧ gR G x 0 = some (x + 1) ∧ gR G x 1 = some s ∧ gR G x 2 = some (x + 171) ∧ gR G x 3 = some (x + 175) ∧ gR G x 4 = some (x + 179) ∧ gR G x 5 = some (x + 258) ∧ gR G x 6 = some (x + 289) ∧ gR G x 7 = some (x + 302) ∧ gR G x 8 = some (x + 325)) ∧ TpL G (x + 1) u ∧ (Sh G s ∧ Pl G s) ∧ (Sh G u ∧ Pl G u) ∧ (s = x + 3 ∧ u = x + 89 ∨ s = x + 89 ∧ u = x + 3) ∧ Sc G (x + 171) ∧ Sc G (x + 175) ∧ Hy G (x + 179) ∧ Wk G (x + 258) ∧ Ch G (x + 289) ∧ NxL G (x + 302) ∧ FiL G (x + 325)
theorem Tp.up {G : Gm} {x s u : Nat} (h : Tp G x s u) : UpL G (x + 1) u := ⟨h.2.1, h.2.2.2.1.1, h.2.2.2.1.2, by have := h.2.2.2.2.1; omega⟩
def fdN (n : Nat) : Nat := if n ≤ 880 then n + 20 else n
def fdT (B : Nat → Nat) (n : Nat) (p : Nat → Int32) : Nat → Nat := if n ≤ 880 then fd20 B n p else B
theorem fd4_20 {B : Nat → Nat} {n : Nat} {p : Nat → Int32} : ∀ k, k < n + 20 → fd4 (fd4 (fd4 (fd4 (fd4 B n (p 0)) (n + 4) (p 1)) (n + 8) (p 2)) (n + 12) (p 3)) (n + 16) (p 4) k = fd20 B n p k := by
  intro k hk
  unfold fd4 fd20
  by_cases c : k < n
  · rw [if_pos (by omega), if_pos (by omega), if_pos (by omega), if_pos (by omega), if_pos c, if_pos c]
  · rw [if_neg c]
    by_cases c4 : k < n + 4
    · rw [if_pos (by omega), if_pos (by omega), if_pos (by omega), if_pos c4, if_neg c, show (k - n) / 4 = 0 by omega, show (k - n) % 4 = k - n by omega]
    · by_cases c8 : k < n + 8
      · rw [if_pos (by omega), if_pos (by omega), if_pos c8, if_neg c4, show (k - n) / 4 = 1 by omega, show (k - n) % 4 = k - (n + 4) by omega, if_neg c]
      · by_cases c12 : k < n + 12
        · rw [if_pos (by omega), if_pos c12, if_neg c8, show (k - n) / 4 = 2 by omega, show (k - n) % 4 = k - (n + 8) by omega, if_neg c]
        · by_cases c16 : k < n + 16
          · rw [if_pos c16, if_neg c12, show (k - n) / 4 = 3 by omega, show (k - n) % 4 = k - (n + 12) by omega, if_neg c]
          · rw [if_neg c16, show (k - n) / 4 = 4 by omega, show (k - n) % 4 = k - (n + 16) by omega, if_neg c]
theorem c_feed {d x s u n : Nat} {p : Nat → Int32} {B : Nat → Nat} {G : Gm} {I : Im} (hT : Tp G x s u) (hV : TaV I (x + 1) 0 (x + 2) n B) :
    ∃ I', run (d + 1) mX11_feed [.ref x, .int (p 0), .int (p 1), .int (p 2), .int (p 3), .int (p 4)] G I = some (some (.int (if n ≤ 880 then nI (n + 20) else -1)), G, I') ∧ TaV I' (x + 1) 0 (x + 2) (fdN n) (fdT B n p) ∧ (∀ c, c ≠ x + 1 → c ≠ x + 2 → I' c = I c) ∧ ∀ j, j ≠ 0 → I' (x + 1) j = I (x + 1) j := by
  obtain ⟨⟨t0, t1, -⟩, hL, -⟩ := hT
  have l1 := hL.1
  obtain ⟨v1, v2, v3⟩ := id hV
  have := True.intro
  unfold fdN fdT
  by_cases c : n ≤ 880
  · have c' : (nI n ≤ nI 880) = True := eq_true (nI_le c (by omega))
    rw [if_pos c, if_pos c, if_pos c]
    obtain ⟨I1, f1, g1, h1, k1⟩ := c_append (d := d) (p := p 0) (n := n) hL hV (by omega)
    obtain ⟨I2, f2, g2, h2, k2⟩ := c_append (d := d) (p := p 1) (n := n + 4) hL g1 (by omega)
    obtain ⟨I3, f3, g3, h3, k3⟩ := c_append (d := d) (p := p 2) (n := n + 8) hL g2 (by omega)
    obtain ⟨I4, f4, g4, h4, k4⟩ := c_append (d := d) (p := p 3) (n := n + 12) hL g3 (by omega)
    obtain ⟨I5, f5, g5, h5, k5⟩ := c_append (d := d) (p := p 4) (n := n + 16) hL g4 (by omega)
    have e5 := g5.1
    refine ⟨I5, ?_, ⟨g5.1, g5.2.1, fun k hk => ?_⟩, fun c a b => by rw [h5 c a b, h4 c a b, h3 c a b, h2 c a b, h1 c a b], fun j a => by rw [k5 j a, k4 j a, k3 j a, k2 j a, k1 j a]⟩
    · simp (disch := first | assumption | (simp (disch := omega) only [cK_some, ofR_some, ofR_none, Option.toList_some, Option.toList_none, List.cons_append, List.nil_append, isL_i, isL_r, isL_u, isL_2, cs_0, cs_i, cs_r, cs_l, cs_ii, cs_ir, cs_ri, cs_rr, cs_iir, cs_irr, cs_iii, cs_iri, cs_rii, cs_rir, cs_rri, cs_rrr, cs_iiii, cs_iiir, cs_iiri, cs_iirr, cs_irii, cs_irir, cs_irri, cs_irrr, cs_riii, cs_riir, cs_riri, cs_rirr, cs_rrii, cs_rrir, cs_rrri, cs_rrrr, t0, l1, inb_n, bq4, bq5, n100, not_false_eq_true, isB_0, isB_1, nI_clamp, nI_nneg, Nat.zero_add, Nat.le_refl]; done) | omega | (simp (disch := omega) only [cK_some, ofR_some, ofR_none, Option.toList_some, Option.toList_none, List.cons_append, List.nil_append, isL_i, isL_r, isL_u, isL_2, cs_0, cs_i, cs_r, cs_l, cs_ii, cs_ir, cs_ri, cs_rr, cs_iir, cs_irr, cs_iii, cs_iri, cs_rii, cs_rir, cs_rri, cs_rrr, cs_iiii, cs_iiir, cs_iiri, cs_iirr, cs_irii, cs_irir, cs_irri, cs_irrr, cs_riii, cs_riir, cs_riri, cs_rirr, cs_rrii, cs_rrir, cs_rrri, cs_rrrr, t0, l1, inb_n, bq4, bq5, n100, not_false_eq_true, isB_0, isB_1, nI_clamp, nI_nneg, Nat.zero_add, Nat.le_refl]; omega)) only [xX11_feed_0, xX11_feed_1, xX11_feed_4, xX11_feed_7, xX11_feed_10, xX11_feed_13, xX11_feed_14, xX11_feed_15, xX11_feed_16, xX11_feed_19, xX11_feed_20, xX11_feed_23, xX11_feed_24, xX11_feed_27, xX11_feed_28, xX11_feed_31, xX11_feed_32, xX11_feed_35, xX11_feed_36, xX11_feed_39, xX11_feed_40, xX11_feed_43, xX11_feed_45, xX11_feed_48, xX11_feed_49, xX11_feed_52, xX11_feed_54, xX11_feed_57, xX11_feed_58, xX11_feed_61, xX11_feed_64, cK_some, ofR_some, ofR_none, Option.toList_some, Option.toList_none, List.cons_append, List.nil_append, isL_i, isL_r, isL_u, isL_2, cs_0, cs_i, cs_r, cs_l, cs_ii, cs_ir, cs_ri, cs_rr, cs_iir, cs_irr, cs_iii, cs_iri, cs_rii, cs_rir, cs_rri, cs_rrr, cs_iiii, cs_iiir, cs_iiri, cs_iirr, cs_irii, cs_irir, cs_irri, cs_irrr, cs_riii, cs_riir, cs_riri, cs_rirr, cs_rrii, cs_rrir, cs_rrri, cs_rrrr, rX11_feed, t1, v1, c', f1, f2, f3, f4, f5, e5, Nat.add_sub_cancel, Nat.add_zero, Nat.zero_add, nI_lt, nI_nlt, nI_le, nI_ge, nI_pos, pk_sub, nI_clamp, s2_ne, s2_o, s2_s, nI_add, inb_n, nI_nn, zq0, zq1, ↓reduceIte]
    · rw [← fd4_20 k hk]
      exact g5.2.2 k hk
  · have c' : (nI n ≤ nI 880) = False := eq_false (nI_ge (by omega) (by omega))
    rw [if_neg c, if_neg c, if_neg c]
    refine ⟨I, ?_, hV, fun _ _ _ => rfl, fun _ _ => rfl⟩
    simp (disch := first | assumption | (simp (disch := omega) only [cK_some, ofR_some, ofR_none, Option.toList_some, Option.toList_none, List.cons_append, List.nil_append, isL_i, isL_r, isL_u, isL_2, cs_0, cs_i, cs_r, cs_l, cs_ii, cs_ir, cs_ri, cs_rr, cs_iir, cs_irr, cs_iii, cs_iri, cs_rii, cs_rir, cs_rri, cs_rrr, cs_iiii, cs_iiir, cs_iiri, cs_iirr, cs_irii, cs_irir, cs_irri, cs_irrr, cs_riii, cs_riir, cs_riri, cs_rirr, cs_rrii, cs_rrir, cs_rrri, cs_rrrr, t0, l1, inb_n, bq4, bq5, n100, not_false_eq_true, isB_0, isB_1, nI_clamp, nI_nneg, Nat.zero_add, Nat.le_refl]; done) | omega | (simp (disch := omega) only [cK_some, ofR_some, ofR_none, Option.toList_some, Option.toList_none, List.cons_append, List.nil_append, isL_i, isL_r, isL_u, isL_2, cs_0, cs_i, cs_r, cs_l, cs_ii, cs_ir, cs_ri, cs_rr, cs_iir, cs_irr, cs_iii, cs_iri, cs_rii, cs_rir, cs_rri, cs_rrr, cs_iiii, cs_iiir, cs_iiri, cs_iirr, cs_irii, cs_irir, cs_irri, cs_irrr, cs_riii, cs_riir, cs_riri, cs_rirr, cs_rrii, cs_rrir, cs_rrri, cs_rrrr, t0, l1, inb_n, bq4, bq5, n100, not_false_eq_true, isB_0, isB_1, nI_clamp, nI_nneg, Nat.zero_add, Nat.le_refl]; omega)) only [xX11_feed_0, xX11_feed_1, xX11_feed_4, xX11_feed_7, xX11_feed_10, xX11_feed_13, xX11_feed_14, xX11_feed_15, xX11_feed_16, xX11_feed_19, xX11_feed_20, xX11_feed_23, xX11_feed_24, xX11_feed_27, xX11_feed_28, xX11_feed_31, xX11_feed_32, xX11_feed_35, xX11_feed_36, xX11_feed_39, xX11_feed_40, xX11_feed_43, xX11_feed_45, xX11_feed_48, xX11_feed_49, xX11_feed_52, xX11_feed_54, xX11_feed_57, xX11_feed_58, xX11_feed_61, xX11_feed_64, cK_some, ofR_some, ofR_none, Option.toList_some, Option.toList_none, List.cons_append, List.nil_append, isL_i, isL_r, isL_u, isL_2, cs_0, cs_i, cs_r, cs_l, cs_ii, cs_ir, cs_ri, cs_rr, cs_iir, cs_irr, cs_iii, cs_iri, cs_rii, cs_rir, cs_rri, cs_rrr, cs_iiii, cs_iiir, cs_iiri, cs_iirr, cs_irii, cs_irir, cs_irri, cs_irrr, cs_riii, cs_riir, cs_riri, cs_rirr, cs_rrii, cs_rrir, cs_rrri, cs_rrrr, rX11_feed, t1, v1, c', Nat.add_sub_cancel, Nat.add_zero, Nat.zero_add, nI_lt, nI_nlt, nI_le, nI_ge, nI_pos, pk_sub, nI_clamp, s2_ne, s2_o, s2_s, nI_add, inb_n, nI_nn, zq0, zq1, ↓reduceIte]
