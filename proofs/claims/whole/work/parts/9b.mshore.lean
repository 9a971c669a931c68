/-! the model reads the shore line -/
def sh1 (B : Nat → Nat) (e : Nat) (y0 : Er ⊕ Nat) : Er ⊕ (Nat × Nat) := ptP B e 9 1 50 y0
def sh2 (B : Nat → Nat) (e : Nat) (y0 : Er ⊕ Nat) : Er ⊕ (Nat × Nat) := ptP B e 10 0 9 (stN (sh1 B e y0))
def sh3 (B : Nat → Nat) (e : Nat) (y0 : Er ⊕ Nat) : Er ⊕ (Nat × Nat) := ptP B e 11 0 99 (stN (sh2 B e y0))
def sh4 (B : Nat → Nat) (e : Nat) (y0 : Er ⊕ Nat) : Er ⊕ (Nat × Nat) := wlP B e 0 9 (bnd (stN (sh3 B e y0)) (fun a => pC B e a 44))
def sh5 (B : Nat → Nat) (e : Nat) (y0 : Er ⊕ Nat) : Er ⊕ (Nat × Nat) := ptP B e 12 0 50 (stN (sh4 B e y0))
def sh6 (B : Nat → Nat) (e : Nat) (y0 : Er ⊕ Nat) : Er ⊕ (Nat × Nat) := ptP B e 13 0 50 (stN (sh5 B e y0))
theorem sh_all {B : Nat → Nat} {e : Nat} {r : RS} {y0 : Er ⊕ Nat} : (∀ x, stN (sh6 B e y0) = .inl x → bnd y0 (fun a => lnShore B e a r) = .inl x) ∧ (∀ b, stN (sh6 B e y0) = .inr b → bnd y0 (fun a => lnShore B e a r) = .inr (b, (some (vlN 1 (sh1 B e y0), vlN 0 (sh2 B e y0), vlN 0 (sh3 B e y0), vlN 0 (sh4 B e y0), vlN 0 (sh5 B e y0), vlN 0 (sh6 B e y0)), r.2))) := by
  unfold sh6 sh5 sh4 sh3 sh2 sh1 ptP wlP stN lnShore
  cases y0 with
  | inl x => exact ⟨fun x h => by cases h; rfl, fun b h => by cases h⟩
  | inr a0 =>
    simp only [bnd_r]
    cases h1 : pW B e a0 (wN 9) with
    | inl x =>
      simp only [bnd_l, bnd_r, h1]
      exact ⟨fun x h => by cases h; rfl, fun b h => by cases h⟩
    | inr a1 =>
      cases h2 : pN B e a1 1 50 with
      | inl x =>
        simp only [bnd_l, bnd_r, h1, h2]
        exact ⟨fun x h => by cases h; rfl, fun b h => by cases h⟩
      | inr v1 =>
        cases h3 : pW B e v1.2 (wN 10) with
        | inl x =>
          simp only [bnd_l, bnd_r, h1, h2, h3]
          exact ⟨fun x h => by cases h; rfl, fun b h => by cases h⟩
        | inr a2 =>
          cases h4 : pN B e a2 0 9 with
          | inl x =>
            simp only [bnd_l, bnd_r, h1, h2, h3, h4]
            exact ⟨fun x h => by cases h; rfl, fun b h => by cases h⟩
          | inr v2 =>
            cases h5 : pW B e v2.2 (wN 11) with
            | inl x =>
              simp only [bnd_l, bnd_r, h1, h2, h3, h4, h5]
              exact ⟨fun x h => by cases h; rfl, fun b h => by cases h⟩
            | inr a3 =>
              cases h6 : pN B e a3 0 99 with
              | inl x =>
                simp only [bnd_l, bnd_r, h1, h2, h3, h4, h5, h6]
                exact ⟨fun x h => by cases h; rfl, fun b h => by cases h⟩
              | inr v3 =>
                cases h7 : pC B e v3.2 44 with
                | inl x =>
                  simp only [bnd_l, bnd_r, h1, h2, h3, h4, h5, h6, h7]
                  exact ⟨fun x h => by cases h; rfl, fun b h => by cases h⟩
                | inr a4 =>
                  cases h8 : pN B e a4 0 9 with
                  | inl x =>
                    simp only [bnd_l, bnd_r, h1, h2, h3, h4, h5, h6, h7, h8]
                    exact ⟨fun x h => by cases h; rfl, fun b h => by cases h⟩
                  | inr v4 =>
                    cases h9 : pW B e v4.2 (wN 12) with
                    | inl x =>
                      simp only [bnd_l, bnd_r, h1, h2, h3, h4, h5, h6, h7, h8, h9]
                      exact ⟨fun x h => by cases h; rfl, fun b h => by cases h⟩
                    | inr a5 =>
                      cases h10 : pN B e a5 0 50 with
                      | inl x =>
                        simp only [bnd_l, bnd_r, h1, h2, h3, h4, h5, h6, h7, h8, h9, h10]
                        exact ⟨fun x h => by cases h; rfl, fun b h => by cases h⟩
                      | inr v5 =>
                        cases h11 : pW B e v5.2 (wN 13) with
                        | inl x =>
                          simp only [bnd_l, bnd_r, h1, h2, h3, h4, h5, h6, h7, h8, h9, h10, h11]
                          exact ⟨fun x h => by cases h; rfl, fun b h => by cases h⟩
                        | inr a6 =>
                          cases h12 : pN B e a6 0 50 with
                          | inl x =>
                            simp only [bnd_l, bnd_r, h1, h2, h3, h4, h5, h6, h7, h8, h9, h10, h11, h12]
                            exact ⟨fun x h => by cases h; rfl, fun b h => by cases h⟩
                          | inr v6 =>
                            simp only [bnd_l, bnd_r, h1, h2, h3, h4, h5, h6, h7, h8, h9, h10, h11, h12, vlN]
                            exact ⟨fun x h => (by cases h), fun b h => by cases h; rfl⟩
def shW (z : Im) (R : Nat) (n : Nat) : Im := fo z (fun z k => s2 z (R + 16) k (-1)) n
theorem shW_v {z : Im} {R : Nat} : ∀ n, (∀ c, c ≠ R + 16 → shW z R n c = z c) ∧ ∀ p, p < n → shW z R n (R + 16) p = -1
  | 0 => ⟨fun _ _ => rfl, fun p h => absurd h (Nat.not_lt_zero p)⟩
  | n + 1 => by
    obtain ⟨h1, h2⟩ := shW_v (z := z) (R := R) n
    have es : shW z R (n + 1) = s2 (shW z R n) (R + 16) n (-1) := rfl
    rw [es]
    refine ⟨fun c hc => by rw [s2_ne hc]; exact h1 c hc, fun p hp => ?_⟩
    by_cases c : p = n
    · rw [c, s2_s]
    · rw [s2_o c]; exact h2 p (by omega)
theorem m_readShore {d m R e a : Nat} {B : Nat → Nat} {r : RS} {G : Gm} {I : Im} (hM : MR G m R) (hX : TmV I m B e) (H : MdS G I m B e (.inr a)) (h1 : kK (tk B e a) = 1) (hr : RM G I R B r) (ho : ROk e r) :
    ∃ (G' : Gm) (I' : Im), run (d + 5) mX13_readShore [.ref m] G I = some (none, G', I') ∧ AnM G' I' m R B e (if r.1.isSome = true then .inl (3, kS (tk B e a)) else lnShore B e (kE (tk B e a)) r) ∧ GL m R G G' ∧ FR m R I I' := by
  obtain ⟨l1, l2, l3, l4, hS, l6⟩ := id hM
  obtain ⟨r1, r2, r3, r4, r5, r6, r7, r8⟩ := id hr
  have st : ∃ (G0 : Gm) (I0 : Im), run (d + 5) mX13_readShore [.ref m] G I = ex (d + 5) mX13_readShore 19 [.val (.ref m), .unset, .unset, .unset, .unset, .unset, .unset, .unset] [] G0 I0 ∧ MdP m R B e G G0 I I0 (if r.1.isSome = true then .inl (3, kS (tk B e a)) else .inr (kE (tk B e a))) := by
    have hS_1 := hS.1; have hS_2 := hS.2.1; have hS_3 := hS.2.2.1; have hS_4 := hS.2.2.2.1; have hS_5 := hS.2.2.2.2.1; have hS_6 := hS.2.2.2.2.2.1; have hS_7 := hS.2.2.2.2.2.2.1; have hS_8 := hS.2.2.2.2.2.2.2.1; have hS_9 := hS.2.2.2.2.2.2.2.2.1; have hS_10 := hS.2.2.2.2.2.2.2.2.2.1; have hS_11 := hS.2.2.2.2.2.2.2.2.2.2.1; have hS_12 := hS.2.2.2.2.2.2.2.2.2.2.2.1; have hS_13 := hS.2.2.2.2.2.2.2.2.2.2.2.2.1; have hS_14 := hS.2.2.2.2.2.2.2.2.2.2.2.2.2.1; have hS_15 := hS.2.2.2.2.2.2.2.2.2.2.2.2.2.2.1; have hS_16 := hS.2.2.2.2.2.2.2.2.2.2.2.2.2.2.2.1; have hS_17 := hS.2.2.2.2.2.2.2.2.2.2.2.2.2.2.2.2.1; have hS_18 := hS.2.2.2.2.2.2.2.2.2.2.2.2.2.2.2.2.2.1; have hS_19 := hS.2.2.2.2.2.2.2.2.2.2.2.2.2.2.2.2.2.2.1; have hS_20 := hS.2.2.2.2.2.2.2.2.2.2.2.2.2.2.2.2.2.2.2.1; have hS_21 := hS.2.2.2.2.2.2.2.2.2.2.2.2.2.2.2.2.2.2.2.2.1; have hS_22 := hS.2.2.2.2.2.2.2.2.2.2.2.2.2.2.2.2.2.2.2.2.2.1; have hS_23 := hS.2.2.2.2.2.2.2.2.2.2.2.2.2.2.2.2.2.2.2.2.2.2.1; have hS_24 := hS.2.2.2.2.2.2.2.2.2.2.2.2.2.2.2.2.2.2.2.2.2.2.2.1; have hS_25 := hS.2.2.2.2.2.2.2.2.2.2.2.2.2.2.2.2.2.2.2.2.2.2.2.2.1; have hS_26 := hS.2.2.2.2.2.2.2.2.2.2.2.2.2.2.2.2.2.2.2.2.2.2.2.2.2.1; have hS_27 := hS.2.2.2.2.2.2.2.2.2.2.2.2.2.2.2.2.2.2.2.2.2.2.2.2.2.2.1; have hS_28 := hS.2.2.2.2.2.2.2.2.2.2.2.2.2.2.2.2.2.2.2.2.2.2.2.2.2.2.2.1; have hS_29 := hS.2.2.2.2.2.2.2.2.2.2.2.2.2.2.2.2.2.2.2.2.2.2.2.2.2.2.2.2.1; have hS_30 := hS.2.2.2.2.2.2.2.2.2.2.2.2.2.2.2.2.2.2.2.2.2.2.2.2.2.2.2.2.2.1; have hS_31 := hS.2.2.2.2.2.2.2.2.2.2.2.2.2.2.2.2.2.2.2.2.2.2.2.2.2.2.2.2.2.2.1; have hS_32 := hS.2.2.2.2.2.2.2.2.2.2.2.2.2.2.2.2.2.2.2.2.2.2.2.2.2.2.2.2.2.2.2.1; have hS_33 := hS.2.2.2.2.2.2.2.2.2.2.2.2.2.2.2.2.2.2.2.2.2.2.2.2.2.2.2.2.2.2.2.2.1; have hS_34 := hS.2.2.2.2.2.2.2.2.2.2.2.2.2.2.2.2.2.2.2.2.2.2.2.2.2.2.2.2.2.2.2.2.2.1; have hS_35 := hS.2.2.2.2.2.2.2.2.2.2.2.2.2.2.2.2.2.2.2.2.2.2.2.2.2.2.2.2.2.2.2.2.2.2.1; have hS_36 := hS.2.2.2.2.2.2.2.2.2.2.2.2.2.2.2.2.2.2.2.2.2.2.2.2.2.2.2.2.2.2.2.2.2.2.2.1; have hS_37 := hS.2.2.2.2.2.2.2.2.2.2.2.2.2.2.2.2.2.2.2.2.2.2.2.2.2.2.2.2.2.2.2.2.2.2.2.2.1; have hS_38 := hS.2.2.2.2.2.2.2.2.2.2.2.2.2.2.2.2.2.2.2.2.2.2.2.2.2.2.2.2.2.2.2.2.2.2.2.2.2.1; have hS_39 := hS.2.2.2.2.2.2.2.2.2.2.2.2.2.2.2.2.2.2.2.2.2.2.2.2.2.2.2.2.2.2.2.2.2.2.2.2.2.2
    cases hs : r.1 with
    | none =>
      have e0 := r1 hs
      have c0 : (nI 0 ≤ 0) = True := by decide
      obtain ⟨G3, I3, g1, g2, g3, g4⟩ := m_adv (d := d + 3) hM hX H (fun a' h => by cases h; rw [h1]; decide)
      refine ⟨G3, I3, ?_, g2, g3, g4⟩
      simp (disch := first | assumption | (simp (disch := omega) only [cK_some, ofR_some, ofR_none, Option.toList_some, Option.toList_none, List.cons_append, List.nil_append, isL_i, isL_r, isL_u, isL_2, cs_0, cs_i, cs_r, cs_l, cs_ii, cs_ir, cs_ri, cs_rr, cs_iir, cs_irr, cs_iii, cs_iri, cs_rii, cs_rir, cs_rri, cs_rrr, cs_iiii, cs_iiir, cs_iiri, cs_iirr, cs_irii, cs_irir, cs_irri, cs_irrr, cs_riii, cs_riir, cs_riri, cs_rirr, cs_rrii, cs_rrir, cs_rrri, cs_rrrr, hS_1, hS_2, hS_3, hS_4, hS_5, hS_6, hS_7, hS_8, hS_9, hS_10, hS_11, hS_12, hS_13, hS_14, hS_15, hS_16, hS_17, hS_18, hS_19, hS_20, hS_21, hS_22, hS_23, hS_24, hS_25, hS_26, hS_27, hS_28, hS_29, hS_30, hS_31, hS_32, hS_33, hS_34, hS_35, hS_36, hS_37, hS_38, hS_39, l1, inb_n, bq4, bq5, n100, not_false_eq_true, isB_0, isB_1, nI_clamp, nI_nneg, Nat.zero_add, Nat.le_refl]; done) | omega | (simp (disch := omega) only [cK_some, ofR_some, ofR_none, Option.toList_some, Option.toList_none, List.cons_append, List.nil_append, isL_i, isL_r, isL_u, isL_2, cs_0, cs_i, cs_r, cs_l, cs_ii, cs_ir, cs_ri, cs_rr, cs_iir, cs_irr, cs_iii, cs_iri, cs_rii, cs_rir, cs_rri, cs_rrr, cs_iiii, cs_iiir, cs_iiri, cs_iirr, cs_irii, cs_irir, cs_irri, cs_irrr, cs_riii, cs_riir, cs_riri, cs_rirr, cs_rrii, cs_rrir, cs_rrri, cs_rrrr, hS_1, hS_2, hS_3, hS_4, hS_5, hS_6, hS_7, hS_8, hS_9, hS_10, hS_11, hS_12, hS_13, hS_14, hS_15, hS_16, hS_17, hS_18, hS_19, hS_20, hS_21, hS_22, hS_23, hS_24, hS_25, hS_26, hS_27, hS_28, hS_29, hS_30, hS_31, hS_32, hS_33, hS_34, hS_35, hS_36, hS_37, hS_38, hS_39, l1, inb_n, bq4, bq5, n100, not_false_eq_true, isB_0, isB_1, nI_clamp, nI_nneg, Nat.zero_add, Nat.le_refl]; omega)) only [xX13_readShore_0, xX13_readShore_1, xX13_readShore_4, xX13_readShore_7, xX13_readShore_10, xX13_readShore_11, xX13_readShore_12, xX13_readShore_15, xX13_readShore_16, cK_some, ofR_some, ofR_none, Option.toList_some, Option.toList_none, List.cons_append, List.nil_append, isL_i, isL_r, isL_u, isL_2, cs_0, cs_i, cs_r, cs_l, cs_ii, cs_ir, cs_ri, cs_rr, cs_iir, cs_irr, cs_iii, cs_iri, cs_rii, cs_rir, cs_rri, cs_rrr, cs_iiii, cs_iiir, cs_iiri, cs_iirr, cs_irii, cs_irir, cs_irri, cs_irrr, cs_riii, cs_riir, cs_riri, cs_rirr, cs_rrii, cs_rrir, cs_rrri, cs_rrrr, hS_1, hS_2, hS_3, hS_4, hS_5, hS_6, hS_7, hS_8, hS_9, hS_10, hS_11, hS_12, hS_13, hS_14, hS_15, hS_16, hS_17, hS_18, hS_19, hS_20, hS_21, hS_22, hS_23, hS_24, hS_25, hS_26, hS_27, hS_28, hS_29, hS_30, hS_31, hS_32, hS_33, hS_34, hS_35, hS_36, hS_37, hS_38, hS_39, rX13_readShore, l2, e0, c0, g1, Nat.add_sub_cancel, Nat.add_zero, Nat.zero_add, nI_lt, nI_nlt, nI_le, nI_ge, nI_pos, pk_sub, nI_clamp, s2_ne, s2_o, s2_s, nI_add, inb_n, nI_nn, zq0, zq1, ↓reduceIte]
    | some s =>
      have e0 := (r2 s hs).1.1
      have hb := ho.1 s hs
      have c0 : (nI s.1 ≤ 0) = False := eq_false (nI_ge (a := 0) (b := s.1) (by have := hb.1; omega) (by have := hb.2.1; omega))
      obtain ⟨I1, f1, f2, f3⟩ := m_flaw (d := d + 4) (n := 3) hM H
      have f2 : MdS G I1 m B e (.inl (3, kS (tk B e a))) := f2
      obtain ⟨G3, I3, g1, g2, g3, g4⟩ := m_adv (d := d + 3) hM (hX.fm f3) f2 (fun a' h => by cases h)
      refine ⟨G3, I3, ?_, g2, g3, f3.tr g4⟩
      simp (disch := first | assumption | (simp (disch := omega) only [cK_some, ofR_some, ofR_none, Option.toList_some, Option.toList_none, List.cons_append, List.nil_append, isL_i, isL_r, isL_u, isL_2, cs_0, cs_i, cs_r, cs_l, cs_ii, cs_ir, cs_ri, cs_rr, cs_iir, cs_irr, cs_iii, cs_iri, cs_rii, cs_rir, cs_rri, cs_rrr, cs_iiii, cs_iiir, cs_iiri, cs_iirr, cs_irii, cs_irir, cs_irri, cs_irrr, cs_riii, cs_riir, cs_riri, cs_rirr, cs_rrii, cs_rrir, cs_rrri, cs_rrrr, hS_1, hS_2, hS_3, hS_4, hS_5, hS_6, hS_7, hS_8, hS_9, hS_10, hS_11, hS_12, hS_13, hS_14, hS_15, hS_16, hS_17, hS_18, hS_19, hS_20, hS_21, hS_22, hS_23, hS_24, hS_25, hS_26, hS_27, hS_28, hS_29, hS_30, hS_31, hS_32, hS_33, hS_34, hS_35, hS_36, hS_37, hS_38, hS_39, l1, inb_n, bq4, bq5, n100, not_false_eq_true, isB_0, isB_1, nI_clamp, nI_nneg, Nat.zero_add, Nat.le_refl]; done) | omega | (simp (disch := omega) only [cK_some, ofR_some, ofR_none, Option.toList_some, Option.toList_none, List.cons_append, List.nil_append, isL_i, isL_r, isL_u, isL_2, cs_0, cs_i, cs_r, cs_l, cs_ii, cs_ir, cs_ri, cs_rr, cs_iir, cs_irr, cs_iii, cs_iri, cs_rii, cs_rir, cs_rri, cs_rrr, cs_iiii, cs_iiir, cs_iiri, cs_iirr, cs_irii, cs_irir, cs_irri, cs_irrr, cs_riii, cs_riir, cs_riri, cs_rirr, cs_rrii, cs_rrir, cs_rrri, cs_rrrr, hS_1, hS_2, hS_3, hS_4, hS_5, hS_6, hS_7, hS_8, hS_9, hS_10, hS_11, hS_12, hS_13, hS_14, hS_15, hS_16, hS_17, hS_18, hS_19, hS_20, hS_21, hS_22, hS_23, hS_24, hS_25, hS_26, hS_27, hS_28, hS_29, hS_30, hS_31, hS_32, hS_33, hS_34, hS_35, hS_36, hS_37, hS_38, hS_39, l1, inb_n, bq4, bq5, n100, not_false_eq_true, isB_0, isB_1, nI_clamp, nI_nneg, Nat.zero_add, Nat.le_refl]; omega)) only [xX13_readShore_0, xX13_readShore_1, xX13_readShore_4, xX13_readShore_7, xX13_readShore_10, xX13_readShore_11, xX13_readShore_12, xX13_readShore_15, xX13_readShore_16, cK_some, ofR_some, ofR_none, Option.toList_some, Option.toList_none, List.cons_append, List.nil_append, isL_i, isL_r, isL_u, isL_2, cs_0, cs_i, cs_r, cs_l, cs_ii, cs_ir, cs_ri, cs_rr, cs_iir, cs_irr, cs_iii, cs_iri, cs_rii, cs_rir, cs_rri, cs_rrr, cs_iiii, cs_iiir, cs_iiri, cs_iirr, cs_irii, cs_irir, cs_irri, cs_irrr, cs_riii, cs_riir, cs_riri, cs_rirr, cs_rrii, cs_rrir, cs_rrri, cs_rrrr, hS_1, hS_2, hS_3, hS_4, hS_5, hS_6, hS_7, hS_8, hS_9, hS_10, hS_11, hS_12, hS_13, hS_14, hS_15, hS_16, hS_17, hS_18, hS_19, hS_20, hS_21, hS_22, hS_23, hS_24, hS_25, hS_26, hS_27, hS_28, hS_29, hS_30, hS_31, hS_32, hS_33, hS_34, hS_35, hS_36, hS_37, hS_38, hS_39, rX13_readShore, l2, e0, c0, f1, g1, Nat.add_sub_cancel, Nat.add_zero, Nat.zero_add, nI_lt, nI_nlt, nI_le, nI_ge, nI_pos, pk_sub, nI_clamp, s2_ne, s2_o, s2_s, nI_add, inb_n, nI_nn, zq0, zq1, ↓reduceIte]
  obtain ⟨G0, I0, f0, H0, ge0, fm0⟩ := st
  have hM0 := hM.ge ge0
  have hX0 := hX.fm fm0
  generalize hy : (if r.1.isSome = true then .inl (3, kS (tk B e a)) else .inr (kE (tk B e a)) : Er ⊕ Nat) = y0 at H0
  have eq0 : (if r.1.isSome = true then .inl (3, kS (tk B e a)) else lnShore B e (kE (tk B e a)) r) = bnd y0 (fun a => lnShore B e a r) := by
    rw [← hy]
    cases r.1 <;> rfl
  rw [eq0]
  obtain ⟨l1, l2, l3, l4, hS, l6⟩ := id hM0
  obtain ⟨G1, I1, f1, g1, ge1, fm1⟩ := m_readPart (d := d + 1) (x := 1000000 + 26) (w := wN 9) (lo := 1) (hi := 50) hM0 hX0 H0 st26 (by decide) (by decide)
  have eT1 : gT G1 = gT G0 := ge1.2.1
  have eR1 : gR G1 = gR G0 := ge1.2.2.1
  obtain ⟨G2, I2, f2, g2, ge2, fm2⟩ := m_readPart (d := d + 1) (x := 1000000 + 27) (w := wN 10) (lo := 0) (hi := 9) (hM0.ge (ge1)) (hX0.fm (fm1)) g1 st27 (by decide) (by decide)
  have eT2 : gT G2 = gT G0 := (ge2.2.1).trans (ge1).2.1
  have eR2 : gR G2 = gR G0 := (ge2.2.2.1).trans (ge1).2.2.1
  obtain ⟨G3, I3, f3, g3, ge3, fm3⟩ := m_readPart (d := d + 1) (x := 1000000 + 28) (w := wN 11) (lo := 0) (hi := 99) (hM0.ge (GE.tr (ge1) ge2)) (hX0.fm (FM.tr (fm1) fm2)) g2 st28 (by decide) (by decide)
  have eT3 : gT G3 = gT G0 := (ge3.2.1).trans (GE.tr (ge1) ge2).2.1
  have eR3 : gR G3 = gR G0 := (ge3.2.2.1).trans (GE.tr (ge1) ge2).2.2.1
  obtain ⟨G4, I4, f4, g4, ge4, fm4⟩ := m_needsComma (d := d + 2) (hM0.ge (GE.tr (GE.tr (ge1) ge2) ge3)) (hX0.fm (FM.tr (FM.tr (fm1) fm2) fm3)) g3
  have eT4 : gT G4 = gT G0 := (ge4.2.1).trans (GE.tr (GE.tr (ge1) ge2) ge3).2.1
  have eR4 : gR G4 = gR G0 := (ge4.2.2.1).trans (GE.tr (GE.tr (ge1) ge2) ge3).2.2.1
  obtain ⟨G5, I5, f5, g5, ge5, fm5⟩ := m_readWhole (d := d + 2) (lo := 0) (hi := 9) (hM0.ge (GE.tr (GE.tr (GE.tr (ge1) ge2) ge3) ge4)) (hX0.fm (FM.tr (FM.tr (FM.tr (fm1) fm2) fm3) fm4)) g4 (by decide) (by decide)
  have eT5 : gT G5 = gT G0 := (ge5.2.1).trans (GE.tr (GE.tr (GE.tr (ge1) ge2) ge3) ge4).2.1
  have eR5 : gR G5 = gR G0 := (ge5.2.2.1).trans (GE.tr (GE.tr (GE.tr (ge1) ge2) ge3) ge4).2.2.1
  obtain ⟨G6, I6, f6, g6, ge6, fm6⟩ := m_readPart (d := d + 1) (x := 1000000 + 29) (w := wN 12) (lo := 0) (hi := 50) (hM0.ge (GE.tr (GE.tr (GE.tr (GE.tr (ge1) ge2) ge3) ge4) ge5)) (hX0.fm (FM.tr (FM.tr (FM.tr (FM.tr (fm1) fm2) fm3) fm4) fm5)) g5 st29 (by decide) (by decide)
  have eT6 : gT G6 = gT G0 := (ge6.2.1).trans (GE.tr (GE.tr (GE.tr (GE.tr (ge1) ge2) ge3) ge4) ge5).2.1
  have eR6 : gR G6 = gR G0 := (ge6.2.2.1).trans (GE.tr (GE.tr (GE.tr (GE.tr (ge1) ge2) ge3) ge4) ge5).2.2.1
  obtain ⟨G7, I7, f7, g7, ge7, fm7⟩ := m_readPart (d := d + 1) (x := 1000000 + 30) (w := wN 13) (lo := 0) (hi := 50) (hM0.ge (GE.tr (GE.tr (GE.tr (GE.tr (GE.tr (ge1) ge2) ge3) ge4) ge5) ge6)) (hX0.fm (FM.tr (FM.tr (FM.tr (FM.tr (FM.tr (fm1) fm2) fm3) fm4) fm5) fm6)) g6 st30 (by decide) (by decide)
  have eT7 : gT G7 = gT G0 := (ge7.2.1).trans (GE.tr (GE.tr (GE.tr (GE.tr (GE.tr (ge1) ge2) ge3) ge4) ge5) ge6).2.1
  have eR7 : gR G7 = gR G0 := (ge7.2.2.1).trans (GE.tr (GE.tr (GE.tr (GE.tr (GE.tr (ge1) ge2) ge3) ge4) ge5) ge6).2.2.1
  have f1' : _ = some (some (Value.int (nI (vlN 1 (sh1 B e y0)))), G1, I1) := f1
  have f2' : _ = some (some (Value.int (nI (vlN 0 (sh2 B e y0)))), G2, I2) := f2
  have f3' : _ = some (some (Value.int (nI (vlN 0 (sh3 B e y0)))), G3, I3) := f3
  have f5' : _ = some (some (Value.int (nI (vlN 0 (sh4 B e y0)))), G5, I5) := f5
  have f6' : _ = some (some (Value.int (nI (vlN 0 (sh5 B e y0)))), G6, I6) := f6
  have f7' : _ = some (some (Value.int (nI (vlN 0 (sh6 B e y0)))), G7, I7) := f7
  have gL : MdS G7 I7 m B e (stN (sh6 B e y0)) := g7
  obtain ⟨p1, p2⟩ := sh_all (B := B) (e := e) (r := r) (y0 := y0)
  have gz : GE m R G G7 := GE.tr ge0 (GE.tr (GE.tr (GE.tr (GE.tr (GE.tr (GE.tr (ge1) ge2) ge3) ge4) ge5) ge6) ge7)
  have fz : FM m I I7 := FM.tr fm0 (FM.tr (FM.tr (FM.tr (FM.tr (FM.tr (FM.tr (fm1) fm2) fm3) fm4) fm5) fm6) fm7)
  have hrz := hr.fm l6 gz fz
  generalize vlN 1 (sh1 B e y0) = n1 at *
  generalize vlN 0 (sh2 B e y0) = n2 at *
  generalize vlN 0 (sh3 B e y0) = n3 at *
  generalize vlN 0 (sh4 B e y0) = n4 at *
  generalize vlN 0 (sh5 B e y0) = n5 at *
  generalize vlN 0 (sh6 B e y0) = n6 at *
  rw [f0]
  have hS_1 := hS.1; have hS_2 := hS.2.1; have hS_3 := hS.2.2.1; have hS_4 := hS.2.2.2.1; have hS_5 := hS.2.2.2.2.1; have hS_6 := hS.2.2.2.2.2.1; have hS_7 := hS.2.2.2.2.2.2.1; have hS_8 := hS.2.2.2.2.2.2.2.1; have hS_9 := hS.2.2.2.2.2.2.2.2.1; have hS_10 := hS.2.2.2.2.2.2.2.2.2.1; have hS_11 := hS.2.2.2.2.2.2.2.2.2.2.1; have hS_12 := hS.2.2.2.2.2.2.2.2.2.2.2.1; have hS_13 := hS.2.2.2.2.2.2.2.2.2.2.2.2.1; have hS_14 := hS.2.2.2.2.2.2.2.2.2.2.2.2.2.1; have hS_15 := hS.2.2.2.2.2.2.2.2.2.2.2.2.2.2.1; have hS_16 := hS.2.2.2.2.2.2.2.2.2.2.2.2.2.2.2.1; have hS_17 := hS.2.2.2.2.2.2.2.2.2.2.2.2.2.2.2.2.1; have hS_18 := hS.2.2.2.2.2.2.2.2.2.2.2.2.2.2.2.2.2.1; have hS_19 := hS.2.2.2.2.2.2.2.2.2.2.2.2.2.2.2.2.2.2.1; have hS_20 := hS.2.2.2.2.2.2.2.2.2.2.2.2.2.2.2.2.2.2.2.1; have hS_21 := hS.2.2.2.2.2.2.2.2.2.2.2.2.2.2.2.2.2.2.2.2.1; have hS_22 := hS.2.2.2.2.2.2.2.2.2.2.2.2.2.2.2.2.2.2.2.2.2.1; have hS_23 := hS.2.2.2.2.2.2.2.2.2.2.2.2.2.2.2.2.2.2.2.2.2.2.1; have hS_24 := hS.2.2.2.2.2.2.2.2.2.2.2.2.2.2.2.2.2.2.2.2.2.2.2.1; have hS_25 := hS.2.2.2.2.2.2.2.2.2.2.2.2.2.2.2.2.2.2.2.2.2.2.2.2.1; have hS_26 := hS.2.2.2.2.2.2.2.2.2.2.2.2.2.2.2.2.2.2.2.2.2.2.2.2.2.1; have hS_27 := hS.2.2.2.2.2.2.2.2.2.2.2.2.2.2.2.2.2.2.2.2.2.2.2.2.2.2.1; have hS_28 := hS.2.2.2.2.2.2.2.2.2.2.2.2.2.2.2.2.2.2.2.2.2.2.2.2.2.2.2.1; have hS_29 := hS.2.2.2.2.2.2.2.2.2.2.2.2.2.2.2.2.2.2.2.2.2.2.2.2.2.2.2.2.1; have hS_30 := hS.2.2.2.2.2.2.2.2.2.2.2.2.2.2.2.2.2.2.2.2.2.2.2.2.2.2.2.2.2.1; have hS_31 := hS.2.2.2.2.2.2.2.2.2.2.2.2.2.2.2.2.2.2.2.2.2.2.2.2.2.2.2.2.2.2.1; have hS_32 := hS.2.2.2.2.2.2.2.2.2.2.2.2.2.2.2.2.2.2.2.2.2.2.2.2.2.2.2.2.2.2.2.1; have hS_33 := hS.2.2.2.2.2.2.2.2.2.2.2.2.2.2.2.2.2.2.2.2.2.2.2.2.2.2.2.2.2.2.2.2.1; have hS_34 := hS.2.2.2.2.2.2.2.2.2.2.2.2.2.2.2.2.2.2.2.2.2.2.2.2.2.2.2.2.2.2.2.2.2.1; have hS_35 := hS.2.2.2.2.2.2.2.2.2.2.2.2.2.2.2.2.2.2.2.2.2.2.2.2.2.2.2.2.2.2.2.2.2.2.1; have hS_36 := hS.2.2.2.2.2.2.2.2.2.2.2.2.2.2.2.2.2.2.2.2.2.2.2.2.2.2.2.2.2.2.2.2.2.2.2.1; have hS_37 := hS.2.2.2.2.2.2.2.2.2.2.2.2.2.2.2.2.2.2.2.2.2.2.2.2.2.2.2.2.2.2.2.2.2.2.2.2.1; have hS_38 := hS.2.2.2.2.2.2.2.2.2.2.2.2.2.2.2.2.2.2.2.2.2.2.2.2.2.2.2.2.2.2.2.2.2.2.2.2.2.1; have hS_39 := hS.2.2.2.2.2.2.2.2.2.2.2.2.2.2.2.2.2.2.2.2.2.2.2.2.2.2.2.2.2.2.2.2.2.2.2.2.2.2
  cases hz : stN (sh6 B e y0) with
  | inl x =>
    rw [hz] at gL
    rw [p1 x hz]
    have h9 := gL.deadT
    refine ⟨G7, I7, ?_, gL, gz.l, fz.r⟩
    simp (disch := first | assumption | (simp (disch := omega) only [cK_some, ofR_some, ofR_none, Option.toList_some, Option.toList_none, List.cons_append, List.nil_append, isL_i, isL_r, isL_u, isL_2, cs_0, cs_i, cs_r, cs_l, cs_ii, cs_ir, cs_ri, cs_rr, cs_iir, cs_irr, cs_iii, cs_iri, cs_rii, cs_rir, cs_rri, cs_rrr, cs_iiii, cs_iiir, cs_iiri, cs_iirr, cs_irii, cs_irir, cs_irri, cs_irrr, cs_riii, cs_riir, cs_riri, cs_rirr, cs_rrii, cs_rrir, cs_rrri, cs_rrrr, hS_1, hS_2, hS_3, hS_4, hS_5, hS_6, hS_7, hS_8, hS_9, hS_10, hS_11, hS_12, hS_13, hS_14, hS_15, hS_16, hS_17, hS_18, hS_19, hS_20, hS_21, hS_22, hS_23, hS_24, hS_25, hS_26, hS_27, hS_28, hS_29, hS_30, hS_31, hS_32, hS_33, hS_34, hS_35, hS_36, hS_37, hS_38, hS_39, l1, eT1, eT2, eT3, eT4, eT5, eT6, eT7, inb_n, bq4, bq5, n100, not_false_eq_true, isB_0, isB_1, nI_clamp, nI_nneg, Nat.zero_add, Nat.le_refl]; done) | omega | (simp (disch := omega) only [cK_some, ofR_some, ofR_none, Option.toList_some, Option.toList_none, List.cons_append, List.nil_append, isL_i, isL_r, isL_u, isL_2, cs_0, cs_i, cs_r, cs_l, cs_ii, cs_ir, cs_ri, cs_rr, cs_iir, cs_irr, cs_iii, cs_iri, cs_rii, cs_rir, cs_rri, cs_rrr, cs_iiii, cs_iiir, cs_iiri, cs_iirr, cs_irii, cs_irir, cs_irri, cs_irrr, cs_riii, cs_riir, cs_riri, cs_rirr, cs_rrii, cs_rrir, cs_rrri, cs_rrrr, hS_1, hS_2, hS_3, hS_4, hS_5, hS_6, hS_7, hS_8, hS_9, hS_10, hS_11, hS_12, hS_13, hS_14, hS_15, hS_16, hS_17, hS_18, hS_19, hS_20, hS_21, hS_22, hS_23, hS_24, hS_25, hS_26, hS_27, hS_28, hS_29, hS_30, hS_31, hS_32, hS_33, hS_34, hS_35, hS_36, hS_37, hS_38, hS_39, l1, eT1, eT2, eT3, eT4, eT5, eT6, eT7, inb_n, bq4, bq5, n100, not_false_eq_true, isB_0, isB_1, nI_clamp, nI_nneg, Nat.zero_add, Nat.le_refl]; omega)) only [xX13_readShore_19, xX13_readShore_20, xX13_readShore_22, xX13_readShore_23, xX13_readShore_25, xX13_readShore_28, xX13_readShore_29, xX13_readShore_30, xX13_readShore_32, xX13_readShore_33, xX13_readShore_35, xX13_readShore_38, xX13_readShore_39, xX13_readShore_40, xX13_readShore_42, xX13_readShore_43, xX13_readShore_45, xX13_readShore_48, xX13_readShore_49, xX13_readShore_50, xX13_readShore_53, xX13_readShore_54, xX13_readShore_55, xX13_readShore_57, xX13_readShore_60, xX13_readShore_62, xX13_readShore_63, xX13_readShore_65, xX13_readShore_66, xX13_readShore_68, xX13_readShore_71, xX13_readShore_73, xX13_readShore_74, xX13_readShore_76, xX13_readShore_77, xX13_readShore_79, xX13_readShore_82, xX13_readShore_84, xX13_readShore_85, xX13_readShore_88, xX13_readShore_89, xX13_readShore_92, cK_some, ofR_some, ofR_none, Option.toList_some, Option.toList_none, List.cons_append, List.nil_append, isL_i, isL_r, isL_u, isL_2, cs_0, cs_i, cs_r, cs_l, cs_ii, cs_ir, cs_ri, cs_rr, cs_iir, cs_irr, cs_iii, cs_iri, cs_rii, cs_rir, cs_rri, cs_rrr, cs_iiii, cs_iiir, cs_iiri, cs_iirr, cs_irii, cs_irir, cs_irri, cs_irrr, cs_riii, cs_riir, cs_riri, cs_rirr, cs_rrii, cs_rrir, cs_rrri, cs_rrrr, hS_1, hS_2, hS_3, hS_4, hS_5, hS_6, hS_7, hS_8, hS_9, hS_10, hS_11, hS_12, hS_13, hS_14, hS_15, hS_16, hS_17, hS_18, hS_19, hS_20, hS_21, hS_22, hS_23, hS_24, hS_25, hS_26, hS_27, hS_28, hS_29, hS_30, hS_31, hS_32, hS_33, hS_34, hS_35, hS_36, hS_37, hS_38, hS_39, f1', f2', f3', f4, f5', f6', f7', h9, Nat.add_sub_cancel, Nat.add_zero, Nat.zero_add, nI_lt, nI_nlt, nI_le, nI_ge, nI_pos, pk_sub, nI_clamp, s2_ne, s2_o, s2_s, nI_add, inb_n, nI_nn, zq0, zq1, ↓reduceIte]
  | inr b =>
    rw [hz] at gL
    rw [p2 b hz]
    have h9 := gL.live
    generalize hA : s2 (s2 (s2 (s2 (s2 (s2 I7 R 0 (nI n1)) R 1 (nI n2)) R 2 (nI n3)) R 3 (nI n4)) R 4 (nI n5)) R 5 (nI n6) = A
    have hch := chain (fun k => ex (d + 5) mX13_readShore 147 [.val (.ref m), .val (.int (nI n1)), .val (.int (nI n2)), .val (.int (nI n3)), .val (.int (nI n4)), .val (.int (nI n5)), .val (.int (nI n6)), .val (.int (nI k))] [] G7 (shW A R k)) 6 (fun k hk => by
      have es : shW A R (k + 1) = s2 (shW A R k) (R + 16) k (-1) := rfl
      try dsimp only
      rw [es, xX13_readShore_147]
      simp (disch := first | assumption | (simp (disch := omega) only [cK_some, ofR_some, ofR_none, Option.toList_some, Option.toList_none, List.cons_append, List.nil_append, isL_i, isL_r, isL_u, isL_2, cs_0, cs_i, cs_r, cs_l, cs_ii, cs_ir, cs_ri, cs_rr, cs_iir, cs_irr, cs_iii, cs_iri, cs_rii, cs_rir, cs_rri, cs_rrr, cs_iiii, cs_iiir, cs_iiri, cs_iirr, cs_irii, cs_irir, cs_irri, cs_irrr, cs_riii, cs_riir, cs_riri, cs_rirr, cs_rrii, cs_rrir, cs_rrri, cs_rrrr, hS_1, hS_2, hS_3, hS_4, hS_5, hS_6, hS_7, hS_8, hS_9, hS_10, hS_11, hS_12, hS_13, hS_14, hS_15, hS_16, hS_17, hS_18, hS_19, hS_20, hS_21, hS_22, hS_23, hS_24, hS_25, hS_26, hS_27, hS_28, hS_29, hS_30, hS_31, hS_32, hS_33, hS_34, hS_35, hS_36, hS_37, hS_38, hS_39, l1, eT7, inb_n, bq4, bq5, n100, not_false_eq_true, isB_0, isB_1, nI_clamp, nI_nneg, Nat.zero_add, Nat.le_refl]; done) | omega | (simp (disch := omega) only [cK_some, ofR_some, ofR_none, Option.toList_some, Option.toList_none, List.cons_append, List.nil_append, isL_i, isL_r, isL_u, isL_2, cs_0, cs_i, cs_r, cs_l, cs_ii, cs_ir, cs_ri, cs_rr, cs_iir, cs_irr, cs_iii, cs_iri, cs_rii, cs_rir, cs_rri, cs_rrr, cs_iiii, cs_iiir, cs_iiri, cs_iirr, cs_irii, cs_irir, cs_irri, cs_irrr, cs_riii, cs_riir, cs_riri, cs_rirr, cs_rrii, cs_rrir, cs_rrri, cs_rrrr, hS_1, hS_2, hS_3, hS_4, hS_5, hS_6, hS_7, hS_8, hS_9, hS_10, hS_11, hS_12, hS_13, hS_14, hS_15, hS_16, hS_17, hS_18, hS_19, hS_20, hS_21, hS_22, hS_23, hS_24, hS_25, hS_26, hS_27, hS_28, hS_29, hS_30, hS_31, hS_32, hS_33, hS_34, hS_35, hS_36, hS_37, hS_38, hS_39, l1, eT7, inb_n, bq4, bq5, n100, not_false_eq_true, isB_0, isB_1, nI_clamp, nI_nneg, Nat.zero_add, Nat.le_refl]; omega)) only [xX13_readShore_149, xX13_readShore_151, xX13_readShore_154, xX13_readShore_155, xX13_readShore_158, xX13_readShore_161, xX13_readShore_163, xX13_readShore_164, xX13_readShore_165, xX13_readShore_168, cK_some, ofR_some, ofR_none, Option.toList_some, Option.toList_none, List.cons_append, List.nil_append, isL_i, isL_r, isL_u, isL_2, cs_0, cs_i, cs_r, cs_l, cs_ii, cs_ir, cs_ri, cs_rr, cs_iir, cs_irr, cs_iii, cs_iri, cs_rii, cs_rir, cs_rri, cs_rrr, cs_iiii, cs_iiir, cs_iiri, cs_iirr, cs_irii, cs_irir, cs_irri, cs_irrr, cs_riii, cs_riir, cs_riri, cs_rirr, cs_rrii, cs_rrir, cs_rrri, cs_rrrr, hS_1, hS_2, hS_3, hS_4, hS_5, hS_6, hS_7, hS_8, hS_9, hS_10, hS_11, hS_12, hS_13, hS_14, hS_15, hS_16, hS_17, hS_18, hS_19, hS_20, hS_21, hS_22, hS_23, hS_24, hS_25, hS_26, hS_27, hS_28, hS_29, hS_30, hS_31, hS_32, hS_33, hS_34, hS_35, hS_36, hS_37, hS_38, hS_39, eR7, l2, Nat.add_sub_cancel, Nat.add_zero, Nat.zero_add, nI_lt, nI_nlt, nI_le, nI_ge, nI_pos, pk_sub, nI_clamp, s2_ne, s2_o, s2_s, nI_add, inb_n, nI_nn, zq0, zq1, ↓reduceIte])
    have hf := shW_v (z := A) (R := R) 6
    have eA : ∀ c, c ≠ R → c ≠ R + 16 → shW A R 6 c = I7 c := fun c h1 h2 => by
      rw [hf.1 c h2, ← hA, s2_ne h1, s2_ne h1, s2_ne h1, s2_ne h1, s2_ne h1, s2_ne h1]
    have eR : ∀ j, shW A R 6 R j = A R j := fun j => by rw [hf.1 R (by omega)]
    have eB : ∀ j, 6 ≤ j → shW A R 6 R j = I7 R j := fun j hj => by
      rw [eR, ← hA, s2_o (by omega), s2_o (by omega), s2_o (by omega), s2_o (by omega), s2_o (by omega), s2_o (by omega)]
    have hnone : r.1 = none := by
      cases hs : r.1 with
      | none => rfl
      | some s =>
        have hy' : y0 = .inl (3, kS (tk B e a)) := by rw [← hy, hs]; rfl
        rw [hy'] at hz
        have hz' : (Sum.inl (3, kS (tk B e a)) : Er ⊕ Nat) = .inr b := hz
        cases hz'
    refine ⟨G7, shW A R 6, ?_, ⟨?_, ?_⟩, gz.l, ?_⟩
    · simp (disch := first | assumption | (simp (disch := omega) only [cK_some, ofR_some, ofR_none, Option.toList_some, Option.toList_none, List.cons_append, List.nil_append, isL_i, isL_r, isL_u, isL_2, cs_0, cs_i, cs_r, cs_l, cs_ii, cs_ir, cs_ri, cs_rr, cs_iir, cs_irr, cs_iii, cs_iri, cs_rii, cs_rir, cs_rri, cs_rrr, cs_iiii, cs_iiir, cs_iiri, cs_iirr, cs_irii, cs_irir, cs_irri, cs_irrr, cs_riii, cs_riir, cs_riri, cs_rirr, cs_rrii, cs_rrir, cs_rrri, cs_rrrr, hS_1, hS_2, hS_3, hS_4, hS_5, hS_6, hS_7, hS_8, hS_9, hS_10, hS_11, hS_12, hS_13, hS_14, hS_15, hS_16, hS_17, hS_18, hS_19, hS_20, hS_21, hS_22, hS_23, hS_24, hS_25, hS_26, hS_27, hS_28, hS_29, hS_30, hS_31, hS_32, hS_33, hS_34, hS_35, hS_36, hS_37, hS_38, hS_39, l1, eT1, eT2, eT3, eT4, eT5, eT6, eT7, inb_n, bq4, bq5, n100, not_false_eq_true, isB_0, isB_1, nI_clamp, nI_nneg, Nat.zero_add, Nat.le_refl]; done) | omega | (simp (disch := omega) only [cK_some, ofR_some, ofR_none, Option.toList_some, Option.toList_none, List.cons_append, List.nil_append, isL_i, isL_r, isL_u, isL_2, cs_0, cs_i, cs_r, cs_l, cs_ii, cs_ir, cs_ri, cs_rr, cs_iir, cs_irr, cs_iii, cs_iri, cs_rii, cs_rir, cs_rri, cs_rrr, cs_iiii, cs_iiir, cs_iiri, cs_iirr, cs_irii, cs_irir, cs_irri, cs_irrr, cs_riii, cs_riir, cs_riri, cs_rirr, cs_rrii, cs_rrir, cs_rrri, cs_rrrr, hS_1, hS_2, hS_3, hS_4, hS_5, hS_6, hS_7, hS_8, hS_9, hS_10, hS_11, hS_12, hS_13, hS_14, hS_15, hS_16, hS_17, hS_18, hS_19, hS_20, hS_21, hS_22, hS_23, hS_24, hS_25, hS_26, hS_27, hS_28, hS_29, hS_30, hS_31, hS_32, hS_33, hS_34, hS_35, hS_36, hS_37, hS_38, hS_39, l1, eT1, eT2, eT3, eT4, eT5, eT6, eT7, inb_n, bq4, bq5, n100, not_false_eq_true, isB_0, isB_1, nI_clamp, nI_nneg, Nat.zero_add, Nat.le_refl]; omega)) only [xX13_readShore_19, xX13_readShore_20, xX13_readShore_22, xX13_readShore_23, xX13_readShore_25, xX13_readShore_28, xX13_readShore_29, xX13_readShore_30, xX13_readShore_32, xX13_readShore_33, xX13_readShore_35, xX13_readShore_38, xX13_readShore_39, xX13_readShore_40, xX13_readShore_42, xX13_readShore_43, xX13_readShore_45, xX13_readShore_48, xX13_readShore_49, xX13_readShore_50, xX13_readShore_53, xX13_readShore_54, xX13_readShore_55, xX13_readShore_57, xX13_readShore_60, xX13_readShore_62, xX13_readShore_63, xX13_readShore_65, xX13_readShore_66, xX13_readShore_68, xX13_readShore_71, xX13_readShore_73, xX13_readShore_74, xX13_readShore_76, xX13_readShore_77, xX13_readShore_79, xX13_readShore_82, xX13_readShore_84, xX13_readShore_85, xX13_readShore_88, xX13_readShore_89, xX13_readShore_92, xX13_readShore_93, xX13_readShore_94, xX13_readShore_97, xX13_readShore_98, xX13_readShore_101, xX13_readShore_102, xX13_readShore_105, xX13_readShore_106, xX13_readShore_109, xX13_readShore_110, xX13_readShore_113, xX13_readShore_114, xX13_readShore_117, xX13_readShore_118, xX13_readShore_121, xX13_readShore_123, xX13_readShore_126, xX13_readShore_127, xX13_readShore_130, xX13_readShore_132, xX13_readShore_135, xX13_readShore_136, xX13_readShore_139, xX13_readShore_141, xX13_readShore_144, cK_some, ofR_some, ofR_none, Option.toList_some, Option.toList_none, List.cons_append, List.nil_append, isL_i, isL_r, isL_u, isL_2, cs_0, cs_i, cs_r, cs_l, cs_ii, cs_ir, cs_ri, cs_rr, cs_iir, cs_irr, cs_iii, cs_iri, cs_rii, cs_rir, cs_rri, cs_rrr, cs_iiii, cs_iiir, cs_iiri, cs_iirr, cs_irii, cs_irir, cs_irri, cs_irrr, cs_riii, cs_riir, cs_riri, cs_rirr, cs_rrii, cs_rrir, cs_rrri, cs_rrrr, hS_1, hS_2, hS_3, hS_4, hS_5, hS_6, hS_7, hS_8, hS_9, hS_10, hS_11, hS_12, hS_13, hS_14, hS_15, hS_16, hS_17, hS_18, hS_19, hS_20, hS_21, hS_22, hS_23, hS_24, hS_25, hS_26, hS_27, hS_28, hS_29, hS_30, hS_31, hS_32, hS_33, hS_34, hS_35, hS_36, hS_37, hS_38, hS_39, f1', f2', f3', f4, f5', f6', f7', h9, eR7, l2, Nat.add_sub_cancel, Nat.add_zero, Nat.zero_add, nI_lt, nI_nlt, nI_le, nI_ge, nI_pos, pk_sub, nI_clamp, s2_ne, s2_o, s2_s, nI_add, inb_n, nI_nn, zq0, zq1, ↓reduceIte]
      rw [hA]
      simp (disch := first | assumption | (simp (disch := omega) only [cK_some, ofR_some, ofR_none, Option.toList_some, Option.toList_none, List.cons_append, List.nil_append, isL_i, isL_r, isL_u, isL_2, cs_0, cs_i, cs_r, cs_l, cs_ii, cs_ir, cs_ri, cs_rr, cs_iir, cs_irr, cs_iii, cs_iri, cs_rii, cs_rir, cs_rri, cs_rrr, cs_iiii, cs_iiir, cs_iiri, cs_iirr, cs_irii, cs_irir, cs_irri, cs_irrr, cs_riii, cs_riir, cs_riri, cs_rirr, cs_rrii, cs_rrir, cs_rrri, cs_rrrr, hS_1, hS_2, hS_3, hS_4, hS_5, hS_6, hS_7, hS_8, hS_9, hS_10, hS_11, hS_12, hS_13, hS_14, hS_15, hS_16, hS_17, hS_18, hS_19, hS_20, hS_21, hS_22, hS_23, hS_24, hS_25, hS_26, hS_27, hS_28, hS_29, hS_30, hS_31, hS_32, hS_33, hS_34, hS_35, hS_36, hS_37, hS_38, hS_39, inb_n, bq4, bq5, n100, not_false_eq_true, isB_0, isB_1, nI_clamp, nI_nneg, Nat.zero_add, Nat.le_refl]; done) | omega | (simp (disch := omega) only [cK_some, ofR_some, ofR_none, Option.toList_some, Option.toList_none, List.cons_append, List.nil_append, isL_i, isL_r, isL_u, isL_2, cs_0, cs_i, cs_r, cs_l, cs_ii, cs_ir, cs_ri, cs_rr, cs_iir, cs_irr, cs_iii, cs_iri, cs_rii, cs_rir, cs_rri, cs_rrr, cs_iiii, cs_iiir, cs_iiri, cs_iirr, cs_irii, cs_irir, cs_irri, cs_irrr, cs_riii, cs_riir, cs_riri, cs_rirr, cs_rrii, cs_rrir, cs_rrri, cs_rrrr, hS_1, hS_2, hS_3, hS_4, hS_5, hS_6, hS_7, hS_8, hS_9, hS_10, hS_11, hS_12, hS_13, hS_14, hS_15, hS_16, hS_17, hS_18, hS_19, hS_20, hS_21, hS_22, hS_23, hS_24, hS_25, hS_26, hS_27, hS_28, hS_29, hS_30, hS_31, hS_32, hS_33, hS_34, hS_35, hS_36, hS_37, hS_38, hS_39, inb_n, bq4, bq5, n100, not_false_eq_true, isB_0, isB_1, nI_clamp, nI_nneg, Nat.zero_add, Nat.le_refl]; omega)) only [xX13_readShore_145, cK_some, ofR_some, ofR_none, Option.toList_some, Option.toList_none, List.cons_append, List.nil_append, isL_i, isL_r, isL_u, isL_2, cs_0, cs_i, cs_r, cs_l, cs_ii, cs_ir, cs_ri, cs_rr, cs_iir, cs_irr, cs_iii, cs_iri, cs_rii, cs_rir, cs_rri, cs_rrr, cs_iiii, cs_iiir, cs_iiri, cs_iirr, cs_irii, cs_irir, cs_irri, cs_irrr, cs_riii, cs_riir, cs_riri, cs_rirr, cs_rrii, cs_rrir, cs_rrri, cs_rrrr, hS_1, hS_2, hS_3, hS_4, hS_5, hS_6, hS_7, hS_8, hS_9, hS_10, hS_11, hS_12, hS_13, hS_14, hS_15, hS_16, hS_17, hS_18, hS_19, hS_20, hS_21, hS_22, hS_23, hS_24, hS_25, hS_26, hS_27, hS_28, hS_29, hS_30, hS_31, hS_32, hS_33, hS_34, hS_35, hS_36, hS_37, hS_38, hS_39, Nat.add_sub_cancel, Nat.add_zero, Nat.zero_add, nI_lt, nI_nlt, nI_le, nI_ge, nI_pos, pk_sub, nI_clamp, s2_ne, s2_o, s2_s, nI_add, inb_n, nI_nn, zq0, zq1, ↓reduceIte]
      refine Eq.trans hch ?_
      rw [xX13_readShore_147]
      simp (disch := first | assumption | (simp (disch := omega) only [cK_some, ofR_some, ofR_none, Option.toList_some, Option.toList_none, List.cons_append, List.nil_append, isL_i, isL_r, isL_u, isL_2, cs_0, cs_i, cs_r, cs_l, cs_ii, cs_ir, cs_ri, cs_rr, cs_iir, cs_irr, cs_iii, cs_iri, cs_rii, cs_rir, cs_rri, cs_rrr, cs_iiii, cs_iiir, cs_iiri, cs_iirr, cs_irii, cs_irir, cs_irri, cs_irrr, cs_riii, cs_riir, cs_riri, cs_rirr, cs_rrii, cs_rrir, cs_rrri, cs_rrrr, hS_1, hS_2, hS_3, hS_4, hS_5, hS_6, hS_7, hS_8, hS_9, hS_10, hS_11, hS_12, hS_13, hS_14, hS_15, hS_16, hS_17, hS_18, hS_19, hS_20, hS_21, hS_22, hS_23, hS_24, hS_25, hS_26, hS_27, hS_28, hS_29, hS_30, hS_31, hS_32, hS_33, hS_34, hS_35, hS_36, hS_37, hS_38, hS_39, inb_n, bq4, bq5, n100, not_false_eq_true, isB_0, isB_1, nI_clamp, nI_nneg, Nat.zero_add, Nat.le_refl]; done) | omega | (simp (disch := omega) only [cK_some, ofR_some, ofR_none, Option.toList_some, Option.toList_none, List.cons_append, List.nil_append, isL_i, isL_r, isL_u, isL_2, cs_0, cs_i, cs_r, cs_l, cs_ii, cs_ir, cs_ri, cs_rr, cs_iir, cs_irr, cs_iii, cs_iri, cs_rii, cs_rir, cs_rri, cs_rrr, cs_iiii, cs_iiir, cs_iiri, cs_iirr, cs_irii, cs_irir, cs_irri, cs_irrr, cs_riii, cs_riir, cs_riri, cs_rirr, cs_rrii, cs_rrir, cs_rrri, cs_rrrr, hS_1, hS_2, hS_3, hS_4, hS_5, hS_6, hS_7, hS_8, hS_9, hS_10, hS_11, hS_12, hS_13, hS_14, hS_15, hS_16, hS_17, hS_18, hS_19, hS_20, hS_21, hS_22, hS_23, hS_24, hS_25, hS_26, hS_27, hS_28, hS_29, hS_30, hS_31, hS_32, hS_33, hS_34, hS_35, hS_36, hS_37, hS_38, hS_39, inb_n, bq4, bq5, n100, not_false_eq_true, isB_0, isB_1, nI_clamp, nI_nneg, Nat.zero_add, Nat.le_refl]; omega)) only [xX13_readShore_149, xX13_readShore_151, xX13_readShore_154, xX13_readShore_155, xX13_readShore_158, xX13_readShore_161, xX13_readShore_163, xX13_readShore_164, xX13_readShore_165, xX13_readShore_168, xX13_readShore_171, cK_some, ofR_some, ofR_none, Option.toList_some, Option.toList_none, List.cons_append, List.nil_append, isL_i, isL_r, isL_u, isL_2, cs_0, cs_i, cs_r, cs_l, cs_ii, cs_ir, cs_ri, cs_rr, cs_iir, cs_irr, cs_iii, cs_iri, cs_rii, cs_rir, cs_rri, cs_rrr, cs_iiii, cs_iiir, cs_iiri, cs_iirr, cs_irii, cs_irir, cs_irri, cs_irrr, cs_riii, cs_riir, cs_riri, cs_rirr, cs_rrii, cs_rrir, cs_rrri, cs_rrrr, hS_1, hS_2, hS_3, hS_4, hS_5, hS_6, hS_7, hS_8, hS_9, hS_10, hS_11, hS_12, hS_13, hS_14, hS_15, hS_16, hS_17, hS_18, hS_19, hS_20, hS_21, hS_22, hS_23, hS_24, hS_25, hS_26, hS_27, hS_28, hS_29, hS_30, hS_31, hS_32, hS_33, hS_34, hS_35, hS_36, hS_37, hS_38, hS_39, Nat.add_sub_cancel, Nat.add_zero, Nat.zero_add, nI_lt, nI_nlt, nI_le, nI_ge, nI_pos, pk_sub, nI_clamp, s2_ne, s2_o, s2_s, nI_add, inb_n, nI_nn, zq0, zq1, ↓reduceIte]
    · exact gL.fr (fun j => by rw [eA m (by omega) (by omega)]) rfl
    · obtain ⟨-, -, q3, q4, q5, q6, q7, q8⟩ := hrz
      refine ⟨fun h => (by cases h), fun s h => ?_, ?_, ?_, ?_, ?_, ?_, ?_⟩
      · cases h
        refine ⟨⟨?_, ?_, ?_, ?_, ?_, ?_⟩, fun p hp => ?_⟩
        · rw [eR, ← hA, s2_o (by decide), s2_o (by decide), s2_o (by decide), s2_o (by decide), s2_o (by decide), s2_s]
        · rw [eR, ← hA, s2_o (by decide), s2_o (by decide), s2_o (by decide), s2_o (by decide), s2_s]
        · rw [eR, ← hA, s2_o (by decide), s2_o (by decide), s2_o (by decide), s2_s]
        · rw [eR, ← hA, s2_o (by decide), s2_o (by decide), s2_s]
        · rw [eR, ← hA, s2_o (by decide), s2_s]
        · rw [eR, ← hA, s2_s]
        · rw [hf.2 p hp]
          have hn : rSn r p = none := by
            cases hq : rSn r p with
            | none => rfl
            | some k =>
              have w1 := (ho.2.2.2.2.2.2.1 p k hq).2
              have w2 := ho.2.2.2.1 p w1
              have w3 := (ho.2.2.2.2.2.2.2.2.2.2 hnone).1
              omega
          show -1 = encM (rSn r p)
          rw [hn]; rfl
      · show shW A R 6 R 6 = nI (rT r) ∧ shW A R 6 R 7 = nI (rP r) ∧ shW A R 6 R 8 = nI (rN r) ∧ shW A R 6 R 9 = nI (rSt r) ∧ shW A R 6 R 10 = nI (rSc r)
        rw [eB 6 (by omega), eB 7 (by omega), eB 8 (by omega), eB 9 (by omega), eB 10 (by omega)]
        exact q3
      · rw [eA (R + 1) (by omega) (by omega), eA (R + 2) (by omega) (by omega), eA (R + 3) (by omega) (by omega), eA (R + 4) (by omega) (by omega)]; exact q4
      · rw [eA (R + 5) (by omega) (by omega)]; exact q5
      · rw [eA (R + 6) (by omega) (by omega), eA (R + 7) (by omega) (by omega), eA (R + 8) (by omega) (by omega), eA (R + 9) (by omega) (by omega), eA (R + 10) (by omega) (by omega), eA (R + 11) (by omega) (by omega)]; exact q6
      · rw [eA (R + 12) (by omega) (by omega), eA (R + 13) (by omega) (by omega), eA (R + 14) (by omega) (by omega), eA (R + 15) (by omega) (by omega)]; exact q7
      · unfold NmM
        rw [eB 11 (by omega), eA (R + 18) (by omega) (by omega), eA (R + 19) (by omega) (by omega)]; exact q8
    · exact fz.r.tr ⟨fun c h1 h2 => eA c (by omega) (by omega), fun j _ _ _ _ _ _ _ => by rw [eA m (by omega) (by omega)]⟩
