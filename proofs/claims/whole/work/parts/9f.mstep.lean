/-! the model reads a step -/
theorem m_stEnd {d m R e b : Nat} {x : Pst} {B : Nat → Nat} {r : RS} {G : Gm} {I : Im} (hM : MR G m R) (H : MdS G I m B e (.inr b)) (hr : RM G I R B r) (hn : rSt r < 12) :
    ∃ I', ex (d + 5) mX13_readStep 120 [.val (.ref m), .val (.int (nI x.1)), .val (.int (stWho x)), .val (.int (stWhat x)), .val (.int (stLong x))] [] G I = some (none, G, I') ∧ AnM G I' m R B e (.inr (b, addStep r x)) ∧ FR m R I I' := by
  obtain ⟨l1, l2, l3, l4, hS, l6⟩ := id hM
  obtain ⟨s1, s2s, s3, s4, s5, s6, s7, s8⟩ := id hr
  have kS := s3.2.2.2.1
  have hS_1 := hS.1; have hS_2 := hS.2.1; have hS_3 := hS.2.2.1; have hS_4 := hS.2.2.2.1; have hS_5 := hS.2.2.2.2.1; have hS_6 := hS.2.2.2.2.2.1; have hS_7 := hS.2.2.2.2.2.2.1; have hS_8 := hS.2.2.2.2.2.2.2.1; have hS_9 := hS.2.2.2.2.2.2.2.2.1; have hS_10 := hS.2.2.2.2.2.2.2.2.2.1; have hS_11 := hS.2.2.2.2.2.2.2.2.2.2.1; have hS_12 := hS.2.2.2.2.2.2.2.2.2.2.2.1; have hS_13 := hS.2.2.2.2.2.2.2.2.2.2.2.2.1; have hS_14 := hS.2.2.2.2.2.2.2.2.2.2.2.2.2.1; have hS_15 := hS.2.2.2.2.2.2.2.2.2.2.2.2.2.2.1; have hS_16 := hS.2.2.2.2.2.2.2.2.2.2.2.2.2.2.2.1; have hS_17 := hS.2.2.2.2.2.2.2.2.2.2.2.2.2.2.2.2.1; have hS_18 := hS.2.2.2.2.2.2.2.2.2.2.2.2.2.2.2.2.2.1; have hS_19 := hS.2.2.2.2.2.2.2.2.2.2.2.2.2.2.2.2.2.2.1; have hS_20 := hS.2.2.2.2.2.2.2.2.2.2.2.2.2.2.2.2.2.2.2.1; have hS_21 := hS.2.2.2.2.2.2.2.2.2.2.2.2.2.2.2.2.2.2.2.2.1; have hS_22 := hS.2.2.2.2.2.2.2.2.2.2.2.2.2.2.2.2.2.2.2.2.2.1; have hS_23 := hS.2.2.2.2.2.2.2.2.2.2.2.2.2.2.2.2.2.2.2.2.2.2.1; have hS_24 := hS.2.2.2.2.2.2.2.2.2.2.2.2.2.2.2.2.2.2.2.2.2.2.2.1; have hS_25 := hS.2.2.2.2.2.2.2.2.2.2.2.2.2.2.2.2.2.2.2.2.2.2.2.2.1; have hS_26 := hS.2.2.2.2.2.2.2.2.2.2.2.2.2.2.2.2.2.2.2.2.2.2.2.2.2.1; have hS_27 := hS.2.2.2.2.2.2.2.2.2.2.2.2.2.2.2.2.2.2.2.2.2.2.2.2.2.2.1; have hS_28 := hS.2.2.2.2.2.2.2.2.2.2.2.2.2.2.2.2.2.2.2.2.2.2.2.2.2.2.2.1; have hS_29 := hS.2.2.2.2.2.2.2.2.2.2.2.2.2.2.2.2.2.2.2.2.2.2.2.2.2.2.2.2.1; have hS_30 := hS.2.2.2.2.2.2.2.2.2.2.2.2.2.2.2.2.2.2.2.2.2.2.2.2.2.2.2.2.2.1; have hS_31 := hS.2.2.2.2.2.2.2.2.2.2.2.2.2.2.2.2.2.2.2.2.2.2.2.2.2.2.2.2.2.2.1; have hS_32 := hS.2.2.2.2.2.2.2.2.2.2.2.2.2.2.2.2.2.2.2.2.2.2.2.2.2.2.2.2.2.2.2.1; have hS_33 := hS.2.2.2.2.2.2.2.2.2.2.2.2.2.2.2.2.2.2.2.2.2.2.2.2.2.2.2.2.2.2.2.2.1; have hS_34 := hS.2.2.2.2.2.2.2.2.2.2.2.2.2.2.2.2.2.2.2.2.2.2.2.2.2.2.2.2.2.2.2.2.2.1; have hS_35 := hS.2.2.2.2.2.2.2.2.2.2.2.2.2.2.2.2.2.2.2.2.2.2.2.2.2.2.2.2.2.2.2.2.2.2.1; have hS_36 := hS.2.2.2.2.2.2.2.2.2.2.2.2.2.2.2.2.2.2.2.2.2.2.2.2.2.2.2.2.2.2.2.2.2.2.2.1; have hS_37 := hS.2.2.2.2.2.2.2.2.2.2.2.2.2.2.2.2.2.2.2.2.2.2.2.2.2.2.2.2.2.2.2.2.2.2.2.2.1; have hS_38 := hS.2.2.2.2.2.2.2.2.2.2.2.2.2.2.2.2.2.2.2.2.2.2.2.2.2.2.2.2.2.2.2.2.2.2.2.2.2.1; have hS_39 := hS.2.2.2.2.2.2.2.2.2.2.2.2.2.2.2.2.2.2.2.2.2.2.2.2.2.2.2.2.2.2.2.2.2.2.2.2.2.2
  generalize hA : s2 (s2 (s2 (s2 (s2 I (R + 12) (rSt r) (nI x.1)) (R + 13) (rSt r) (stWho x)) (R + 14) (rSt r) (stWhat x)) (R + 15) (rSt r) (stLong x)) R 9 (nI (rSt r + 1)) = A
  have eF : ∀ k, k ≠ 12 → k ≠ 13 → k ≠ 14 → k ≠ 15 → k ≠ 0 → A (R + k) = I (R + k) := fun k q1 q2 q3 q4 q0 => by rw [← hA, s2_ne (by omega), s2_ne (by omega), s2_ne (by omega), s2_ne (by omega), s2_ne (by omega)]
  have e0 : ∀ j, j ≠ 9 → A R j = I R j := fun j hj => by rw [← hA, s2_o hj, s2_ne (by omega), s2_ne (by omega), s2_ne (by omega), s2_ne (by omega)]
  have eM : A m = I m := by rw [← hA, s2_ne (by omega), s2_ne (by omega), s2_ne (by omega), s2_ne (by omega), s2_ne (by omega)]
  refine ⟨A, ?_, ⟨?_, ?_⟩, ?_⟩
  · simp (disch := first | assumption | (simp (disch := omega) only [cK_some, ofR_some, ofR_none, Option.toList_some, Option.toList_none, List.cons_append, List.nil_append, isL_i, isL_r, isL_u, isL_2, cs_0, cs_i, cs_r, cs_l, cs_ii, cs_ir, cs_ri, cs_rr, cs_iir, cs_irr, cs_iii, cs_iri, cs_rii, cs_rir, cs_rri, cs_rrr, cs_iiii, cs_iiir, cs_iiri, cs_iirr, cs_irii, cs_irir, cs_irri, cs_irrr, cs_riii, cs_riir, cs_riri, cs_rirr, cs_rrii, cs_rrir, cs_rrri, cs_rrrr, hS_1, hS_2, hS_3, hS_4, hS_5, hS_6, hS_7, hS_8, hS_9, hS_10, hS_11, hS_12, hS_13, hS_14, hS_15, hS_16, hS_17, hS_18, hS_19, hS_20, hS_21, hS_22, hS_23, hS_24, hS_25, hS_26, hS_27, hS_28, hS_29, hS_30, hS_31, hS_32, hS_33, hS_34, hS_35, hS_36, hS_37, hS_38, hS_39, l1, inb_n, bq4, bq5, n100, not_false_eq_true, isB_0, isB_1, nI_clamp, nI_nneg, Nat.zero_add, Nat.le_refl]; done) | omega | (simp (disch := omega) only [cK_some, ofR_some, ofR_none, Option.toList_some, Option.toList_none, List.cons_append, List.nil_append, isL_i, isL_r, isL_u, isL_2, cs_0, cs_i, cs_r, cs_l, cs_ii, cs_ir, cs_ri, cs_rr, cs_iir, cs_irr, cs_iii, cs_iri, cs_rii, cs_rir, cs_rri, cs_rrr, cs_iiii, cs_iiir, cs_iiri, cs_iirr, cs_irii, cs_irir, cs_irri, cs_irrr, cs_riii, cs_riir, cs_riri, cs_rirr, cs_rrii, cs_rrir, cs_rrri, cs_rrrr, hS_1, hS_2, hS_3, hS_4, hS_5, hS_6, hS_7, hS_8, hS_9, hS_10, hS_11, hS_12, hS_13, hS_14, hS_15, hS_16, hS_17, hS_18, hS_19, hS_20, hS_21, hS_22, hS_23, hS_24, hS_25, hS_26, hS_27, hS_28, hS_29, hS_30, hS_31, hS_32, hS_33, hS_34, hS_35, hS_36, hS_37, hS_38, hS_39, l1, inb_n, bq4, bq5, n100, not_false_eq_true, isB_0, isB_1, nI_clamp, nI_nneg, Nat.zero_add, Nat.le_refl]; omega)) only [xX13_readStep_120, xX13_readStep_121, xX13_readStep_124, xX13_readStep_127, xX13_readStep_128, xX13_readStep_131, xX13_readStep_134, xX13_readStep_135, xX13_readStep_136, xX13_readStep_137, xX13_readStep_140, xX13_readStep_143, xX13_readStep_144, xX13_readStep_147, xX13_readStep_150, xX13_readStep_151, xX13_readStep_152, xX13_readStep_153, xX13_readStep_156, xX13_readStep_159, xX13_readStep_160, xX13_readStep_163, xX13_readStep_166, xX13_readStep_167, xX13_readStep_168, xX13_readStep_169, xX13_readStep_172, xX13_readStep_175, xX13_readStep_176, xX13_readStep_179, xX13_readStep_182, xX13_readStep_184, xX13_readStep_185, xX13_readStep_186, xX13_readStep_189i, xX13_readStep_189r, xX13_readStep_190, xX13_readStep_193, xX13_readStep_194, xX13_readStep_195, xX13_readStep_198, cK_some, ofR_some, ofR_none, Option.toList_some, Option.toList_none, List.cons_append, List.nil_append, isL_i, isL_r, isL_u, isL_2, cs_0, cs_i, cs_r, cs_l, cs_ii, cs_ir, cs_ri, cs_rr, cs_iir, cs_irr, cs_iii, cs_iri, cs_rii, cs_rir, cs_rri, cs_rrr, cs_iiii, cs_iiir, cs_iiri, cs_iirr, cs_irii, cs_irir, cs_irri, cs_irrr, cs_riii, cs_riir, cs_riri, cs_rirr, cs_rrii, cs_rrir, cs_rrri, cs_rrrr, hS_1, hS_2, hS_3, hS_4, hS_5, hS_6, hS_7, hS_8, hS_9, hS_10, hS_11, hS_12, hS_13, hS_14, hS_15, hS_16, hS_17, hS_18, hS_19, hS_20, hS_21, hS_22, hS_23, hS_24, hS_25, hS_26, hS_27, hS_28, hS_29, hS_30, hS_31, hS_32, hS_33, hS_34, hS_35, hS_36, hS_37, hS_38, hS_39, l2, kS, nI_add, Nat.add_sub_cancel, Nat.add_zero, Nat.zero_add, nI_lt, nI_nlt, nI_le, nI_ge, nI_pos, pk_sub, nI_clamp, s2_ne, s2_o, s2_s, nI_add, inb_n, nI_nn, zq0, zq1, ↓reduceIte]
    rw [hA]
  · exact H.fr (fun j => by rw [eM]) rfl
  · refine ⟨?_, fun s hs => ⟨?_, fun p hp => ?_⟩, ⟨?_, ?_, ?_, ?_, ?_⟩, ?_, ?_, ?_, fun i hi => ?_, ?_⟩
    · rw [e0 0 (by decide)]; exact s1
    · rw [e0 0 (by decide), e0 1 (by decide), e0 2 (by decide), e0 3 (by decide), e0 4 (by decide), e0 5 (by decide)]
      exact (s2s s hs).1
    · rw [eF 16 (by decide) (by decide) (by decide) (by decide) (by decide)]; exact (s2s s hs).2 p hp
    · rw [e0 6 (by decide)]; exact s3.1
    · rw [e0 7 (by decide)]; exact s3.2.1
    · rw [e0 8 (by decide)]; exact s3.2.2.1
    · rw [← hA]; exact s2_s
    · rw [e0 10 (by decide)]; exact s3.2.2.2.2
    · rw [eF 1 (by decide) (by decide) (by decide) (by decide) (by decide), eF 2 (by decide) (by decide) (by decide) (by decide) (by decide), eF 3 (by decide) (by decide) (by decide) (by decide) (by decide), eF 4 (by decide) (by decide) (by decide) (by decide) (by decide)]; exact s4
    · rw [eF 5 (by decide) (by decide) (by decide) (by decide) (by decide)]; exact s5
    · rw [eF 6 (by decide) (by decide) (by decide) (by decide) (by decide), eF 7 (by decide) (by decide) (by decide) (by decide) (by decide), eF 8 (by decide) (by decide) (by decide) (by decide) (by decide), eF 9 (by decide) (by decide) (by decide) (by decide) (by decide), eF 10 (by decide) (by decide) (by decide) (by decide) (by decide), eF 11 (by decide) (by decide) (by decide) (by decide) (by decide)]; exact s6
    · have hi' : i < rSt r + 1 := hi
      show A (R + 12) i = nI (if i = rSt r then x else rF r i).1 ∧ A (R + 13) i = stWho (if i = rSt r then x else rF r i) ∧ A (R + 14) i = stWhat (if i = rSt r then x else rF r i) ∧ A (R + 15) i = stLong (if i = rSt r then x else rF r i)
      rw [← hA]
      by_cases c : i = rSt r
      · rw [if_pos c, c]
        refine ⟨?_, ?_, ?_, ?_⟩
        · rw [s2_ne (by omega), s2_ne (by omega), s2_ne (by omega), s2_ne (by omega), s2_s]
        · rw [s2_ne (by omega), s2_ne (by omega), s2_ne (by omega), s2_s]
        · rw [s2_ne (by omega), s2_ne (by omega), s2_s]
        · rw [s2_ne (by omega), s2_s]
      · rw [if_neg c]
        obtain ⟨w1, w2, w3, w4⟩ := s7 i (by omega)
        refine ⟨?_, ?_, ?_, ?_⟩
        · rw [s2_ne (by omega), s2_ne (by omega), s2_ne (by omega), s2_ne (by omega), s2_o c]; exact w1
        · rw [s2_ne (by omega), s2_ne (by omega), s2_ne (by omega), s2_o c, s2_ne (by omega)]; exact w2
        · rw [s2_ne (by omega), s2_ne (by omega), s2_o c, s2_ne (by omega), s2_ne (by omega)]; exact w3
        · rw [s2_ne (by omega), s2_o c, s2_ne (by omega), s2_ne (by omega), s2_ne (by omega)]; exact w4
    · exact s8.fr (e0 11 (by decide)) (eF 18 (by decide) (by decide) (by decide) (by decide) (by decide)) (eF 19 (by decide) (by decide) (by decide) (by decide) (by decide))
  · rw [← hA]
    exact ((((FR.rf.s2 l6 (by omega)).s2 l6 (by omega)).s2 l6 (by omega)).s2 l6 (by omega)).s2 l6 (by omega)
def kn1 (B : Nat → Nat) (e : Nat) (r : RS) (o : Bool) (y0 : Er ⊕ Nat) : Er ⊕ (Nat × Nat) := bnd y0 (fun a => pM B e a (rNn r) (rNm r) o)
/-- where a name told leads, its number in bounds -/
theorem kn1_b {B : Nat → Nat} {e : Nat} {r : RS} {o : Bool} {y0 : Er ⊕ Nat} (ho : ROk e r) (h0 : ∀ a, y0 = .inr a → a ≤ e) : ∀ b, stN (kn1 B e r o y0) = .inr b → vlN 0 (kn1 B e r o y0) < (if o = true then rT r else rN r) ∧ b ≤ e := fun b h => by
  obtain ⟨v, hv, h3⟩ := bnd_le h
  cases h3
  obtain ⟨a0, hy, h4⟩ := bnd_le hv
  rw [hv]
  exact pM_b ho h4 (h0 a0 hy)
def wi3 (B : Nat → Nat) (e : Nat) (r : RS) (y0 : Er ⊕ Nat) : Er ⊕ (Nat × Nat) := wlP B e 0 (rSz r (vlN 0 (kn1 B e r true (stN (kn1 B e r false y0)))) - 1) (stN (kn1 B e r true (stN (kn1 B e r false y0))))
def ha3 (B : Nat → Nat) (e : Nat) (r : RS) (y0 : Er ⊕ Nat) : Er ⊕ (Nat × Nat) := wlP B e 1 60 (stN (kn1 B e r true y0))
theorem wi_all {B : Nat → Nat} {e : Nat} {r : RS} {y0 : Er ⊕ Nat} : (∀ x, stN (wi3 B e r y0) = .inl x → bnd y0 (fun a => lnWipes B e a r) = .inl x) ∧ (∀ c, stN (wi3 B e r y0) = .inr c → bnd y0 (fun a => lnWipes B e a r) = .inr (c, addStep r (0, vlN 0 (kn1 B e r false y0), rFi r (vlN 0 (kn1 B e r true (stN (kn1 B e r false y0)))) + vlN 0 (wi3 B e r y0), 0))) := by
  unfold wi3 kn1 wlP stN lnWipes
  cases y0 with
  | inl x => exact ⟨fun x h => by cases h; rfl, fun b h => by cases h⟩
  | inr a0 =>
    simp only [bnd_r]
    cases h1 : pM B e a0 (rNn r) (rNm r) false with
    | inl x =>
      simp only [bnd_l, bnd_r]
      exact ⟨fun x h => by cases h; rfl, fun b h => by cases h⟩
    | inr v =>
      simp only [bnd_l, bnd_r, vlN]
      cases h2 : pM B e v.2 (rNn r) (rNm r) true with
      | inl x =>
        simp only [bnd_l, bnd_r]
        exact ⟨fun x h => by cases h; rfl, fun b h => by cases h⟩
      | inr t =>
        simp only [bnd_l, bnd_r]
        cases h3 : pN B e t.2 0 (rSz r t.1 - 1) with
        | inl x =>
          simp only [bnd_l, bnd_r]
          exact ⟨fun x h => by cases h; rfl, fun b h => by cases h⟩
        | inr k =>
          simp only [bnd_l, bnd_r]
          exact ⟨fun x h => (by cases h), fun b h => by cases h; rfl⟩
theorem wr_all {B : Nat → Nat} {e : Nat} {r : RS} {y0 : Er ⊕ Nat} : (∀ x, stN (kn1 B e r true y0) = .inl x → bnd y0 (fun a => lnWrings B e a r) = .inl x) ∧ (∀ c, stN (kn1 B e r true y0) = .inr c → bnd y0 (fun a => lnWrings B e a r) = .inr (c, addStep r (1, 0, vlN 0 (kn1 B e r true y0), 0))) := by
  unfold kn1 stN lnWrings
  cases y0 with
  | inl x => exact ⟨fun x h => by cases h; rfl, fun b h => by cases h⟩
  | inr a0 =>
    simp only [bnd_r]
    cases h1 : pM B e a0 (rNn r) (rNm r) true with
    | inl x =>
      simp only [bnd_l, bnd_r]
      exact ⟨fun x h => by cases h; rfl, fun b h => by cases h⟩
    | inr v =>
      simp only [bnd_l, bnd_r, vlN]
      exact ⟨fun x h => (by cases h), fun b h => by cases h; rfl⟩
theorem ha_all {B : Nat → Nat} {e : Nat} {r : RS} {y0 : Er ⊕ Nat} : (∀ x, stN (ha3 B e r y0) = .inl x → bnd y0 (fun a => lnHangs B e a r) = .inl x) ∧ (∀ c, stN (ha3 B e r y0) = .inr c → bnd y0 (fun a => lnHangs B e a r) = .inr (c, addStep r (2, 0, vlN 0 (kn1 B e r true y0), vlN 1 (ha3 B e r y0)))) := by
  unfold ha3 kn1 wlP stN lnHangs
  cases y0 with
  | inl x => exact ⟨fun x h => by cases h; rfl, fun b h => by cases h⟩
  | inr a0 =>
    simp only [bnd_r]
    cases h1 : pM B e a0 (rNn r) (rNm r) true with
    | inl x =>
      simp only [bnd_l, bnd_r]
      exact ⟨fun x h => by cases h; rfl, fun b h => by cases h⟩
    | inr v =>
      simp only [bnd_l, bnd_r, vlN]
      cases h2 : pN B e v.2 1 60 with
      | inl x =>
        simp only [bnd_l, bnd_r]
        exact ⟨fun x h => by cases h; rfl, fun b h => by cases h⟩
      | inr k =>
        simp only [bnd_l, bnd_r]
        exact ⟨fun x h => (by cases h), fun b h => by cases h; rfl⟩
theorem sk_all {B : Nat → Nat} {e : Nat} {r : RS} {y0 : Er ⊕ Nat} : (∀ x, stN (kn1 B e r false y0) = .inl x → bnd y0 (fun a => lnShakes B e a r) = .inl x) ∧ (∀ c, stN (kn1 B e r false y0) = .inr c → bnd y0 (fun a => lnShakes B e a r) = .inr (c, addStep r (3, vlN 0 (kn1 B e r false y0), 0, 0))) := by
  unfold kn1 stN lnShakes
  cases y0 with
  | inl x => exact ⟨fun x h => by cases h; rfl, fun b h => by cases h⟩
  | inr a0 =>
    simp only [bnd_r]
    cases h1 : pM B e a0 (rNn r) (rNm r) false with
    | inl x =>
      simp only [bnd_l, bnd_r]
      exact ⟨fun x h => by cases h; rfl, fun b h => by cases h⟩
    | inr v =>
      simp only [bnd_l, bnd_r, vlN]
      exact ⟨fun x h => (by cases h), fun b h => by cases h; rfl⟩
theorem m_readStep1 {d m R e a : Nat} {B : Nat → Nat} {r : RS} {G : Gm} {I : Im} (hM : MR G m R) (hX : TmV I m B e) (H : MdS G I m B e (.inr a)) (h1 : kK (tk B e a) = 1) (hr : RM G I R B r) (ho : ROk e r) :
    ∃ (G' : Gm) (I' : Im), run (d + 5) mX13_readStep [.ref m, .int (nI 1)] G I = some (none, G', I') ∧ AnM G' I' m R B e (bnd (bgQ B e (decide (rSt r = 12)) r.1.isSome a) (fun a => lnWrings B e a r)) ∧ GL m R G G' ∧ FR m R I I' := by
  have hT3 := ho.2.1.1
  have hS12 := ho.2.1.2.2.2.1
  obtain ⟨l1, l2, l3, l4, hS, l6⟩ := id hM
  obtain ⟨G1, I1, f1, g1, ge1, fm1⟩ := m_bgn (d := d + 2) (many := rSt r) (most := 12) hM hX H h1 hr ho (by omega) (by omega)
  have hle : ∀ a0, bgQ B e (decide (rSt r = 12)) r.1.isSome a = .inr a0 → a0 ≤ e := fun a0 h => (bgQ_e H.2.1 h).2
  have hfu : ∀ a0, bgQ B e (decide (rSt r = 12)) r.1.isSome a = .inr a0 → rSt r < 12 := fun a0 h => by
    have h2 := of_decide_eq_false (bgQ_e H.2.1 h).1
    omega
  generalize bgQ B e (decide (rSt r = 12)) r.1.isSome a = y0 at *
  have eN := hr.2.2.1.2.2.2.1
  have eT1 : gT G1 = gT G := ge1.2.1
  have hr1 := hr.fm l6 ge1 fm1
  obtain ⟨G2, I2, f2, g2, ge2, fm2⟩ := m_readKnown (d := d) (o := true) (hM.ge ge1) (hX.fm fm1) g1 hr1.2.2.2.2.2.2.2 ho.2.2.2.2.2.2.2.1
  have gs2 := GE.tr ge1 ge2
  have fs2 := FM.tr fm1 fm2
  have hr2 := hr.fm l6 gs2 fs2
  have g2' : MdS G2 I2 m B e (stN (kn1 B e r true y0)) := g2
  have f2' : run (d + 4) mX13_readKnown [.ref m, .int (bI true)] G1 I1 = some (some (.int (nI (vlN 0 (kn1 B e r true y0)))), G2, I2) := f2
  rw [bI_1] at f2'
  have eT2 : gT G2 = gT G := gs2.2.1
  have eR2 : gR G2 = gR G := gs2.2.2.1
  have hfl : ∀ c, stN (kn1 B e r true y0) = .inr c → rSt r < 12 := fun c h => by
    obtain ⟨v, hv, -⟩ := bnd_le h
    obtain ⟨a0, hy, -⟩ := bnd_le hv
    exact hfu a0 hy
  obtain ⟨p1, p2⟩ := wr_all (B := B) (e := e) (r := r) (y0 := y0)
  generalize vlN 0 (kn1 B e r true y0) = n2 at *
  have hS_1 := hS.1; have hS_2 := hS.2.1; have hS_3 := hS.2.2.1; have hS_4 := hS.2.2.2.1; have hS_5 := hS.2.2.2.2.1; have hS_6 := hS.2.2.2.2.2.1; have hS_7 := hS.2.2.2.2.2.2.1; have hS_8 := hS.2.2.2.2.2.2.2.1; have hS_9 := hS.2.2.2.2.2.2.2.2.1; have hS_10 := hS.2.2.2.2.2.2.2.2.2.1; have hS_11 := hS.2.2.2.2.2.2.2.2.2.2.1; have hS_12 := hS.2.2.2.2.2.2.2.2.2.2.2.1; have hS_13 := hS.2.2.2.2.2.2.2.2.2.2.2.2.1; have hS_14 := hS.2.2.2.2.2.2.2.2.2.2.2.2.2.1; have hS_15 := hS.2.2.2.2.2.2.2.2.2.2.2.2.2.2.1; have hS_16 := hS.2.2.2.2.2.2.2.2.2.2.2.2.2.2.2.1; have hS_17 := hS.2.2.2.2.2.2.2.2.2.2.2.2.2.2.2.2.1; have hS_18 := hS.2.2.2.2.2.2.2.2.2.2.2.2.2.2.2.2.2.1; have hS_19 := hS.2.2.2.2.2.2.2.2.2.2.2.2.2.2.2.2.2.2.1; have hS_20 := hS.2.2.2.2.2.2.2.2.2.2.2.2.2.2.2.2.2.2.2.1; have hS_21 := hS.2.2.2.2.2.2.2.2.2.2.2.2.2.2.2.2.2.2.2.2.1; have hS_22 := hS.2.2.2.2.2.2.2.2.2.2.2.2.2.2.2.2.2.2.2.2.2.1; have hS_23 := hS.2.2.2.2.2.2.2.2.2.2.2.2.2.2.2.2.2.2.2.2.2.2.1; have hS_24 := hS.2.2.2.2.2.2.2.2.2.2.2.2.2.2.2.2.2.2.2.2.2.2.2.1; have hS_25 := hS.2.2.2.2.2.2.2.2.2.2.2.2.2.2.2.2.2.2.2.2.2.2.2.2.1; have hS_26 := hS.2.2.2.2.2.2.2.2.2.2.2.2.2.2.2.2.2.2.2.2.2.2.2.2.2.1; have hS_27 := hS.2.2.2.2.2.2.2.2.2.2.2.2.2.2.2.2.2.2.2.2.2.2.2.2.2.2.1; have hS_28 := hS.2.2.2.2.2.2.2.2.2.2.2.2.2.2.2.2.2.2.2.2.2.2.2.2.2.2.2.1; have hS_29 := hS.2.2.2.2.2.2.2.2.2.2.2.2.2.2.2.2.2.2.2.2.2.2.2.2.2.2.2.2.1; have hS_30 := hS.2.2.2.2.2.2.2.2.2.2.2.2.2.2.2.2.2.2.2.2.2.2.2.2.2.2.2.2.2.1; have hS_31 := hS.2.2.2.2.2.2.2.2.2.2.2.2.2.2.2.2.2.2.2.2.2.2.2.2.2.2.2.2.2.2.1; have hS_32 := hS.2.2.2.2.2.2.2.2.2.2.2.2.2.2.2.2.2.2.2.2.2.2.2.2.2.2.2.2.2.2.2.1; have hS_33 := hS.2.2.2.2.2.2.2.2.2.2.2.2.2.2.2.2.2.2.2.2.2.2.2.2.2.2.2.2.2.2.2.2.1; have hS_34 := hS.2.2.2.2.2.2.2.2.2.2.2.2.2.2.2.2.2.2.2.2.2.2.2.2.2.2.2.2.2.2.2.2.2.1; have hS_35 := hS.2.2.2.2.2.2.2.2.2.2.2.2.2.2.2.2.2.2.2.2.2.2.2.2.2.2.2.2.2.2.2.2.2.2.1; have hS_36 := hS.2.2.2.2.2.2.2.2.2.2.2.2.2.2.2.2.2.2.2.2.2.2.2.2.2.2.2.2.2.2.2.2.2.2.2.1; have hS_37 := hS.2.2.2.2.2.2.2.2.2.2.2.2.2.2.2.2.2.2.2.2.2.2.2.2.2.2.2.2.2.2.2.2.2.2.2.2.1; have hS_38 := hS.2.2.2.2.2.2.2.2.2.2.2.2.2.2.2.2.2.2.2.2.2.2.2.2.2.2.2.2.2.2.2.2.2.2.2.2.2.1; have hS_39 := hS.2.2.2.2.2.2.2.2.2.2.2.2.2.2.2.2.2.2.2.2.2.2.2.2.2.2.2.2.2.2.2.2.2.2.2.2.2.2
  have n05 : (nI 0 = 0) = True := by decide
  have n15 : (nI 1 = 0) = False := by decide
  have n25 : (nI 2 = 0) = False := by decide
  have n35 : (nI 3 = 0) = False := by decide
  have n03 : (nI 0 = nI 3) = False := by decide
  have n13 : (nI 1 = nI 3) = False := by decide
  have n23 : (nI 2 = nI 3) = False := by decide
  have n02 : (nI 0 = nI 2) = False := by decide
  have n12 : (nI 1 = nI 2) = False := by decide
  have n32 : (nI 3 = nI 2) = False := by decide
  cases hz : stN (kn1 B e r true y0) with
  | inl x =>
    rw [hz] at g2'
    rw [p1 x hz]
    have h9 := g2'.deadT
    refine ⟨G2, I2, ?_, g2', gs2.l, fs2.r⟩
    simp (disch := first | assumption | (simp (disch := omega) only [cK_some, ofR_some, ofR_none, Option.toList_some, Option.toList_none, List.cons_append, List.nil_append, isL_i, isL_r, isL_u, isL_2, cs_0, cs_i, cs_r, cs_l, cs_ii, cs_ir, cs_ri, cs_rr, cs_iir, cs_irr, cs_iii, cs_iri, cs_rii, cs_rir, cs_rri, cs_rrr, cs_iiii, cs_iiir, cs_iiri, cs_iirr, cs_irii, cs_irir, cs_irri, cs_irrr, cs_riii, cs_riir, cs_riri, cs_rirr, cs_rrii, cs_rrir, cs_rrri, cs_rrrr, hS_1, hS_2, hS_3, hS_4, hS_5, hS_6, hS_7, hS_8, hS_9, hS_10, hS_11, hS_12, hS_13, hS_14, hS_15, hS_16, hS_17, hS_18, hS_19, hS_20, hS_21, hS_22, hS_23, hS_24, hS_25, hS_26, hS_27, hS_28, hS_29, hS_30, hS_31, hS_32, hS_33, hS_34, hS_35, hS_36, hS_37, hS_38, hS_39, l1, eT1, eT2, inb_n, bq4, bq5, n100, not_false_eq_true, isB_0, isB_1, nI_clamp, nI_nneg, Nat.zero_add, Nat.le_refl]; done) | omega | (simp (disch := omega) only [cK_some, ofR_some, ofR_none, Option.toList_some, Option.toList_none, List.cons_append, List.nil_append, isL_i, isL_r, isL_u, isL_2, cs_0, cs_i, cs_r, cs_l, cs_ii, cs_ir, cs_ri, cs_rr, cs_iir, cs_irr, cs_iii, cs_iri, cs_rii, cs_rir, cs_rri, cs_rrr, cs_iiii, cs_iiir, cs_iiri, cs_iirr, cs_irii, cs_irir, cs_irri, cs_irrr, cs_riii, cs_riir, cs_riri, cs_rirr, cs_rrii, cs_rrir, cs_rrri, cs_rrrr, hS_1, hS_2, hS_3, hS_4, hS_5, hS_6, hS_7, hS_8, hS_9, hS_10, hS_11, hS_12, hS_13, hS_14, hS_15, hS_16, hS_17, hS_18, hS_19, hS_20, hS_21, hS_22, hS_23, hS_24, hS_25, hS_26, hS_27, hS_28, hS_29, hS_30, hS_31, hS_32, hS_33, hS_34, hS_35, hS_36, hS_37, hS_38, hS_39, l1, eT1, eT2, inb_n, bq4, bq5, n100, not_false_eq_true, isB_0, isB_1, nI_clamp, nI_nneg, Nat.zero_add, Nat.le_refl]; omega)) only [xX13_readStep_0, xX13_readStep_1, xX13_readStep_2, xX13_readStep_5, xX13_readStep_8, xX13_readStep_10, xX13_readStep_13, xX13_readStep_14, xX13_readStep_17, xX13_readStep_18, xX13_readStep_19, xX13_readStep_22, xX13_readStep_23, xX13_readStep_24, xX13_readStep_27, xX13_readStep_30, xX13_readStep_32, xX13_readStep_33, xX13_readStep_34, xX13_readStep_35, xX13_readStep_38, xX13_readStep_40, xX13_readStep_43, xX13_readStep_44, xX13_readStep_45, xX13_readStep_48, xX13_readStep_49, xX13_readStep_50, xX13_readStep_53, xX13_readStep_54, xX13_readStep_57, xX13_readStep_58, xX13_readStep_61, xX13_readStep_62, xX13_readStep_65, xX13_readStep_66, xX13_readStep_69, xX13_readStep_72, xX13_readStep_73, xX13_readStep_74, xX13_readStep_75, xX13_readStep_76, xX13_readStep_77, xX13_readStep_80, xX13_readStep_83, xX13_readStep_84, xX13_readStep_85, xX13_readStep_86, xX13_readStep_87, xX13_readStep_90, xX13_readStep_91, xX13_readStep_92, xX13_readStep_93, xX13_readStep_94, xX13_readStep_97, xX13_readStep_98, xX13_readStep_99, xX13_readStep_101, xX13_readStep_104, xX13_readStep_107, xX13_readStep_109, xX13_readStep_111, xX13_readStep_112, xX13_readStep_115, xX13_readStep_116, xX13_readStep_119, cK_some, ofR_some, ofR_none, Option.toList_some, Option.toList_none, List.cons_append, List.nil_append, isL_i, isL_r, isL_u, isL_2, cs_0, cs_i, cs_r, cs_l, cs_ii, cs_ir, cs_ri, cs_rr, cs_iir, cs_irr, cs_iii, cs_iri, cs_rii, cs_rir, cs_rri, cs_rrr, cs_iiii, cs_iiir, cs_iiri, cs_iirr, cs_irii, cs_irir, cs_irri, cs_irrr, cs_riii, cs_riir, cs_riri, cs_rirr, cs_rrii, cs_rrir, cs_rrri, cs_rrrr, hS_1, hS_2, hS_3, hS_4, hS_5, hS_6, hS_7, hS_8, hS_9, hS_10, hS_11, hS_12, hS_13, hS_14, hS_15, hS_16, hS_17, hS_18, hS_19, hS_20, hS_21, hS_22, hS_23, hS_24, hS_25, hS_26, hS_27, hS_28, hS_29, hS_30, hS_31, hS_32, hS_33, hS_34, hS_35, hS_36, hS_37, hS_38, hS_39, rX13_readStep, l2, eN, f1, f2', h9, n05, n15, n25, n35, n03, n13, n23, n02, n12, n32, Nat.add_sub_cancel, Nat.add_zero, Nat.zero_add, nI_lt, nI_nlt, nI_le, nI_ge, nI_pos, pk_sub, nI_clamp, s2_ne, s2_o, s2_s, nI_add, inb_n, nI_nn, zq0, zq1, ↓reduceIte]
  | inr c =>
    rw [hz] at g2'
    rw [p2 c hz]
    have h9 := g2'.live
    obtain ⟨I', e1, e2, e3⟩ := m_stEnd (d := d) (x := (1, 0, n2, 0)) (hM.ge gs2) g2' hr2 (hfl c hz)
    refine ⟨G2, I', ?_, e2, gs2.l, fs2.r.tr e3⟩
    refine Eq.trans ?_ e1
    simp (disch := first | assumption | (simp (disch := omega) only [cK_some, ofR_some, ofR_none, Option.toList_some, Option.toList_none, List.cons_append, List.nil_append, isL_i, isL_r, isL_u, isL_2, cs_0, cs_i, cs_r, cs_l, cs_ii, cs_ir, cs_ri, cs_rr, cs_iir, cs_irr, cs_iii, cs_iri, cs_rii, cs_rir, cs_rri, cs_rrr, cs_iiii, cs_iiir, cs_iiri, cs_iirr, cs_irii, cs_irir, cs_irri, cs_irrr, cs_riii, cs_riir, cs_riri, cs_rirr, cs_rrii, cs_rrir, cs_rrri, cs_rrrr, hS_1, hS_2, hS_3, hS_4, hS_5, hS_6, hS_7, hS_8, hS_9, hS_10, hS_11, hS_12, hS_13, hS_14, hS_15, hS_16, hS_17, hS_18, hS_19, hS_20, hS_21, hS_22, hS_23, hS_24, hS_25, hS_26, hS_27, hS_28, hS_29, hS_30, hS_31, hS_32, hS_33, hS_34, hS_35, hS_36, hS_37, hS_38, hS_39, l1, eT1, eT2, inb_n, bq4, bq5, n100, not_false_eq_true, isB_0, isB_1, nI_clamp, nI_nneg, Nat.zero_add, Nat.le_refl]; done) | omega | (simp (disch := omega) only [cK_some, ofR_some, ofR_none, Option.toList_some, Option.toList_none, List.cons_append, List.nil_append, isL_i, isL_r, isL_u, isL_2, cs_0, cs_i, cs_r, cs_l, cs_ii, cs_ir, cs_ri, cs_rr, cs_iir, cs_irr, cs_iii, cs_iri, cs_rii, cs_rir, cs_rri, cs_rrr, cs_iiii, cs_iiir, cs_iiri, cs_iirr, cs_irii, cs_irir, cs_irri, cs_irrr, cs_riii, cs_riir, cs_riri, cs_rirr, cs_rrii, cs_rrir, cs_rrri, cs_rrrr, hS_1, hS_2, hS_3, hS_4, hS_5, hS_6, hS_7, hS_8, hS_9, hS_10, hS_11, hS_12, hS_13, hS_14, hS_15, hS_16, hS_17, hS_18, hS_19, hS_20, hS_21, hS_22, hS_23, hS_24, hS_25, hS_26, hS_27, hS_28, hS_29, hS_30, hS_31, hS_32, hS_33, hS_34, hS_35, hS_36, hS_37, hS_38, hS_39, l1, eT1, eT2, inb_n, bq4, bq5, n100, not_false_eq_true, isB_0, isB_1, nI_clamp, nI_nneg, Nat.zero_add, Nat.le_refl]; omega)) only [xX13_readStep_0, xX13_readStep_1, xX13_readStep_2, xX13_readStep_5, xX13_readStep_8, xX13_readStep_10, xX13_readStep_13, xX13_readStep_14, xX13_readStep_17, xX13_readStep_18, xX13_readStep_19, xX13_readStep_22, xX13_readStep_23, xX13_readStep_24, xX13_readStep_27, xX13_readStep_30, xX13_readStep_32, xX13_readStep_33, xX13_readStep_34, xX13_readStep_35, xX13_readStep_38, xX13_readStep_40, xX13_readStep_43, xX13_readStep_44, xX13_readStep_45, xX13_readStep_48, xX13_readStep_49, xX13_readStep_50, xX13_readStep_53, xX13_readStep_54, xX13_readStep_57, xX13_readStep_58, xX13_readStep_61, xX13_readStep_62, xX13_readStep_65, xX13_readStep_66, xX13_readStep_69, xX13_readStep_72, xX13_readStep_73, xX13_readStep_74, xX13_readStep_75, xX13_readStep_76, xX13_readStep_77, xX13_readStep_80, xX13_readStep_83, xX13_readStep_84, xX13_readStep_85, xX13_readStep_86, xX13_readStep_87, xX13_readStep_90, xX13_readStep_91, xX13_readStep_92, xX13_readStep_93, xX13_readStep_94, xX13_readStep_97, xX13_readStep_98, xX13_readStep_99, xX13_readStep_101, xX13_readStep_104, xX13_readStep_107, xX13_readStep_109, xX13_readStep_111, xX13_readStep_112, xX13_readStep_115, xX13_readStep_116, cK_some, ofR_some, ofR_none, Option.toList_some, Option.toList_none, List.cons_append, List.nil_append, isL_i, isL_r, isL_u, isL_2, cs_0, cs_i, cs_r, cs_l, cs_ii, cs_ir, cs_ri, cs_rr, cs_iir, cs_irr, cs_iii, cs_iri, cs_rii, cs_rir, cs_rri, cs_rrr, cs_iiii, cs_iiir, cs_iiri, cs_iirr, cs_irii, cs_irir, cs_irri, cs_irrr, cs_riii, cs_riir, cs_riri, cs_rirr, cs_rrii, cs_rrir, cs_rrri, cs_rrrr, hS_1, hS_2, hS_3, hS_4, hS_5, hS_6, hS_7, hS_8, hS_9, hS_10, hS_11, hS_12, hS_13, hS_14, hS_15, hS_16, hS_17, hS_18, hS_19, hS_20, hS_21, hS_22, hS_23, hS_24, hS_25, hS_26, hS_27, hS_28, hS_29, hS_30, hS_31, hS_32, hS_33, hS_34, hS_35, hS_36, hS_37, hS_38, hS_39, rX13_readStep, l2, eN, f1, f2', h9, n05, n15, n25, n35, n03, n13, n23, n02, n12, n32, Nat.add_sub_cancel, Nat.add_zero, Nat.zero_add, nI_lt, nI_nlt, nI_le, nI_ge, nI_pos, pk_sub, nI_clamp, s2_ne, s2_o, s2_s, nI_add, inb_n, nI_nn, zq0, zq1, ↓reduceIte]
    rfl
theorem m_readStep3 {d m R e a : Nat} {B : Nat → Nat} {r : RS} {G : Gm} {I : Im} (hM : MR G m R) (hX : TmV I m B e) (H : MdS G I m B e (.inr a)) (h1 : kK (tk B e a) = 1) (hr : RM G I R B r) (ho : ROk e r) :
    ∃ (G' : Gm) (I' : Im), run (d + 5) mX13_readStep [.ref m, .int (nI 3)] G I = some (none, G', I') ∧ AnM G' I' m R B e (bnd (bgQ B e (decide (rSt r = 12)) r.1.isSome a) (fun a => lnShakes B e a r)) ∧ GL m R G G' ∧ FR m R I I' := by
  have hT3 := ho.2.1.1
  have hS12 := ho.2.1.2.2.2.1
  obtain ⟨l1, l2, l3, l4, hS, l6⟩ := id hM
  obtain ⟨G1, I1, f1, g1, ge1, fm1⟩ := m_bgn (d := d + 2) (many := rSt r) (most := 12) hM hX H h1 hr ho (by omega) (by omega)
  have hle : ∀ a0, bgQ B e (decide (rSt r = 12)) r.1.isSome a = .inr a0 → a0 ≤ e := fun a0 h => (bgQ_e H.2.1 h).2
  have hfu : ∀ a0, bgQ B e (decide (rSt r = 12)) r.1.isSome a = .inr a0 → rSt r < 12 := fun a0 h => by
    have h2 := of_decide_eq_false (bgQ_e H.2.1 h).1
    omega
  generalize bgQ B e (decide (rSt r = 12)) r.1.isSome a = y0 at *
  have eN := hr.2.2.1.2.2.2.1
  have eT1 : gT G1 = gT G := ge1.2.1
  have hr1 := hr.fm l6 ge1 fm1
  obtain ⟨G2, I2, f2, g2, ge2, fm2⟩ := m_readKnown (d := d) (o := false) (hM.ge ge1) (hX.fm fm1) g1 hr1.2.2.2.2.2.2.2 ho.2.2.2.2.2.2.2.1
  have gs2 := GE.tr ge1 ge2
  have fs2 := FM.tr fm1 fm2
  have hr2 := hr.fm l6 gs2 fs2
  have g2' : MdS G2 I2 m B e (stN (kn1 B e r false y0)) := g2
  have f2' : run (d + 4) mX13_readKnown [.ref m, .int (bI false)] G1 I1 = some (some (.int (nI (vlN 0 (kn1 B e r false y0)))), G2, I2) := f2
  rw [bI_0] at f2'
  have eT2 : gT G2 = gT G := gs2.2.1
  have eR2 : gR G2 = gR G := gs2.2.2.1
  have hfl : ∀ c, stN (kn1 B e r false y0) = .inr c → rSt r < 12 := fun c h => by
    obtain ⟨v, hv, -⟩ := bnd_le h
    obtain ⟨a0, hy, -⟩ := bnd_le hv
    exact hfu a0 hy
  obtain ⟨p1, p2⟩ := sk_all (B := B) (e := e) (r := r) (y0 := y0)
  generalize vlN 0 (kn1 B e r false y0) = n2 at *
  have hS_1 := hS.1; have hS_2 := hS.2.1; have hS_3 := hS.2.2.1; have hS_4 := hS.2.2.2.1; have hS_5 := hS.2.2.2.2.1; have hS_6 := hS.2.2.2.2.2.1; have hS_7 := hS.2.2.2.2.2.2.1; have hS_8 := hS.2.2.2.2.2.2.2.1; have hS_9 := hS.2.2.2.2.2.2.2.2.1; have hS_10 := hS.2.2.2.2.2.2.2.2.2.1; have hS_11 := hS.2.2.2.2.2.2.2.2.2.2.1; have hS_12 := hS.2.2.2.2.2.2.2.2.2.2.2.1; have hS_13 := hS.2.2.2.2.2.2.2.2.2.2.2.2.1; have hS_14 := hS.2.2.2.2.2.2.2.2.2.2.2.2.2.1; have hS_15 := hS.2.2.2.2.2.2.2.2.2.2.2.2.2.2.1; have hS_16 := hS.2.2.2.2.2.2.2.2.2.2.2.2.2.2.2.1; have hS_17 := hS.2.2.2.2.2.2.2.2.2.2.2.2.2.2.2.2.1; have hS_18 := hS.2.2.2.2.2.2.2.2.2.2.2.2.2.2.2.2.2.1; have hS_19 := hS.2.2.2.2.2.2.2.2.2.2.2.2.2.2.2.2.2.2.1; have hS_20 := hS.2.2.2.2.2.2.2.2.2.2.2.2.2.2.2.2.2.2.2.1; have hS_21 := hS.2.2.2.2.2.2.2.2.2.2.2.2.2.2.2.2.2.2.2.2.1; have hS_22 := hS.2.2.2.2.2.2.2.2.2.2.2.2.2.2.2.2.2.2.2.2.2.1; have hS_23 := hS.2.2.2.2.2.2.2.2.2.2.2.2.2.2.2.2.2.2.2.2.2.2.1; have hS_24 := hS.2.2.2.2.2.2.2.2.2.2.2.2.2.2.2.2.2.2.2.2.2.2.2.1; have hS_25 := hS.2.2.2.2.2.2.2.2.2.2.2.2.2.2.2.2.2.2.2.2.2.2.2.2.1; have hS_26 := hS.2.2.2.2.2.2.2.2.2.2.2.2.2.2.2.2.2.2.2.2.2.2.2.2.2.1; have hS_27 := hS.2.2.2.2.2.2.2.2.2.2.2.2.2.2.2.2.2.2.2.2.2.2.2.2.2.2.1; have hS_28 := hS.2.2.2.2.2.2.2.2.2.2.2.2.2.2.2.2.2.2.2.2.2.2.2.2.2.2.2.1; have hS_29 := hS.2.2.2.2.2.2.2.2.2.2.2.2.2.2.2.2.2.2.2.2.2.2.2.2.2.2.2.2.1; have hS_30 := hS.2.2.2.2.2.2.2.2.2.2.2.2.2.2.2.2.2.2.2.2.2.2.2.2.2.2.2.2.2.1; have hS_31 := hS.2.2.2.2.2.2.2.2.2.2.2.2.2.2.2.2.2.2.2.2.2.2.2.2.2.2.2.2.2.2.1; have hS_32 := hS.2.2.2.2.2.2.2.2.2.2.2.2.2.2.2.2.2.2.2.2.2.2.2.2.2.2.2.2.2.2.2.1; have hS_33 := hS.2.2.2.2.2.2.2.2.2.2.2.2.2.2.2.2.2.2.2.2.2.2.2.2.2.2.2.2.2.2.2.2.1; have hS_34 := hS.2.2.2.2.2.2.2.2.2.2.2.2.2.2.2.2.2.2.2.2.2.2.2.2.2.2.2.2.2.2.2.2.2.1; have hS_35 := hS.2.2.2.2.2.2.2.2.2.2.2.2.2.2.2.2.2.2.2.2.2.2.2.2.2.2.2.2.2.2.2.2.2.2.1; have hS_36 := hS.2.2.2.2.2.2.2.2.2.2.2.2.2.2.2.2.2.2.2.2.2.2.2.2.2.2.2.2.2.2.2.2.2.2.2.1; have hS_37 := hS.2.2.2.2.2.2.2.2.2.2.2.2.2.2.2.2.2.2.2.2.2.2.2.2.2.2.2.2.2.2.2.2.2.2.2.2.1; have hS_38 := hS.2.2.2.2.2.2.2.2.2.2.2.2.2.2.2.2.2.2.2.2.2.2.2.2.2.2.2.2.2.2.2.2.2.2.2.2.2.1; have hS_39 := hS.2.2.2.2.2.2.2.2.2.2.2.2.2.2.2.2.2.2.2.2.2.2.2.2.2.2.2.2.2.2.2.2.2.2.2.2.2.2
  have n05 : (nI 0 = 0) = True := by decide
  have n15 : (nI 1 = 0) = False := by decide
  have n25 : (nI 2 = 0) = False := by decide
  have n35 : (nI 3 = 0) = False := by decide
  have n03 : (nI 0 = nI 3) = False := by decide
  have n13 : (nI 1 = nI 3) = False := by decide
  have n23 : (nI 2 = nI 3) = False := by decide
  have n02 : (nI 0 = nI 2) = False := by decide
  have n12 : (nI 1 = nI 2) = False := by decide
  have n32 : (nI 3 = nI 2) = False := by decide
  cases hz : stN (kn1 B e r false y0) with
  | inl x =>
    rw [hz] at g2'
    rw [p1 x hz]
    have h9 := g2'.deadT
    refine ⟨G2, I2, ?_, g2', gs2.l, fs2.r⟩
    simp (disch := first | assumption | (simp (disch := omega) only [cK_some, ofR_some, ofR_none, Option.toList_some, Option.toList_none, List.cons_append, List.nil_append, isL_i, isL_r, isL_u, isL_2, cs_0, cs_i, cs_r, cs_l, cs_ii, cs_ir, cs_ri, cs_rr, cs_iir, cs_irr, cs_iii, cs_iri, cs_rii, cs_rir, cs_rri, cs_rrr, cs_iiii, cs_iiir, cs_iiri, cs_iirr, cs_irii, cs_irir, cs_irri, cs_irrr, cs_riii, cs_riir, cs_riri, cs_rirr, cs_rrii, cs_rrir, cs_rrri, cs_rrrr, hS_1, hS_2, hS_3, hS_4, hS_5, hS_6, hS_7, hS_8, hS_9, hS_10, hS_11, hS_12, hS_13, hS_14, hS_15, hS_16, hS_17, hS_18, hS_19, hS_20, hS_21, hS_22, hS_23, hS_24, hS_25, hS_26, hS_27, hS_28, hS_29, hS_30, hS_31, hS_32, hS_33, hS_34, hS_35, hS_36, hS_37, hS_38, hS_39, l1, eT1, eT2, inb_n, bq4, bq5, n100, not_false_eq_true, isB_0, isB_1, nI_clamp, nI_nneg, Nat.zero_add, Nat.le_refl]; done) | omega | (simp (disch := omega) only [cK_some, ofR_some, ofR_none, Option.toList_some, Option.toList_none, List.cons_append, List.nil_append, isL_i, isL_r, isL_u, isL_2, cs_0, cs_i, cs_r, cs_l, cs_ii, cs_ir, cs_ri, cs_rr, cs_iir, cs_irr, cs_iii, cs_iri, cs_rii, cs_rir, cs_rri, cs_rrr, cs_iiii, cs_iiir, cs_iiri, cs_iirr, cs_irii, cs_irir, cs_irri, cs_irrr, cs_riii, cs_riir, cs_riri, cs_rirr, cs_rrii, cs_rrir, cs_rrri, cs_rrrr, hS_1, hS_2, hS_3, hS_4, hS_5, hS_6, hS_7, hS_8, hS_9, hS_10, hS_11, hS_12, hS_13, hS_14, hS_15, hS_16, hS_17, hS_18, hS_19, hS_20, hS_21, hS_22, hS_23, hS_24, hS_25, hS_26, hS_27, hS_28, hS_29, hS_30, hS_31, hS_32, hS_33, hS_34, hS_35, hS_36, hS_37, hS_38, hS_39, l1, eT1, eT2, inb_n, bq4, bq5, n100, not_false_eq_true, isB_0, isB_1, nI_clamp, nI_nneg, Nat.zero_add, Nat.le_refl]; omega)) only [xX13_readStep_0, xX13_readStep_1, xX13_readStep_2, xX13_readStep_5, xX13_readStep_8, xX13_readStep_10, xX13_readStep_13, xX13_readStep_14, xX13_readStep_17, xX13_readStep_18, xX13_readStep_19, xX13_readStep_22, xX13_readStep_23, xX13_readStep_24, xX13_readStep_27, xX13_readStep_30, xX13_readStep_32, xX13_readStep_33, xX13_readStep_34, xX13_readStep_35, xX13_readStep_38, xX13_readStep_40, xX13_readStep_43, xX13_readStep_44, xX13_readStep_45, xX13_readStep_48, xX13_readStep_49, xX13_readStep_50, xX13_readStep_53, xX13_readStep_54, xX13_readStep_57, xX13_readStep_58, xX13_readStep_61, xX13_readStep_62, xX13_readStep_65, xX13_readStep_66, xX13_readStep_69, xX13_readStep_72, xX13_readStep_73, xX13_readStep_74, xX13_readStep_75, xX13_readStep_76, xX13_readStep_77, xX13_readStep_80, xX13_readStep_83, xX13_readStep_84, xX13_readStep_85, xX13_readStep_86, xX13_readStep_87, xX13_readStep_90, xX13_readStep_91, xX13_readStep_92, xX13_readStep_93, xX13_readStep_94, xX13_readStep_97, xX13_readStep_98, xX13_readStep_99, xX13_readStep_101, xX13_readStep_104, xX13_readStep_107, xX13_readStep_109, xX13_readStep_111, xX13_readStep_112, xX13_readStep_115, xX13_readStep_116, xX13_readStep_119, cK_some, ofR_some, ofR_none, Option.toList_some, Option.toList_none, List.cons_append, List.nil_append, isL_i, isL_r, isL_u, isL_2, cs_0, cs_i, cs_r, cs_l, cs_ii, cs_ir, cs_ri, cs_rr, cs_iir, cs_irr, cs_iii, cs_iri, cs_rii, cs_rir, cs_rri, cs_rrr, cs_iiii, cs_iiir, cs_iiri, cs_iirr, cs_irii, cs_irir, cs_irri, cs_irrr, cs_riii, cs_riir, cs_riri, cs_rirr, cs_rrii, cs_rrir, cs_rrri, cs_rrrr, hS_1, hS_2, hS_3, hS_4, hS_5, hS_6, hS_7, hS_8, hS_9, hS_10, hS_11, hS_12, hS_13, hS_14, hS_15, hS_16, hS_17, hS_18, hS_19, hS_20, hS_21, hS_22, hS_23, hS_24, hS_25, hS_26, hS_27, hS_28, hS_29, hS_30, hS_31, hS_32, hS_33, hS_34, hS_35, hS_36, hS_37, hS_38, hS_39, rX13_readStep, l2, eN, f1, f2', h9, n05, n15, n25, n35, n03, n13, n23, n02, n12, n32, Nat.add_sub_cancel, Nat.add_zero, Nat.zero_add, nI_lt, nI_nlt, nI_le, nI_ge, nI_pos, pk_sub, nI_clamp, s2_ne, s2_o, s2_s, nI_add, inb_n, nI_nn, zq0, zq1, ↓reduceIte]
  | inr c =>
    rw [hz] at g2'
    rw [p2 c hz]
    have h9 := g2'.live
    obtain ⟨I', e1, e2, e3⟩ := m_stEnd (d := d) (x := (3, n2, 0, 0)) (hM.ge gs2) g2' hr2 (hfl c hz)
    refine ⟨G2, I', ?_, e2, gs2.l, fs2.r.tr e3⟩
    refine Eq.trans ?_ e1
    simp (disch := first | assumption | (simp (disch := omega) only [cK_some, ofR_some, ofR_none, Option.toList_some, Option.toList_none, List.cons_append, List.nil_append, isL_i, isL_r, isL_u, isL_2, cs_0, cs_i, cs_r, cs_l, cs_ii, cs_ir, cs_ri, cs_rr, cs_iir, cs_irr, cs_iii, cs_iri, cs_rii, cs_rir, cs_rri, cs_rrr, cs_iiii, cs_iiir, cs_iiri, cs_iirr, cs_irii, cs_irir, cs_irri, cs_irrr, cs_riii, cs_riir, cs_riri, cs_rirr, cs_rrii, cs_rrir, cs_rrri, cs_rrrr, hS_1, hS_2, hS_3, hS_4, hS_5, hS_6, hS_7, hS_8, hS_9, hS_10, hS_11, hS_12, hS_13, hS_14, hS_15, hS_16, hS_17, hS_18, hS_19, hS_20, hS_21, hS_22, hS_23, hS_24, hS_25, hS_26, hS_27, hS_28, hS_29, hS_30, hS_31, hS_32, hS_33, hS_34, hS_35, hS_36, hS_37, hS_38, hS_39, l1, eT1, eT2, inb_n, bq4, bq5, n100, not_false_eq_true, isB_0, isB_1, nI_clamp, nI_nneg, Nat.zero_add, Nat.le_refl]; done) | omega | (simp (disch := omega) only [cK_some, ofR_some, ofR_none, Option.toList_some, Option.toList_none, List.cons_append, List.nil_append, isL_i, isL_r, isL_u, isL_2, cs_0, cs_i, cs_r, cs_l, cs_ii, cs_ir, cs_ri, cs_rr, cs_iir, cs_irr, cs_iii, cs_iri, cs_rii, cs_rir, cs_rri, cs_rrr, cs_iiii, cs_iiir, cs_iiri, cs_iirr, cs_irii, cs_irir, cs_irri, cs_irrr, cs_riii, cs_riir, cs_riri, cs_rirr, cs_rrii, cs_rrir, cs_rrri, cs_rrrr, hS_1, hS_2, hS_3, hS_4, hS_5, hS_6, hS_7, hS_8, hS_9, hS_10, hS_11, hS_12, hS_13, hS_14, hS_15, hS_16, hS_17, hS_18, hS_19, hS_20, hS_21, hS_22, hS_23, hS_24, hS_25, hS_26, hS_27, hS_28, hS_29, hS_30, hS_31, hS_32, hS_33, hS_34, hS_35, hS_36, hS_37, hS_38, hS_39, l1, eT1, eT2, inb_n, bq4, bq5, n100, not_false_eq_true, isB_0, isB_1, nI_clamp, nI_nneg, Nat.zero_add, Nat.le_refl]; omega)) only [xX13_readStep_0, xX13_readStep_1, xX13_readStep_2, xX13_readStep_5, xX13_readStep_8, xX13_readStep_10, xX13_readStep_13, xX13_readStep_14, xX13_readStep_17, xX13_readStep_18, xX13_readStep_19, xX13_readStep_22, xX13_readStep_23, xX13_readStep_24, xX13_readStep_27, xX13_readStep_30, xX13_readStep_32, xX13_readStep_33, xX13_readStep_34, xX13_readStep_35, xX13_readStep_38, xX13_readStep_40, xX13_readStep_43, xX13_readStep_44, xX13_readStep_45, xX13_readStep_48, xX13_readStep_49, xX13_readStep_50, xX13_readStep_53, xX13_readStep_54, xX13_readStep_57, xX13_readStep_58, xX13_readStep_61, xX13_readStep_62, xX13_readStep_65, xX13_readStep_66, xX13_readStep_69, xX13_readStep_72, xX13_readStep_73, xX13_readStep_74, xX13_readStep_75, xX13_readStep_76, xX13_readStep_77, xX13_readStep_80, xX13_readStep_83, xX13_readStep_84, xX13_readStep_85, xX13_readStep_86, xX13_readStep_87, xX13_readStep_90, xX13_readStep_91, xX13_readStep_92, xX13_readStep_93, xX13_readStep_94, xX13_readStep_97, xX13_readStep_98, xX13_readStep_99, xX13_readStep_101, xX13_readStep_104, xX13_readStep_107, xX13_readStep_109, xX13_readStep_111, xX13_readStep_112, xX13_readStep_115, xX13_readStep_116, cK_some, ofR_some, ofR_none, Option.toList_some, Option.toList_none, List.cons_append, List.nil_append, isL_i, isL_r, isL_u, isL_2, cs_0, cs_i, cs_r, cs_l, cs_ii, cs_ir, cs_ri, cs_rr, cs_iir, cs_irr, cs_iii, cs_iri, cs_rii, cs_rir, cs_rri, cs_rrr, cs_iiii, cs_iiir, cs_iiri, cs_iirr, cs_irii, cs_irir, cs_irri, cs_irrr, cs_riii, cs_riir, cs_riri, cs_rirr, cs_rrii, cs_rrir, cs_rrri, cs_rrrr, hS_1, hS_2, hS_3, hS_4, hS_5, hS_6, hS_7, hS_8, hS_9, hS_10, hS_11, hS_12, hS_13, hS_14, hS_15, hS_16, hS_17, hS_18, hS_19, hS_20, hS_21, hS_22, hS_23, hS_24, hS_25, hS_26, hS_27, hS_28, hS_29, hS_30, hS_31, hS_32, hS_33, hS_34, hS_35, hS_36, hS_37, hS_38, hS_39, rX13_readStep, l2, eN, f1, f2', h9, n05, n15, n25, n35, n03, n13, n23, n02, n12, n32, Nat.add_sub_cancel, Nat.add_zero, Nat.zero_add, nI_lt, nI_nlt, nI_le, nI_ge, nI_pos, pk_sub, nI_clamp, s2_ne, s2_o, s2_s, nI_add, inb_n, nI_nn, zq0, zq1, ↓reduceIte]
    rfl
theorem m_readStep2 {d m R e a : Nat} {B : Nat → Nat} {r : RS} {G : Gm} {I : Im} (hM : MR G m R) (hX : TmV I m B e) (H : MdS G I m B e (.inr a)) (h1 : kK (tk B e a) = 1) (hr : RM G I R B r) (ho : ROk e r) :
    ∃ (G' : Gm) (I' : Im), run (d + 5) mX13_readStep [.ref m, .int (nI 2)] G I = some (none, G', I') ∧ AnM G' I' m R B e (bnd (bgQ B e (decide (rSt r = 12)) r.1.isSome a) (fun a => lnHangs B e a r)) ∧ GL m R G G' ∧ FR m R I I' := by
  have hT3 := ho.2.1.1
  have hS12 := ho.2.1.2.2.2.1
  obtain ⟨l1, l2, l3, l4, hS, l6⟩ := id hM
  obtain ⟨G1, I1, f1, g1, ge1, fm1⟩ := m_bgn (d := d + 2) (many := rSt r) (most := 12) hM hX H h1 hr ho (by omega) (by omega)
  have hle : ∀ a0, bgQ B e (decide (rSt r = 12)) r.1.isSome a = .inr a0 → a0 ≤ e := fun a0 h => (bgQ_e H.2.1 h).2
  have hfu : ∀ a0, bgQ B e (decide (rSt r = 12)) r.1.isSome a = .inr a0 → rSt r < 12 := fun a0 h => by
    have h2 := of_decide_eq_false (bgQ_e H.2.1 h).1
    omega
  generalize bgQ B e (decide (rSt r = 12)) r.1.isSome a = y0 at *
  have eN := hr.2.2.1.2.2.2.1
  have eT1 : gT G1 = gT G := ge1.2.1
  have hr1 := hr.fm l6 ge1 fm1
  obtain ⟨G2, I2, f2, g2, ge2, fm2⟩ := m_readKnown (d := d) (o := true) (hM.ge ge1) (hX.fm fm1) g1 hr1.2.2.2.2.2.2.2 ho.2.2.2.2.2.2.2.1
  have gs2 := GE.tr ge1 ge2
  have fs2 := FM.tr fm1 fm2
  have hr2 := hr.fm l6 gs2 fs2
  have g2' : MdS G2 I2 m B e (stN (kn1 B e r true y0)) := g2
  have f2' : run (d + 4) mX13_readKnown [.ref m, .int (bI true)] G1 I1 = some (some (.int (nI (vlN 0 (kn1 B e r true y0)))), G2, I2) := f2
  rw [bI_1] at f2'
  have eT2 : gT G2 = gT G := gs2.2.1
  have eR2 : gR G2 = gR G := gs2.2.2.1
  obtain ⟨G3, I3, f3, g3, ge3, fm3⟩ := m_readWhole (d := d + 2) (lo := 1) (hi := 60) (hM.ge gs2) (hX.fm fs2) g2' (by decide) (by decide)
  have gs3 := gs2.tr ge3
  have fs3 := fs2.tr fm3
  have hr3 := hr.fm l6 gs3 fs3
  have eT3 : gT G3 = gT G := gs3.2.1
  have g3' : MdS G3 I3 m B e (stN (ha3 B e r y0)) := g3
  have f3' : run (d + 4) mX13_readWhole [.ref m, .int (nI 1), .int (nI 60)] G2 I2 = some (some (.int (nI (vlN 1 (ha3 B e r y0)))), G3, I3) := f3
  have hfl : ∀ c, stN (ha3 B e r y0) = .inr c → rSt r < 12 := fun c h => by
    obtain ⟨v, hv, -⟩ := bnd_le h
    obtain ⟨a1, hq, -⟩ := bnd_le hv
    obtain ⟨v2, hv2, -⟩ := bnd_le hq
    obtain ⟨a0, hy, -⟩ := bnd_le hv2
    exact hfu a0 hy
  obtain ⟨p1, p2⟩ := ha_all (B := B) (e := e) (r := r) (y0 := y0)
  generalize vlN 1 (ha3 B e r y0) = n3 at *
  generalize vlN 0 (kn1 B e r true y0) = n2 at *
  have hS_1 := hS.1; have hS_2 := hS.2.1; have hS_3 := hS.2.2.1; have hS_4 := hS.2.2.2.1; have hS_5 := hS.2.2.2.2.1; have hS_6 := hS.2.2.2.2.2.1; have hS_7 := hS.2.2.2.2.2.2.1; have hS_8 := hS.2.2.2.2.2.2.2.1; have hS_9 := hS.2.2.2.2.2.2.2.2.1; have hS_10 := hS.2.2.2.2.2.2.2.2.2.1; have hS_11 := hS.2.2.2.2.2.2.2.2.2.2.1; have hS_12 := hS.2.2.2.2.2.2.2.2.2.2.2.1; have hS_13 := hS.2.2.2.2.2.2.2.2.2.2.2.2.1; have hS_14 := hS.2.2.2.2.2.2.2.2.2.2.2.2.2.1; have hS_15 := hS.2.2.2.2.2.2.2.2.2.2.2.2.2.2.1; have hS_16 := hS.2.2.2.2.2.2.2.2.2.2.2.2.2.2.2.1; have hS_17 := hS.2.2.2.2.2.2.2.2.2.2.2.2.2.2.2.2.1; have hS_18 := hS.2.2.2.2.2.2.2.2.2.2.2.2.2.2.2.2.2.1; have hS_19 := hS.2.2.2.2.2.2.2.2.2.2.2.2.2.2.2.2.2.2.1; have hS_20 := hS.2.2.2.2.2.2.2.2.2.2.2.2.2.2.2.2.2.2.2.1; have hS_21 := hS.2.2.2.2.2.2.2.2.2.2.2.2.2.2.2.2.2.2.2.2.1; have hS_22 := hS.2.2.2.2.2.2.2.2.2.2.2.2.2.2.2.2.2.2.2.2.2.1; have hS_23 := hS.2.2.2.2.2.2.2.2.2.2.2.2.2.2.2.2.2.2.2.2.2.2.1; have hS_24 := hS.2.2.2.2.2.2.2.2.2.2.2.2.2.2.2.2.2.2.2.2.2.2.2.1; have hS_25 := hS.2.2.2.2.2.2.2.2.2.2.2.2.2.2.2.2.2.2.2.2.2.2.2.2.1; have hS_26 := hS.2.2.2.2.2.2.2.2.2.2.2.2.2.2.2.2.2.2.2.2.2.2.2.2.2.1; have hS_27 := hS.2.2.2.2.2.2.2.2.2.2.2.2.2.2.2.2.2.2.2.2.2.2.2.2.2.2.1; have hS_28 := hS.2.2.2.2.2.2.2.2.2.2.2.2.2.2.2.2.2.2.2.2.2.2.2.2.2.2.2.1; have hS_29 := hS.2.2.2.2.2.2.2.2.2.2.2.2.2.2.2.2.2.2.2.2.2.2.2.2.2.2.2.2.1; have hS_30 := hS.2.2.2.2.2.2.2.2.2.2.2.2.2.2.2.2.2.2.2.2.2.2.2.2.2.2.2.2.2.1; have hS_31 := hS.2.2.2.2.2.2.2.2.2.2.2.2.2.2.2.2.2.2.2.2.2.2.2.2.2.2.2.2.2.2.1; have hS_32 := hS.2.2.2.2.2.2.2.2.2.2.2.2.2.2.2.2.2.2.2.2.2.2.2.2.2.2.2.2.2.2.2.1; have hS_33 := hS.2.2.2.2.2.2.2.2.2.2.2.2.2.2.2.2.2.2.2.2.2.2.2.2.2.2.2.2.2.2.2.2.1; have hS_34 := hS.2.2.2.2.2.2.2.2.2.2.2.2.2.2.2.2.2.2.2.2.2.2.2.2.2.2.2.2.2.2.2.2.2.1; have hS_35 := hS.2.2.2.2.2.2.2.2.2.2.2.2.2.2.2.2.2.2.2.2.2.2.2.2.2.2.2.2.2.2.2.2.2.2.1; have hS_36 := hS.2.2.2.2.2.2.2.2.2.2.2.2.2.2.2.2.2.2.2.2.2.2.2.2.2.2.2.2.2.2.2.2.2.2.2.1; have hS_37 := hS.2.2.2.2.2.2.2.2.2.2.2.2.2.2.2.2.2.2.2.2.2.2.2.2.2.2.2.2.2.2.2.2.2.2.2.2.1; have hS_38 := hS.2.2.2.2.2.2.2.2.2.2.2.2.2.2.2.2.2.2.2.2.2.2.2.2.2.2.2.2.2.2.2.2.2.2.2.2.2.1; have hS_39 := hS.2.2.2.2.2.2.2.2.2.2.2.2.2.2.2.2.2.2.2.2.2.2.2.2.2.2.2.2.2.2.2.2.2.2.2.2.2.2
  have n05 : (nI 0 = 0) = True := by decide
  have n15 : (nI 1 = 0) = False := by decide
  have n25 : (nI 2 = 0) = False := by decide
  have n35 : (nI 3 = 0) = False := by decide
  have n03 : (nI 0 = nI 3) = False := by decide
  have n13 : (nI 1 = nI 3) = False := by decide
  have n23 : (nI 2 = nI 3) = False := by decide
  have n02 : (nI 0 = nI 2) = False := by decide
  have n12 : (nI 1 = nI 2) = False := by decide
  have n32 : (nI 3 = nI 2) = False := by decide
  cases hz : stN (ha3 B e r y0) with
  | inl x =>
    rw [hz] at g3'
    rw [p1 x hz]
    have h9 := g3'.deadT
    refine ⟨G3, I3, ?_, g3', gs3.l, fs3.r⟩
    simp (disch := first | assumption | (simp (disch := omega) only [cK_some, ofR_some, ofR_none, Option.toList_some, Option.toList_none, List.cons_append, List.nil_append, isL_i, isL_r, isL_u, isL_2, cs_0, cs_i, cs_r, cs_l, cs_ii, cs_ir, cs_ri, cs_rr, cs_iir, cs_irr, cs_iii, cs_iri, cs_rii, cs_rir, cs_rri, cs_rrr, cs_iiii, cs_iiir, cs_iiri, cs_iirr, cs_irii, cs_irir, cs_irri, cs_irrr, cs_riii, cs_riir, cs_riri, cs_rirr, cs_rrii, cs_rrir, cs_rrri, cs_rrrr, hS_1, hS_2, hS_3, hS_4, hS_5, hS_6, hS_7, hS_8, hS_9, hS_10, hS_11, hS_12, hS_13, hS_14, hS_15, hS_16, hS_17, hS_18, hS_19, hS_20, hS_21, hS_22, hS_23, hS_24, hS_25, hS_26, hS_27, hS_28, hS_29, hS_30, hS_31, hS_32, hS_33, hS_34, hS_35, hS_36, hS_37, hS_38, hS_39, l1, eT1, eT2, eT3, inb_n, bq4, bq5, n100, not_false_eq_true, isB_0, isB_1, nI_clamp, nI_nneg, Nat.zero_add, Nat.le_refl]; done) | omega | (simp (disch := omega) only [cK_some, ofR_some, ofR_none, Option.toList_some, Option.toList_none, List.cons_append, List.nil_append, isL_i, isL_r, isL_u, isL_2, cs_0, cs_i, cs_r, cs_l, cs_ii, cs_ir, cs_ri, cs_rr, cs_iir, cs_irr, cs_iii, cs_iri, cs_rii, cs_rir, cs_rri, cs_rrr, cs_iiii, cs_iiir, cs_iiri, cs_iirr, cs_irii, cs_irir, cs_irri, cs_irrr, cs_riii, cs_riir, cs_riri, cs_rirr, cs_rrii, cs_rrir, cs_rrri, cs_rrrr, hS_1, hS_2, hS_3, hS_4, hS_5, hS_6, hS_7, hS_8, hS_9, hS_10, hS_11, hS_12, hS_13, hS_14, hS_15, hS_16, hS_17, hS_18, hS_19, hS_20, hS_21, hS_22, hS_23, hS_24, hS_25, hS_26, hS_27, hS_28, hS_29, hS_30, hS_31, hS_32, hS_33, hS_34, hS_35, hS_36, hS_37, hS_38, hS_39, l1, eT1, eT2, eT3, inb_n, bq4, bq5, n100, not_false_eq_true, isB_0, isB_1, nI_clamp, nI_nneg, Nat.zero_add, Nat.le_refl]; omega)) only [xX13_readStep_0, xX13_readStep_1, xX13_readStep_2, xX13_readStep_5, xX13_readStep_8, xX13_readStep_10, xX13_readStep_13, xX13_readStep_14, xX13_readStep_17, xX13_readStep_18, xX13_readStep_19, xX13_readStep_22, xX13_readStep_23, xX13_readStep_24, xX13_readStep_27, xX13_readStep_30, xX13_readStep_32, xX13_readStep_33, xX13_readStep_34, xX13_readStep_35, xX13_readStep_38, xX13_readStep_40, xX13_readStep_43, xX13_readStep_44, xX13_readStep_45, xX13_readStep_48, xX13_readStep_49, xX13_readStep_50, xX13_readStep_53, xX13_readStep_54, xX13_readStep_57, xX13_readStep_58, xX13_readStep_61, xX13_readStep_62, xX13_readStep_65, xX13_readStep_66, xX13_readStep_69, xX13_readStep_72, xX13_readStep_73, xX13_readStep_74, xX13_readStep_75, xX13_readStep_76, xX13_readStep_77, xX13_readStep_80, xX13_readStep_83, xX13_readStep_84, xX13_readStep_85, xX13_readStep_86, xX13_readStep_87, xX13_readStep_90, xX13_readStep_91, xX13_readStep_92, xX13_readStep_93, xX13_readStep_94, xX13_readStep_97, xX13_readStep_98, xX13_readStep_99, xX13_readStep_101, xX13_readStep_104, xX13_readStep_107, xX13_readStep_109, xX13_readStep_111, xX13_readStep_112, xX13_readStep_115, xX13_readStep_116, xX13_readStep_119, cK_some, ofR_some, ofR_none, Option.toList_some, Option.toList_none, List.cons_append, List.nil_append, isL_i, isL_r, isL_u, isL_2, cs_0, cs_i, cs_r, cs_l, cs_ii, cs_ir, cs_ri, cs_rr, cs_iir, cs_irr, cs_iii, cs_iri, cs_rii, cs_rir, cs_rri, cs_rrr, cs_iiii, cs_iiir, cs_iiri, cs_iirr, cs_irii, cs_irir, cs_irri, cs_irrr, cs_riii, cs_riir, cs_riri, cs_rirr, cs_rrii, cs_rrir, cs_rrri, cs_rrrr, hS_1, hS_2, hS_3, hS_4, hS_5, hS_6, hS_7, hS_8, hS_9, hS_10, hS_11, hS_12, hS_13, hS_14, hS_15, hS_16, hS_17, hS_18, hS_19, hS_20, hS_21, hS_22, hS_23, hS_24, hS_25, hS_26, hS_27, hS_28, hS_29, hS_30, hS_31, hS_32, hS_33, hS_34, hS_35, hS_36, hS_37, hS_38, hS_39, rX13_readStep, l2, eN, f1, f2', f3', h9, n05, n15, n25, n35, n03, n13, n23, n02, n12, n32, Nat.add_sub_cancel, Nat.add_zero, Nat.zero_add, nI_lt, nI_nlt, nI_le, nI_ge, nI_pos, pk_sub, nI_clamp, s2_ne, s2_o, s2_s, nI_add, inb_n, nI_nn, zq0, zq1, ↓reduceIte]
  | inr c =>
    rw [hz] at g3'
    rw [p2 c hz]
    have h9 := g3'.live
    obtain ⟨I', e1, e2, e3⟩ := m_stEnd (d := d) (x := (2, 0, n2, n3)) (hM.ge gs3) g3' hr3 (hfl c hz)
    refine ⟨G3, I', ?_, e2, gs3.l, fs3.r.tr e3⟩
    refine Eq.trans ?_ e1
    simp (disch := first | assumption | (simp (disch := omega) only [cK_some, ofR_some, ofR_none, Option.toList_some, Option.toList_none, List.cons_append, List.nil_append, isL_i, isL_r, isL_u, isL_2, cs_0, cs_i, cs_r, cs_l, cs_ii, cs_ir, cs_ri, cs_rr, cs_iir, cs_irr, cs_iii, cs_iri, cs_rii, cs_rir, cs_rri, cs_rrr, cs_iiii, cs_iiir, cs_iiri, cs_iirr, cs_irii, cs_irir, cs_irri, cs_irrr, cs_riii, cs_riir, cs_riri, cs_rirr, cs_rrii, cs_rrir, cs_rrri, cs_rrrr, hS_1, hS_2, hS_3, hS_4, hS_5, hS_6, hS_7, hS_8, hS_9, hS_10, hS_11, hS_12, hS_13, hS_14, hS_15, hS_16, hS_17, hS_18, hS_19, hS_20, hS_21, hS_22, hS_23, hS_24, hS_25, hS_26, hS_27, hS_28, hS_29, hS_30, hS_31, hS_32, hS_33, hS_34, hS_35, hS_36, hS_37, hS_38, hS_39, l1, eT1, eT2, eT3, inb_n, bq4, bq5, n100, not_false_eq_true, isB_0, isB_1, nI_clamp, nI_nneg, Nat.zero_add, Nat.le_refl]; done) | omega | (simp (disch := omega) only [cK_some, ofR_some, ofR_none, Option.toList_some, Option.toList_none, List.cons_append, List.nil_append, isL_i, isL_r, isL_u, isL_2, cs_0, cs_i, cs_r, cs_l, cs_ii, cs_ir, cs_ri, cs_rr, cs_iir, cs_irr, cs_iii, cs_iri, cs_rii, cs_rir, cs_rri, cs_rrr, cs_iiii, cs_iiir, cs_iiri, cs_iirr, cs_irii, cs_irir, cs_irri, cs_irrr, cs_riii, cs_riir, cs_riri, cs_rirr, cs_rrii, cs_rrir, cs_rrri, cs_rrrr, hS_1, hS_2, hS_3, hS_4, hS_5, hS_6, hS_7, hS_8, hS_9, hS_10, hS_11, hS_12, hS_13, hS_14, hS_15, hS_16, hS_17, hS_18, hS_19, hS_20, hS_21, hS_22, hS_23, hS_24, hS_25, hS_26, hS_27, hS_28, hS_29, hS_30, hS_31, hS_32, hS_33, hS_34, hS_35, hS_36, hS_37, hS_38, hS_39, l1, eT1, eT2, eT3, inb_n, bq4, bq5, n100, not_false_eq_true, isB_0, isB_1, nI_clamp, nI_nneg, Nat.zero_add, Nat.le_refl]; omega)) only [xX13_readStep_0, xX13_readStep_1, xX13_readStep_2, xX13_readStep_5, xX13_readStep_8, xX13_readStep_10, xX13_readStep_13, xX13_readStep_14, xX13_readStep_17, xX13_readStep_18, xX13_readStep_19, xX13_readStep_22, xX13_readStep_23, xX13_readStep_24, xX13_readStep_27, xX13_readStep_30, xX13_readStep_32, xX13_readStep_33, xX13_readStep_34, xX13_readStep_35, xX13_readStep_38, xX13_readStep_40, xX13_readStep_43, xX13_readStep_44, xX13_readStep_45, xX13_readStep_48, xX13_readStep_49, xX13_readStep_50, xX13_readStep_53, xX13_readStep_54, xX13_readStep_57, xX13_readStep_58, xX13_readStep_61, xX13_readStep_62, xX13_readStep_65, xX13_readStep_66, xX13_readStep_69, xX13_readStep_72, xX13_readStep_73, xX13_readStep_74, xX13_readStep_75, xX13_readStep_76, xX13_readStep_77, xX13_readStep_80, xX13_readStep_83, xX13_readStep_84, xX13_readStep_85, xX13_readStep_86, xX13_readStep_87, xX13_readStep_90, xX13_readStep_91, xX13_readStep_92, xX13_readStep_93, xX13_readStep_94, xX13_readStep_97, xX13_readStep_98, xX13_readStep_99, xX13_readStep_101, xX13_readStep_104, xX13_readStep_107, xX13_readStep_109, xX13_readStep_111, xX13_readStep_112, xX13_readStep_115, xX13_readStep_116, cK_some, ofR_some, ofR_none, Option.toList_some, Option.toList_none, List.cons_append, List.nil_append, isL_i, isL_r, isL_u, isL_2, cs_0, cs_i, cs_r, cs_l, cs_ii, cs_ir, cs_ri, cs_rr, cs_iir, cs_irr, cs_iii, cs_iri, cs_rii, cs_rir, cs_rri, cs_rrr, cs_iiii, cs_iiir, cs_iiri, cs_iirr, cs_irii, cs_irir, cs_irri, cs_irrr, cs_riii, cs_riir, cs_riri, cs_rirr, cs_rrii, cs_rrir, cs_rrri, cs_rrrr, hS_1, hS_2, hS_3, hS_4, hS_5, hS_6, hS_7, hS_8, hS_9, hS_10, hS_11, hS_12, hS_13, hS_14, hS_15, hS_16, hS_17, hS_18, hS_19, hS_20, hS_21, hS_22, hS_23, hS_24, hS_25, hS_26, hS_27, hS_28, hS_29, hS_30, hS_31, hS_32, hS_33, hS_34, hS_35, hS_36, hS_37, hS_38, hS_39, rX13_readStep, l2, eN, f1, f2', f3', h9, n05, n15, n25, n35, n03, n13, n23, n02, n12, n32, Nat.add_sub_cancel, Nat.add_zero, Nat.zero_add, nI_lt, nI_nlt, nI_le, nI_ge, nI_pos, pk_sub, nI_clamp, s2_ne, s2_o, s2_s, nI_add, inb_n, nI_nn, zq0, zq1, ↓reduceIte]
    rfl
theorem m_readStep0 {d m R e a : Nat} {B : Nat → Nat} {r : RS} {G : Gm} {I : Im} (hM : MR G m R) (hX : TmV I m B e) (H : MdS G I m B e (.inr a)) (h1 : kK (tk B e a) = 1) (hr : RM G I R B r) (ho : ROk e r) :
    ∃ (G' : Gm) (I' : Im), run (d + 5) mX13_readStep [.ref m, .int (nI 0)] G I = some (none, G', I') ∧ AnM G' I' m R B e (bnd (bgQ B e (decide (rSt r = 12)) r.1.isSome a) (fun a => lnWipes B e a r)) ∧ GL m R G G' ∧ FR m R I I' := by
  have hT3 := ho.2.1.1
  have hS12 := ho.2.1.2.2.2.1
  obtain ⟨l1, l2, l3, l4, hS, l6⟩ := id hM
  obtain ⟨G1, I1, f1, g1, ge1, fm1⟩ := m_bgn (d := d + 2) (many := rSt r) (most := 12) hM hX H h1 hr ho (by omega) (by omega)
  have hle : ∀ a0, bgQ B e (decide (rSt r = 12)) r.1.isSome a = .inr a0 → a0 ≤ e := fun a0 h => (bgQ_e H.2.1 h).2
  have hfu : ∀ a0, bgQ B e (decide (rSt r = 12)) r.1.isSome a = .inr a0 → rSt r < 12 := fun a0 h => by
    have h2 := of_decide_eq_false (bgQ_e H.2.1 h).1
    omega
  generalize bgQ B e (decide (rSt r = 12)) r.1.isSome a = y0 at *
  have eN := hr.2.2.1.2.2.2.1
  have eT1 : gT G1 = gT G := ge1.2.1
  have hr1 := hr.fm l6 ge1 fm1
  obtain ⟨G2, I2, f2, g2, ge2, fm2⟩ := m_readKnown (d := d) (o := false) (hM.ge ge1) (hX.fm fm1) g1 hr1.2.2.2.2.2.2.2 ho.2.2.2.2.2.2.2.1
  have gs2 := GE.tr ge1 ge2
  have fs2 := FM.tr fm1 fm2
  have hr2 := hr.fm l6 gs2 fs2
  have g2' : MdS G2 I2 m B e (stN (kn1 B e r false y0)) := g2
  have f2' : run (d + 4) mX13_readKnown [.ref m, .int (bI false)] G1 I1 = some (some (.int (nI (vlN 0 (kn1 B e r false y0)))), G2, I2) := f2
  rw [bI_0] at f2'
  have eT2 : gT G2 = gT G := gs2.2.1
  have eR2 : gR G2 = gR G := gs2.2.2.1
  obtain ⟨G3, I3, f3, g3, ge3, fm3⟩ := m_readKnown (d := d) (o := true) (hM.ge gs2) (hX.fm fs2) g2' hr2.2.2.2.2.2.2.2 ho.2.2.2.2.2.2.2.1
  have gs3 := GE.tr gs2 ge3
  have fs3 := FM.tr fs2 fm3
  have hr3 := hr.fm l6 gs3 fs3
  have g3' : MdS G3 I3 m B e (stN (kn1 B e r true (stN (kn1 B e r false y0)))) := g3
  have f3' : run (d + 4) mX13_readKnown [.ref m, .int (bI true)] G2 I2 = some (some (.int (nI (vlN 0 (kn1 B e r true (stN (kn1 B e r false y0)))))), G3, I3) := f3
  rw [bI_1] at f3'
  have eT3 : gT G3 = gT G := gs3.2.1
  have eR3 : gR G3 = gR G := gs3.2.2.1
  have hb2 := kn1_b (B := B) (o := false) (y0 := y0) ho hle
  have hb3 := kn1_b (B := B) (o := true) (y0 := (stN (kn1 B e r false y0))) ho (fun a h => (hb2 a h).2)
  have n03 : (nI 0 = nI 3) = False := by decide
  have n05 : (nI 0 = 0) = True := by decide
  have n02 : (nI 0 = nI 2) = False := by decide
  obtain ⟨p1, p2⟩ := wi_all (B := B) (e := e) (r := r) (y0 := y0)
  cases hq : stN (kn1 B e r true (stN (kn1 B e r false y0))) with
  | inl x =>
    have hz : stN (wi3 B e r y0) = .inl x := by unfold wi3; rw [hq]; rfl
    rw [hq] at g3'
    rw [p1 x hz]
    have h9 := g3'.deadT
    have hS_1 := hS.1; have hS_2 := hS.2.1; have hS_3 := hS.2.2.1; have hS_4 := hS.2.2.2.1; have hS_5 := hS.2.2.2.2.1; have hS_6 := hS.2.2.2.2.2.1; have hS_7 := hS.2.2.2.2.2.2.1; have hS_8 := hS.2.2.2.2.2.2.2.1; have hS_9 := hS.2.2.2.2.2.2.2.2.1; have hS_10 := hS.2.2.2.2.2.2.2.2.2.1; have hS_11 := hS.2.2.2.2.2.2.2.2.2.2.1; have hS_12 := hS.2.2.2.2.2.2.2.2.2.2.2.1; have hS_13 := hS.2.2.2.2.2.2.2.2.2.2.2.2.1; have hS_14 := hS.2.2.2.2.2.2.2.2.2.2.2.2.2.1; have hS_15 := hS.2.2.2.2.2.2.2.2.2.2.2.2.2.2.1; have hS_16 := hS.2.2.2.2.2.2.2.2.2.2.2.2.2.2.2.1; have hS_17 := hS.2.2.2.2.2.2.2.2.2.2.2.2.2.2.2.2.1; have hS_18 := hS.2.2.2.2.2.2.2.2.2.2.2.2.2.2.2.2.2.1; have hS_19 := hS.2.2.2.2.2.2.2.2.2.2.2.2.2.2.2.2.2.2.1; have hS_20 := hS.2.2.2.2.2.2.2.2.2.2.2.2.2.2.2.2.2.2.2.1; have hS_21 := hS.2.2.2.2.2.2.2.2.2.2.2.2.2.2.2.2.2.2.2.2.1; have hS_22 := hS.2.2.2.2.2.2.2.2.2.2.2.2.2.2.2.2.2.2.2.2.2.1; have hS_23 := hS.2.2.2.2.2.2.2.2.2.2.2.2.2.2.2.2.2.2.2.2.2.2.1; have hS_24 := hS.2.2.2.2.2.2.2.2.2.2.2.2.2.2.2.2.2.2.2.2.2.2.2.1; have hS_25 := hS.2.2.2.2.2.2.2.2.2.2.2.2.2.2.2.2.2.2.2.2.2.2.2.2.1; have hS_26 := hS.2.2.2.2.2.2.2.2.2.2.2.2.2.2.2.2.2.2.2.2.2.2.2.2.2.1; have hS_27 := hS.2.2.2.2.2.2.2.2.2.2.2.2.2.2.2.2.2.2.2.2.2.2.2.2.2.2.1; have hS_28 := hS.2.2.2.2.2.2.2.2.2.2.2.2.2.2.2.2.2.2.2.2.2.2.2.2.2.2.2.1; have hS_29 := hS.2.2.2.2.2.2.2.2.2.2.2.2.2.2.2.2.2.2.2.2.2.2.2.2.2.2.2.2.1; have hS_30 := hS.2.2.2.2.2.2.2.2.2.2.2.2.2.2.2.2.2.2.2.2.2.2.2.2.2.2.2.2.2.1; have hS_31 := hS.2.2.2.2.2.2.2.2.2.2.2.2.2.2.2.2.2.2.2.2.2.2.2.2.2.2.2.2.2.2.1; have hS_32 := hS.2.2.2.2.2.2.2.2.2.2.2.2.2.2.2.2.2.2.2.2.2.2.2.2.2.2.2.2.2.2.2.1; have hS_33 := hS.2.2.2.2.2.2.2.2.2.2.2.2.2.2.2.2.2.2.2.2.2.2.2.2.2.2.2.2.2.2.2.2.1; have hS_34 := hS.2.2.2.2.2.2.2.2.2.2.2.2.2.2.2.2.2.2.2.2.2.2.2.2.2.2.2.2.2.2.2.2.2.1; have hS_35 := hS.2.2.2.2.2.2.2.2.2.2.2.2.2.2.2.2.2.2.2.2.2.2.2.2.2.2.2.2.2.2.2.2.2.2.1; have hS_36 := hS.2.2.2.2.2.2.2.2.2.2.2.2.2.2.2.2.2.2.2.2.2.2.2.2.2.2.2.2.2.2.2.2.2.2.2.1; have hS_37 := hS.2.2.2.2.2.2.2.2.2.2.2.2.2.2.2.2.2.2.2.2.2.2.2.2.2.2.2.2.2.2.2.2.2.2.2.2.1; have hS_38 := hS.2.2.2.2.2.2.2.2.2.2.2.2.2.2.2.2.2.2.2.2.2.2.2.2.2.2.2.2.2.2.2.2.2.2.2.2.2.1; have hS_39 := hS.2.2.2.2.2.2.2.2.2.2.2.2.2.2.2.2.2.2.2.2.2.2.2.2.2.2.2.2.2.2.2.2.2.2.2.2.2.2
    refine ⟨G3, I3, ?_, g3', gs3.l, fs3.r⟩
    simp (disch := first | assumption | (simp (disch := omega) only [cK_some, ofR_some, ofR_none, Option.toList_some, Option.toList_none, List.cons_append, List.nil_append, isL_i, isL_r, isL_u, isL_2, cs_0, cs_i, cs_r, cs_l, cs_ii, cs_ir, cs_ri, cs_rr, cs_iir, cs_irr, cs_iii, cs_iri, cs_rii, cs_rir, cs_rri, cs_rrr, cs_iiii, cs_iiir, cs_iiri, cs_iirr, cs_irii, cs_irir, cs_irri, cs_irrr, cs_riii, cs_riir, cs_riri, cs_rirr, cs_rrii, cs_rrir, cs_rrri, cs_rrrr, hS_1, hS_2, hS_3, hS_4, hS_5, hS_6, hS_7, hS_8, hS_9, hS_10, hS_11, hS_12, hS_13, hS_14, hS_15, hS_16, hS_17, hS_18, hS_19, hS_20, hS_21, hS_22, hS_23, hS_24, hS_25, hS_26, hS_27, hS_28, hS_29, hS_30, hS_31, hS_32, hS_33, hS_34, hS_35, hS_36, hS_37, hS_38, hS_39, l1, eT1, eT2, eT3, inb_n, bq4, bq5, n100, not_false_eq_true, isB_0, isB_1, nI_clamp, nI_nneg, Nat.zero_add, Nat.le_refl]; done) | omega | (simp (disch := omega) only [cK_some, ofR_some, ofR_none, Option.toList_some, Option.toList_none, List.cons_append, List.nil_append, isL_i, isL_r, isL_u, isL_2, cs_0, cs_i, cs_r, cs_l, cs_ii, cs_ir, cs_ri, cs_rr, cs_iir, cs_irr, cs_iii, cs_iri, cs_rii, cs_rir, cs_rri, cs_rrr, cs_iiii, cs_iiir, cs_iiri, cs_iirr, cs_irii, cs_irir, cs_irri, cs_irrr, cs_riii, cs_riir, cs_riri, cs_rirr, cs_rrii, cs_rrir, cs_rrri, cs_rrrr, hS_1, hS_2, hS_3, hS_4, hS_5, hS_6, hS_7, hS_8, hS_9, hS_10, hS_11, hS_12, hS_13, hS_14, hS_15, hS_16, hS_17, hS_18, hS_19, hS_20, hS_21, hS_22, hS_23, hS_24, hS_25, hS_26, hS_27, hS_28, hS_29, hS_30, hS_31, hS_32, hS_33, hS_34, hS_35, hS_36, hS_37, hS_38, hS_39, l1, eT1, eT2, eT3, inb_n, bq4, bq5, n100, not_false_eq_true, isB_0, isB_1, nI_clamp, nI_nneg, Nat.zero_add, Nat.le_refl]; omega)) only [xX13_readStep_0, xX13_readStep_1, xX13_readStep_2, xX13_readStep_5, xX13_readStep_8, xX13_readStep_10, xX13_readStep_13, xX13_readStep_14, xX13_readStep_17, xX13_readStep_18, xX13_readStep_19, xX13_readStep_22, xX13_readStep_23, xX13_readStep_24, xX13_readStep_27, xX13_readStep_30, xX13_readStep_32, xX13_readStep_33, xX13_readStep_34, xX13_readStep_35, xX13_readStep_38, xX13_readStep_40, xX13_readStep_43, xX13_readStep_44, xX13_readStep_45, xX13_readStep_48, xX13_readStep_49, xX13_readStep_50, xX13_readStep_53, xX13_readStep_54, xX13_readStep_57, xX13_readStep_58, xX13_readStep_61, xX13_readStep_62, xX13_readStep_65, xX13_readStep_66, xX13_readStep_69, xX13_readStep_72, xX13_readStep_73, xX13_readStep_74, xX13_readStep_75, xX13_readStep_76, xX13_readStep_77, xX13_readStep_80, xX13_readStep_83, xX13_readStep_84, xX13_readStep_85, xX13_readStep_86, xX13_readStep_87, xX13_readStep_90, xX13_readStep_91, xX13_readStep_92, xX13_readStep_93, xX13_readStep_94, xX13_readStep_97, xX13_readStep_98, xX13_readStep_99, xX13_readStep_101, xX13_readStep_104, xX13_readStep_107, xX13_readStep_109, xX13_readStep_111, xX13_readStep_112, xX13_readStep_115, xX13_readStep_116, xX13_readStep_119, cK_some, ofR_some, ofR_none, Option.toList_some, Option.toList_none, List.cons_append, List.nil_append, isL_i, isL_r, isL_u, isL_2, cs_0, cs_i, cs_r, cs_l, cs_ii, cs_ir, cs_ri, cs_rr, cs_iir, cs_irr, cs_iii, cs_iri, cs_rii, cs_rir, cs_rri, cs_rrr, cs_iiii, cs_iiir, cs_iiri, cs_iirr, cs_irii, cs_irir, cs_irri, cs_irrr, cs_riii, cs_riir, cs_riri, cs_rirr, cs_rrii, cs_rrir, cs_rrri, cs_rrrr, hS_1, hS_2, hS_3, hS_4, hS_5, hS_6, hS_7, hS_8, hS_9, hS_10, hS_11, hS_12, hS_13, hS_14, hS_15, hS_16, hS_17, hS_18, hS_19, hS_20, hS_21, hS_22, hS_23, hS_24, hS_25, hS_26, hS_27, hS_28, hS_29, hS_30, hS_31, hS_32, hS_33, hS_34, hS_35, hS_36, hS_37, hS_38, hS_39, rX13_readStep, l2, eN, f1, f2', f3', h9, n05, n03, n02, Nat.add_sub_cancel, Nat.add_zero, Nat.zero_add, nI_lt, nI_nlt, nI_le, nI_ge, nI_pos, pk_sub, nI_clamp, s2_ne, s2_o, s2_s, nI_add, inb_n, nI_nn, zq0, zq1, ↓reduceIte]
  | inr a3 =>
    obtain ⟨hbb, -⟩ := hb3 a3 hq
    have hbb : vlN 0 (kn1 B e r true (stN (kn1 B e r false y0))) < rT r := hbb
    have hsz := ho.2.2.1 _ hbb
    obtain ⟨q1, -, -, q4⟩ := hr3.2.2.2.1 _ hbb
    rw [hq] at g3'
    have h9 := g3'.live
    have hP6 := ho.2.1.2.1
    have su := pk_sub (show 1 ≤ rSz r (vlN 0 (kn1 B e r true (stN (kn1 B e r false y0)))) from hsz.1)
    obtain ⟨G4, I4, f4, g4, ge4, fm4⟩ := m_readWhole (d := d + 2) (lo := 0) (hi := rSz r (vlN 0 (kn1 B e r true (stN (kn1 B e r false y0)))) - 1) (hM.ge gs3) (hX.fm fs3) g3' (by decide) (by omega)
    have gs4 := gs3.tr ge4
    have fs4 := fs3.tr fm4
    have hr4 := hr.fm l6 gs4 fs4
    have eT4 : gT G4 = gT G := gs4.2.1
    have ew : wi3 B e r y0 = bnd (.inr a3) (fun a => pN B e a 0 (rSz r (vlN 0 (kn1 B e r true (stN (kn1 B e r false y0)))) - 1)) := by unfold wi3 wlP; rw [hq]
    rw [← ew] at f4 g4
    have hfl : ∀ c, stN (wi3 B e r y0) = .inr c → rSt r < 12 := fun c h => by
      obtain ⟨v, hv, -⟩ := bnd_le hq
      obtain ⟨a2, hv2, -⟩ := bnd_le hv
      obtain ⟨v2, hv3, -⟩ := bnd_le hv2
      obtain ⟨a0, hy, -⟩ := bnd_le hv3
      exact hfu a0 hy
    generalize vlN 0 (wi3 B e r y0) = n4 at *
    generalize vlN 0 (kn1 B e r true (stN (kn1 B e r false y0))) = n3 at *
    generalize vlN 0 (kn1 B e r false y0) = n2 at *
    have hS_1 := hS.1; have hS_2 := hS.2.1; have hS_3 := hS.2.2.1; have hS_4 := hS.2.2.2.1; have hS_5 := hS.2.2.2.2.1; have hS_6 := hS.2.2.2.2.2.1; have hS_7 := hS.2.2.2.2.2.2.1; have hS_8 := hS.2.2.2.2.2.2.2.1; have hS_9 := hS.2.2.2.2.2.2.2.2.1; have hS_10 := hS.2.2.2.2.2.2.2.2.2.1; have hS_11 := hS.2.2.2.2.2.2.2.2.2.2.1; have hS_12 := hS.2.2.2.2.2.2.2.2.2.2.2.1; have hS_13 := hS.2.2.2.2.2.2.2.2.2.2.2.2.1; have hS_14 := hS.2.2.2.2.2.2.2.2.2.2.2.2.2.1; have hS_15 := hS.2.2.2.2.2.2.2.2.2.2.2.2.2.2.1; have hS_16 := hS.2.2.2.2.2.2.2.2.2.2.2.2.2.2.2.1; have hS_17 := hS.2.2.2.2.2.2.2.2.2.2.2.2.2.2.2.2.1; have hS_18 := hS.2.2.2.2.2.2.2.2.2.2.2.2.2.2.2.2.2.1; have hS_19 := hS.2.2.2.2.2.2.2.2.2.2.2.2.2.2.2.2.2.2.1; have hS_20 := hS.2.2.2.2.2.2.2.2.2.2.2.2.2.2.2.2.2.2.2.1; have hS_21 := hS.2.2.2.2.2.2.2.2.2.2.2.2.2.2.2.2.2.2.2.2.1; have hS_22 := hS.2.2.2.2.2.2.2.2.2.2.2.2.2.2.2.2.2.2.2.2.2.1; have hS_23 := hS.2.2.2.2.2.2.2.2.2.2.2.2.2.2.2.2.2.2.2.2.2.2.1; have hS_24 := hS.2.2.2.2.2.2.2.2.2.2.2.2.2.2.2.2.2.2.2.2.2.2.2.1; have hS_25 := hS.2.2.2.2.2.2.2.2.2.2.2.2.2.2.2.2.2.2.2.2.2.2.2.2.1; have hS_26 := hS.2.2.2.2.2.2.2.2.2.2.2.2.2.2.2.2.2.2.2.2.2.2.2.2.2.1; have hS_27 := hS.2.2.2.2.2.2.2.2.2.2.2.2.2.2.2.2.2.2.2.2.2.2.2.2.2.2.1; have hS_28 := hS.2.2.2.2.2.2.2.2.2.2.2.2.2.2.2.2.2.2.2.2.2.2.2.2.2.2.2.1; have hS_29 := hS.2.2.2.2.2.2.2.2.2.2.2.2.2.2.2.2.2.2.2.2.2.2.2.2.2.2.2.2.1; have hS_30 := hS.2.2.2.2.2.2.2.2.2.2.2.2.2.2.2.2.2.2.2.2.2.2.2.2.2.2.2.2.2.1; have hS_31 := hS.2.2.2.2.2.2.2.2.2.2.2.2.2.2.2.2.2.2.2.2.2.2.2.2.2.2.2.2.2.2.1; have hS_32 := hS.2.2.2.2.2.2.2.2.2.2.2.2.2.2.2.2.2.2.2.2.2.2.2.2.2.2.2.2.2.2.2.1; have hS_33 := hS.2.2.2.2.2.2.2.2.2.2.2.2.2.2.2.2.2.2.2.2.2.2.2.2.2.2.2.2.2.2.2.2.1; have hS_34 := hS.2.2.2.2.2.2.2.2.2.2.2.2.2.2.2.2.2.2.2.2.2.2.2.2.2.2.2.2.2.2.2.2.2.1; have hS_35 := hS.2.2.2.2.2.2.2.2.2.2.2.2.2.2.2.2.2.2.2.2.2.2.2.2.2.2.2.2.2.2.2.2.2.2.1; have hS_36 := hS.2.2.2.2.2.2.2.2.2.2.2.2.2.2.2.2.2.2.2.2.2.2.2.2.2.2.2.2.2.2.2.2.2.2.2.1; have hS_37 := hS.2.2.2.2.2.2.2.2.2.2.2.2.2.2.2.2.2.2.2.2.2.2.2.2.2.2.2.2.2.2.2.2.2.2.2.2.1; have hS_38 := hS.2.2.2.2.2.2.2.2.2.2.2.2.2.2.2.2.2.2.2.2.2.2.2.2.2.2.2.2.2.2.2.2.2.2.2.2.2.1; have hS_39 := hS.2.2.2.2.2.2.2.2.2.2.2.2.2.2.2.2.2.2.2.2.2.2.2.2.2.2.2.2.2.2.2.2.2.2.2.2.2.2
    cases hz : stN (wi3 B e r y0) with
    | inl x =>
      rw [hz] at g4
      rw [p1 x hz]
      have h94 := g4.deadT
      refine ⟨G4, I4, ?_, g4, gs4.l, fs4.r⟩
      simp (disch := first | assumption | (simp (disch := omega) only [cK_some, ofR_some, ofR_none, Option.toList_some, Option.toList_none, List.cons_append, List.nil_append, isL_i, isL_r, isL_u, isL_2, cs_0, cs_i, cs_r, cs_l, cs_ii, cs_ir, cs_ri, cs_rr, cs_iir, cs_irr, cs_iii, cs_iri, cs_rii, cs_rir, cs_rri, cs_rrr, cs_iiii, cs_iiir, cs_iiri, cs_iirr, cs_irii, cs_irir, cs_irri, cs_irrr, cs_riii, cs_riir, cs_riri, cs_rirr, cs_rrii, cs_rrir, cs_rrri, cs_rrrr, hS_1, hS_2, hS_3, hS_4, hS_5, hS_6, hS_7, hS_8, hS_9, hS_10, hS_11, hS_12, hS_13, hS_14, hS_15, hS_16, hS_17, hS_18, hS_19, hS_20, hS_21, hS_22, hS_23, hS_24, hS_25, hS_26, hS_27, hS_28, hS_29, hS_30, hS_31, hS_32, hS_33, hS_34, hS_35, hS_36, hS_37, hS_38, hS_39, l1, eT1, eT2, eT3, eT4, inb_n, bq4, bq5, n100, not_false_eq_true, isB_0, isB_1, nI_clamp, nI_nneg, Nat.zero_add, Nat.le_refl]; done) | omega | (simp (disch := omega) only [cK_some, ofR_some, ofR_none, Option.toList_some, Option.toList_none, List.cons_append, List.nil_append, isL_i, isL_r, isL_u, isL_2, cs_0, cs_i, cs_r, cs_l, cs_ii, cs_ir, cs_ri, cs_rr, cs_iir, cs_irr, cs_iii, cs_iri, cs_rii, cs_rir, cs_rri, cs_rrr, cs_iiii, cs_iiir, cs_iiri, cs_iirr, cs_irii, cs_irir, cs_irri, cs_irrr, cs_riii, cs_riir, cs_riri, cs_rirr, cs_rrii, cs_rrir, cs_rrri, cs_rrrr, hS_1, hS_2, hS_3, hS_4, hS_5, hS_6, hS_7, hS_8, hS_9, hS_10, hS_11, hS_12, hS_13, hS_14, hS_15, hS_16, hS_17, hS_18, hS_19, hS_20, hS_21, hS_22, hS_23, hS_24, hS_25, hS_26, hS_27, hS_28, hS_29, hS_30, hS_31, hS_32, hS_33, hS_34, hS_35, hS_36, hS_37, hS_38, hS_39, l1, eT1, eT2, eT3, eT4, inb_n, bq4, bq5, n100, not_false_eq_true, isB_0, isB_1, nI_clamp, nI_nneg, Nat.zero_add, Nat.le_refl]; omega)) only [xX13_readStep_0, xX13_readStep_1, xX13_readStep_2, xX13_readStep_5, xX13_readStep_8, xX13_readStep_10, xX13_readStep_13, xX13_readStep_14, xX13_readStep_17, xX13_readStep_18, xX13_readStep_19, xX13_readStep_22, xX13_readStep_23, xX13_readStep_24, xX13_readStep_27, xX13_readStep_30, xX13_readStep_32, xX13_readStep_33, xX13_readStep_34, xX13_readStep_35, xX13_readStep_38, xX13_readStep_40, xX13_readStep_43, xX13_readStep_44, xX13_readStep_45, xX13_readStep_48, xX13_readStep_49, xX13_readStep_50, xX13_readStep_53, xX13_readStep_54, xX13_readStep_57, xX13_readStep_58, xX13_readStep_61, xX13_readStep_62, xX13_readStep_65, xX13_readStep_66, xX13_readStep_69, xX13_readStep_72, xX13_readStep_73, xX13_readStep_74, xX13_readStep_75, xX13_readStep_76, xX13_readStep_77, xX13_readStep_80, xX13_readStep_83, xX13_readStep_84, xX13_readStep_85, xX13_readStep_86, xX13_readStep_87, xX13_readStep_90, xX13_readStep_91, xX13_readStep_92, xX13_readStep_93, xX13_readStep_94, xX13_readStep_97, xX13_readStep_98, xX13_readStep_99, xX13_readStep_101, xX13_readStep_104, xX13_readStep_107, xX13_readStep_109, xX13_readStep_111, xX13_readStep_112, xX13_readStep_115, xX13_readStep_116, xX13_readStep_119, cK_some, ofR_some, ofR_none, Option.toList_some, Option.toList_none, List.cons_append, List.nil_append, isL_i, isL_r, isL_u, isL_2, cs_0, cs_i, cs_r, cs_l, cs_ii, cs_ir, cs_ri, cs_rr, cs_iir, cs_irr, cs_iii, cs_iri, cs_rii, cs_rir, cs_rri, cs_rrr, cs_iiii, cs_iiir, cs_iiri, cs_iirr, cs_irii, cs_irir, cs_irri, cs_irrr, cs_riii, cs_riir, cs_riri, cs_rirr, cs_rrii, cs_rrir, cs_rrri, cs_rrrr, hS_1, hS_2, hS_3, hS_4, hS_5, hS_6, hS_7, hS_8, hS_9, hS_10, hS_11, hS_12, hS_13, hS_14, hS_15, hS_16, hS_17, hS_18, hS_19, hS_20, hS_21, hS_22, hS_23, hS_24, hS_25, hS_26, hS_27, hS_28, hS_29, hS_30, hS_31, hS_32, hS_33, hS_34, hS_35, hS_36, hS_37, hS_38, hS_39, rX13_readStep, l2, eR3, eN, f1, f2', f3', h9, n05, n03, n02, q1, q4, su, f4, h94, nI_add, Nat.add_sub_cancel, Nat.add_zero, Nat.zero_add, nI_lt, nI_nlt, nI_le, nI_ge, nI_pos, pk_sub, nI_clamp, s2_ne, s2_o, s2_s, nI_add, inb_n, nI_nn, zq0, zq1, ↓reduceIte]
    | inr c =>
      rw [hz] at g4
      rw [p2 c hz]
      have h94 := g4.live
      obtain ⟨I', e1, e2, e3⟩ := m_stEnd (d := d) (x := (0, n2, rFi r n3 + n4, 0)) (hM.ge gs4) g4 hr4 (hfl c hz)
      refine ⟨G4, I', ?_, e2, gs4.l, fs4.r.tr e3⟩
      refine Eq.trans ?_ e1
      simp (disch := first | assumption | (simp (disch := omega) only [cK_some, ofR_some, ofR_none, Option.toList_some, Option.toList_none, List.cons_append, List.nil_append, isL_i, isL_r, isL_u, isL_2, cs_0, cs_i, cs_r, cs_l, cs_ii, cs_ir, cs_ri, cs_rr, cs_iir, cs_irr, cs_iii, cs_iri, cs_rii, cs_rir, cs_rri, cs_rrr, cs_iiii, cs_iiir, cs_iiri, cs_iirr, cs_irii, cs_irir, cs_irri, cs_irrr, cs_riii, cs_riir, cs_riri, cs_rirr, cs_rrii, cs_rrir, cs_rrri, cs_rrrr, hS_1, hS_2, hS_3, hS_4, hS_5, hS_6, hS_7, hS_8, hS_9, hS_10, hS_11, hS_12, hS_13, hS_14, hS_15, hS_16, hS_17, hS_18, hS_19, hS_20, hS_21, hS_22, hS_23, hS_24, hS_25, hS_26, hS_27, hS_28, hS_29, hS_30, hS_31, hS_32, hS_33, hS_34, hS_35, hS_36, hS_37, hS_38, hS_39, l1, eT1, eT2, eT3, eT4, inb_n, bq4, bq5, n100, not_false_eq_true, isB_0, isB_1, nI_clamp, nI_nneg, Nat.zero_add, Nat.le_refl]; done) | omega | (simp (disch := omega) only [cK_some, ofR_some, ofR_none, Option.toList_some, Option.toList_none, List.cons_append, List.nil_append, isL_i, isL_r, isL_u, isL_2, cs_0, cs_i, cs_r, cs_l, cs_ii, cs_ir, cs_ri, cs_rr, cs_iir, cs_irr, cs_iii, cs_iri, cs_rii, cs_rir, cs_rri, cs_rrr, cs_iiii, cs_iiir, cs_iiri, cs_iirr, cs_irii, cs_irir, cs_irri, cs_irrr, cs_riii, cs_riir, cs_riri, cs_rirr, cs_rrii, cs_rrir, cs_rrri, cs_rrrr, hS_1, hS_2, hS_3, hS_4, hS_5, hS_6, hS_7, hS_8, hS_9, hS_10, hS_11, hS_12, hS_13, hS_14, hS_15, hS_16, hS_17, hS_18, hS_19, hS_20, hS_21, hS_22, hS_23, hS_24, hS_25, hS_26, hS_27, hS_28, hS_29, hS_30, hS_31, hS_32, hS_33, hS_34, hS_35, hS_36, hS_37, hS_38, hS_39, l1, eT1, eT2, eT3, eT4, inb_n, bq4, bq5, n100, not_false_eq_true, isB_0, isB_1, nI_clamp, nI_nneg, Nat.zero_add, Nat.le_refl]; omega)) only [xX13_readStep_0, xX13_readStep_1, xX13_readStep_2, xX13_readStep_5, xX13_readStep_8, xX13_readStep_10, xX13_readStep_13, xX13_readStep_14, xX13_readStep_17, xX13_readStep_18, xX13_readStep_19, xX13_readStep_22, xX13_readStep_23, xX13_readStep_24, xX13_readStep_27, xX13_readStep_30, xX13_readStep_32, xX13_readStep_33, xX13_readStep_34, xX13_readStep_35, xX13_readStep_38, xX13_readStep_40, xX13_readStep_43, xX13_readStep_44, xX13_readStep_45, xX13_readStep_48, xX13_readStep_49, xX13_readStep_50, xX13_readStep_53, xX13_readStep_54, xX13_readStep_57, xX13_readStep_58, xX13_readStep_61, xX13_readStep_62, xX13_readStep_65, xX13_readStep_66, xX13_readStep_69, xX13_readStep_72, xX13_readStep_73, xX13_readStep_74, xX13_readStep_75, xX13_readStep_76, xX13_readStep_77, xX13_readStep_80, xX13_readStep_83, xX13_readStep_84, xX13_readStep_85, xX13_readStep_86, xX13_readStep_87, xX13_readStep_90, xX13_readStep_91, xX13_readStep_92, xX13_readStep_93, xX13_readStep_94, xX13_readStep_97, xX13_readStep_98, xX13_readStep_99, xX13_readStep_101, xX13_readStep_104, xX13_readStep_107, xX13_readStep_109, xX13_readStep_111, xX13_readStep_112, xX13_readStep_115, xX13_readStep_116, cK_some, ofR_some, ofR_none, Option.toList_some, Option.toList_none, List.cons_append, List.nil_append, isL_i, isL_r, isL_u, isL_2, cs_0, cs_i, cs_r, cs_l, cs_ii, cs_ir, cs_ri, cs_rr, cs_iir, cs_irr, cs_iii, cs_iri, cs_rii, cs_rir, cs_rri, cs_rrr, cs_iiii, cs_iiir, cs_iiri, cs_iirr, cs_irii, cs_irir, cs_irri, cs_irrr, cs_riii, cs_riir, cs_riri, cs_rirr, cs_rrii, cs_rrir, cs_rrri, cs_rrrr, hS_1, hS_2, hS_3, hS_4, hS_5, hS_6, hS_7, hS_8, hS_9, hS_10, hS_11, hS_12, hS_13, hS_14, hS_15, hS_16, hS_17, hS_18, hS_19, hS_20, hS_21, hS_22, hS_23, hS_24, hS_25, hS_26, hS_27, hS_28, hS_29, hS_30, hS_31, hS_32, hS_33, hS_34, hS_35, hS_36, hS_37, hS_38, hS_39, rX13_readStep, l2, eR3, eN, f1, f2', f3', h9, n05, n03, n02, q1, q4, su, f4, h94, nI_add, Nat.add_sub_cancel, Nat.add_zero, Nat.zero_add, nI_lt, nI_nlt, nI_le, nI_ge, nI_pos, pk_sub, nI_clamp, s2_ne, s2_o, s2_s, nI_add, inb_n, nI_nn, zq0, zq1, ↓reduceIte]
      rfl
