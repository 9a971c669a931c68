/-! the model reads a home, a patch seen -/
theorem pM_b {B : Nat → Nat} {e a : Nat} {o : Bool} {r : RS} {v : Nat × Nat} (ho : ROk e r) (h : pM B e a (rNn r) (rNm r) o = .inr v) (ha : a ≤ e) : v.1 < (if o = true then rT r else rN r) ∧ v.2 ≤ e := by
  obtain ⟨h1, i, h2, h3, h4⟩ := pM_e h ha
  have h5 := ho.2.2.2.2.2.2.2.2.1 i h2
  rw [h3, h4] at h5
  exact ⟨h5, h1⟩
theorem enc_2 {o : Option Nat} (ho : ∀ k, o = some k → k < 2 ^ 31) : (encO o = -2) = (o = none) := by
  cases o with
  | none => exact propext ⟨fun _ => rfl, fun _ => rfl⟩
  | some k => exact propext ⟨fun c => absurd c (nI_nm2 (ho k rfl)), fun c => by cases c⟩
def ho1 (B : Nat → Nat) (e : Nat) (r : RS) (y0 : Er ⊕ Nat) : Er ⊕ (Nat × Nat) := bnd y0 (fun a => pM B e a (rNn r) (rNm r) false)
def hoS (B : Nat → Nat) (e : Nat) (r : RS) (b : Nat) (a : Nat) : Er ⊕ Nat := if rHm r b = none then .inr a else .inl (3, kS (tk B e a))
def ho2 (B : Nat → Nat) (e : Nat) (r : RS) (y0 : Er ⊕ Nat) : Er ⊕ Nat := bnd y0 (knP B e (rNn r) (rNm r) false)
def ho3 (B : Nat → Nat) (e : Nat) (r : RS) (y0 : Er ⊕ Nat) : Er ⊕ Nat := adv B e (bnd (ho2 B e r y0) (hoS B e r (vlN 0 (ho1 B e r y0))))
def ho4 (B : Nat → Nat) (e : Nat) (r : RS) (y0 : Er ⊕ Nat) : Er ⊕ (Nat × Nat) := wlP B e 0 240 (ho3 B e r y0)
theorem knP_i {B : Nat → Nat} {e n a : Nat} {N : Nat → Nme} {o : Bool} {v : Nat × Nat} (h : pM B e a n N o = .inr v) : knP B e n N o a = .inr a ∧ kE (tk B e a) = v.2 := by
  unfold knP
  rw [h]
  exact ⟨rfl, (pM_kE h).2.symm⟩
theorem knP_l {B : Nat → Nat} {e n a : Nat} {N : Nat → Nme} {o : Bool} {x : Er} (h : pM B e a n N o = .inl x) : knP B e n N o a = .inl x := by
  unfold knP
  rw [h]
  rfl
theorem ho_all {B : Nat → Nat} {e : Nat} {r : RS} {y0 : Er ⊕ Nat} : (∀ x, stN (ho4 B e r y0) = .inl x → bnd y0 (fun a => lnHome B e a r) = .inl x) ∧ (∀ c, stN (ho4 B e r y0) = .inr c → ∃ a0 v, y0 = .inr a0 ∧ pM B e a0 (rNn r) (rNm r) false = .inr v ∧ vlN 0 (ho1 B e r y0) = v.1 ∧
    bnd y0 (fun a => lnHome B e a r) = .inr (c, setHome r v.1 (vlN 0 (ho4 B e r y0)))) := by
  unfold ho4 ho3 ho2 ho1 wlP stN adv lnHome
  cases y0 with
  | inl x => exact ⟨fun x h => by cases h; rfl, fun b h => by cases h⟩
  | inr a0 =>
    simp only [bnd_r]
    cases h1 : pM B e a0 (rNn r) (rNm r) false with
    | inl x =>
      simp only [bnd_l, bnd_r, knP_l h1]
      exact ⟨fun x h => by cases h; rfl, fun b h => by cases h⟩
    | inr v =>
      obtain ⟨k1, k2⟩ := knP_i h1
      simp only [bnd_l, bnd_r, k1, vlN]
      unfold hoS
      by_cases c : rHm r v.1 = none
      · simp only [if_pos c, bnd_l, bnd_r, k2]
        cases h2 : pN B e v.2 0 240 with
        | inl x =>
          simp only [bnd_l, bnd_r]
          exact ⟨fun x h => by cases h; rfl, fun b h => by cases h⟩
        | inr w =>
          simp only [bnd_l, bnd_r]
          exact ⟨fun x h => (by cases h), fun b h => by cases h; exact ⟨a0, v, rfl, h1, rfl, rfl⟩⟩
      · simp only [if_neg c, bnd_l, bnd_r]
        exact ⟨fun x h => by cases h; rfl, fun b h => by cases h⟩
theorem bgQ_e {B : Nat → Nat} {e a a0 : Nat} {f t : Bool} (ha : a ≤ e) (h : bgQ B e f t a = .inr a0) : f = false ∧ a0 ≤ e := by
  unfold bgQ at h
  split at h
  · cases h
  · rename_i c
    split at h
    · cases h; exact ⟨by cases f; rfl; exact absurd rfl c, (tk_ord ha).2.2.1⟩
    · cases h
theorem m_readHome {d m R e a : Nat} {B : Nat → Nat} {r : RS} {G : Gm} {I : Im} (hM : MR G m R) (hX : TmV I m B e) (H : MdS G I m B e (.inr a)) (h1 : kK (tk B e a) = 1) (hr : RM G I R B r) (ho : ROk e r) :
    ∃ (G' : Gm) (I' : Im), run (d + 5) mX13_readHome [.ref m] G I = some (none, G', I') ∧ AnM G' I' m R B e (bnd (bgQ B e (decide (0 = 1)) r.1.isSome a) (fun a => lnHome B e a r)) ∧ GL m R G G' ∧ FR m R I I' := by
  have hN6 := ho.2.1.2.2.1
  obtain ⟨l1, l2, l3, l4, hS, l6⟩ := id hM
  obtain ⟨G1, I1, f1, g1, ge1, fm1⟩ := m_bgn (d := d + 2) (many := 0) (most := 1) hM hX H h1 hr ho (by omega) (by omega)
  have hlive : ∀ a0, bgQ B e (decide (0 = 1)) r.1.isSome a = .inr a0 → a0 ≤ e := fun a0 h => (bgQ_e H.2.1 h).2
  generalize bgQ B e (decide (0 = 1)) r.1.isSome a = y0 at *
  have eT1 : gT G1 = gT G := ge1.2.1
  have eR1 : gR G1 = gR G := ge1.2.2.1
  have hr1 := hr.fm l6 ge1 fm1
  obtain ⟨I2, f2, g2, fm2⟩ := m_known (d := d + 1) (o := false) (hM.ge ge1) g1 hr1.2.2.2.2.2.2.2 ho.2.2.2.2.2.2.2.1
  have fs2 := fm1.tr fm2
  have hr2 := hr.fm l6 ge1 fs2
  have g2' : MdS G1 I2 m B e (ho2 B e r y0) := g2
  have f2' : run (d + 4) mX13_known [.ref m, .int (bI false)] G1 I1 = some (some (.int (nI (vlN 0 (ho1 B e r y0)))), G1, I2) := f2
  rw [bI_0] at f2'
  have hb : ∀ a2, ho2 B e r y0 = .inr a2 → vlN 0 (ho1 B e r y0) < rN r := fun a2 h => by
    obtain ⟨a0, hy, h3⟩ := bnd_le h
    obtain ⟨v, h4, h5⟩ := bnd_le h3
    unfold ho1
    rw [hy, bnd_r, h4]
    have := (pM_b ho h4 (hlive a0 hy)).1
    exact this
  obtain ⟨p1, p2⟩ := ho_all (B := B) (e := e) (r := r) (y0 := y0)
  have seg : ∃ I3, ex (d + 5) mX13_readHome 12 [.val (.ref m), .val (.int (nI (vlN 0 (ho1 B e r y0)))), .unset] [] G1 I2 = ex (d + 5) mX13_readHome 39 [.val (.ref m), .val (.int (nI (vlN 0 (ho1 B e r y0)))), .unset] [] G1 I3 ∧ MdS G1 I3 m B e (bnd (ho2 B e r y0) (hoS B e r (vlN 0 (ho1 B e r y0)))) ∧ FM m I2 I3 := by
    obtain ⟨J, k1, k2, k3⟩ := m_flaw (d := d + 4) (n := 3) (hM.ge ge1) g2'
    have hS_1 := hS.1; have hS_2 := hS.2.1; have hS_3 := hS.2.2.1; have hS_4 := hS.2.2.2.1; have hS_5 := hS.2.2.2.2.1; have hS_6 := hS.2.2.2.2.2.1; have hS_7 := hS.2.2.2.2.2.2.1; have hS_8 := hS.2.2.2.2.2.2.2.1; have hS_9 := hS.2.2.2.2.2.2.2.2.1; have hS_10 := hS.2.2.2.2.2.2.2.2.2.1; have hS_11 := hS.2.2.2.2.2.2.2.2.2.2.1; have hS_12 := hS.2.2.2.2.2.2.2.2.2.2.2.1; have hS_13 := hS.2.2.2.2.2.2.2.2.2.2.2.2.1; have hS_14 := hS.2.2.2.2.2.2.2.2.2.2.2.2.2.1; have hS_15 := hS.2.2.2.2.2.2.2.2.2.2.2.2.2.2.1; have hS_16 := hS.2.2.2.2.2.2.2.2.2.2.2.2.2.2.2.1; have hS_17 := hS.2.2.2.2.2.2.2.2.2.2.2.2.2.2.2.2.1; have hS_18 := hS.2.2.2.2.2.2.2.2.2.2.2.2.2.2.2.2.2.1; have hS_19 := hS.2.2.2.2.2.2.2.2.2.2.2.2.2.2.2.2.2.2.1; have hS_20 := hS.2.2.2.2.2.2.2.2.2.2.2.2.2.2.2.2.2.2.2.1; have hS_21 := hS.2.2.2.2.2.2.2.2.2.2.2.2.2.2.2.2.2.2.2.2.1; have hS_22 := hS.2.2.2.2.2.2.2.2.2.2.2.2.2.2.2.2.2.2.2.2.2.1; have hS_23 := hS.2.2.2.2.2.2.2.2.2.2.2.2.2.2.2.2.2.2.2.2.2.2.1; have hS_24 := hS.2.2.2.2.2.2.2.2.2.2.2.2.2.2.2.2.2.2.2.2.2.2.2.1; have hS_25 := hS.2.2.2.2.2.2.2.2.2.2.2.2.2.2.2.2.2.2.2.2.2.2.2.2.1; have hS_26 := hS.2.2.2.2.2.2.2.2.2.2.2.2.2.2.2.2.2.2.2.2.2.2.2.2.2.1; have hS_27 := hS.2.2.2.2.2.2.2.2.2.2.2.2.2.2.2.2.2.2.2.2.2.2.2.2.2.2.1; have hS_28 := hS.2.2.2.2.2.2.2.2.2.2.2.2.2.2.2.2.2.2.2.2.2.2.2.2.2.2.2.1; have hS_29 := hS.2.2.2.2.2.2.2.2.2.2.2.2.2.2.2.2.2.2.2.2.2.2.2.2.2.2.2.2.1; have hS_30 := hS.2.2.2.2.2.2.2.2.2.2.2.2.2.2.2.2.2.2.2.2.2.2.2.2.2.2.2.2.2.1; have hS_31 := hS.2.2.2.2.2.2.2.2.2.2.2.2.2.2.2.2.2.2.2.2.2.2.2.2.2.2.2.2.2.2.1; have hS_32 := hS.2.2.2.2.2.2.2.2.2.2.2.2.2.2.2.2.2.2.2.2.2.2.2.2.2.2.2.2.2.2.2.1; have hS_33 := hS.2.2.2.2.2.2.2.2.2.2.2.2.2.2.2.2.2.2.2.2.2.2.2.2.2.2.2.2.2.2.2.2.1; have hS_34 := hS.2.2.2.2.2.2.2.2.2.2.2.2.2.2.2.2.2.2.2.2.2.2.2.2.2.2.2.2.2.2.2.2.2.1; have hS_35 := hS.2.2.2.2.2.2.2.2.2.2.2.2.2.2.2.2.2.2.2.2.2.2.2.2.2.2.2.2.2.2.2.2.2.2.1; have hS_36 := hS.2.2.2.2.2.2.2.2.2.2.2.2.2.2.2.2.2.2.2.2.2.2.2.2.2.2.2.2.2.2.2.2.2.2.2.1; have hS_37 := hS.2.2.2.2.2.2.2.2.2.2.2.2.2.2.2.2.2.2.2.2.2.2.2.2.2.2.2.2.2.2.2.2.2.2.2.2.1; have hS_38 := hS.2.2.2.2.2.2.2.2.2.2.2.2.2.2.2.2.2.2.2.2.2.2.2.2.2.2.2.2.2.2.2.2.2.2.2.2.2.1; have hS_39 := hS.2.2.2.2.2.2.2.2.2.2.2.2.2.2.2.2.2.2.2.2.2.2.2.2.2.2.2.2.2.2.2.2.2.2.2.2.2.2
    cases hy : ho2 B e r y0 with
    | inl x =>
      rw [hy] at g2'
      have h9 := g2'.deadT
      refine ⟨I2, ?_, g2', FM.rf⟩
      simp (disch := first | assumption | (simp (disch := omega) only [cK_some, ofR_some, ofR_none, Option.toList_some, Option.toList_none, List.cons_append, List.nil_append, isL_i, isL_r, isL_u, isL_2, cs_0, cs_i, cs_r, cs_l, cs_ii, cs_ir, cs_ri, cs_rr, cs_iir, cs_irr, cs_iii, cs_iri, cs_rii, cs_rir, cs_rri, cs_rrr, cs_iiii, cs_iiir, cs_iiri, cs_iirr, cs_irii, cs_irir, cs_irri, cs_irrr, cs_riii, cs_riir, cs_riri, cs_rirr, cs_rrii, cs_rrir, cs_rrri, cs_rrrr, hS_1, hS_2, hS_3, hS_4, hS_5, hS_6, hS_7, hS_8, hS_9, hS_10, hS_11, hS_12, hS_13, hS_14, hS_15, hS_16, hS_17, hS_18, hS_19, hS_20, hS_21, hS_22, hS_23, hS_24, hS_25, hS_26, hS_27, hS_28, hS_29, hS_30, hS_31, hS_32, hS_33, hS_34, hS_35, hS_36, hS_37, hS_38, hS_39, l1, eT1, inb_n, bq4, bq5, n100, not_false_eq_true, isB_0, isB_1, nI_clamp, nI_nneg, Nat.zero_add, Nat.le_refl]; done) | omega | (simp (disch := omega) only [cK_some, ofR_some, ofR_none, Option.toList_some, Option.toList_none, List.cons_append, List.nil_append, isL_i, isL_r, isL_u, isL_2, cs_0, cs_i, cs_r, cs_l, cs_ii, cs_ir, cs_ri, cs_rr, cs_iir, cs_irr, cs_iii, cs_iri, cs_rii, cs_rir, cs_rri, cs_rrr, cs_iiii, cs_iiir, cs_iiri, cs_iirr, cs_irii, cs_irir, cs_irri, cs_irrr, cs_riii, cs_riir, cs_riri, cs_rirr, cs_rrii, cs_rrir, cs_rrri, cs_rrrr, hS_1, hS_2, hS_3, hS_4, hS_5, hS_6, hS_7, hS_8, hS_9, hS_10, hS_11, hS_12, hS_13, hS_14, hS_15, hS_16, hS_17, hS_18, hS_19, hS_20, hS_21, hS_22, hS_23, hS_24, hS_25, hS_26, hS_27, hS_28, hS_29, hS_30, hS_31, hS_32, hS_33, hS_34, hS_35, hS_36, hS_37, hS_38, hS_39, l1, eT1, inb_n, bq4, bq5, n100, not_false_eq_true, isB_0, isB_1, nI_clamp, nI_nneg, Nat.zero_add, Nat.le_refl]; omega)) only [xX13_readHome_12, xX13_readHome_13, xX13_readHome_16, xX13_readHome_17, xX13_readHome_20, xX13_readHome_21, xX13_readHome_24, xX13_readHome_27, xX13_readHome_28, xX13_readHome_29, xX13_readHome_31, xX13_readHome_34, xX13_readHome_35, xX13_readHome_36, cK_some, ofR_some, ofR_none, Option.toList_some, Option.toList_none, List.cons_append, List.nil_append, isL_i, isL_r, isL_u, isL_2, cs_0, cs_i, cs_r, cs_l, cs_ii, cs_ir, cs_ri, cs_rr, cs_iir, cs_irr, cs_iii, cs_iri, cs_rii, cs_rir, cs_rri, cs_rrr, cs_iiii, cs_iiir, cs_iiri, cs_iirr, cs_irii, cs_irir, cs_irri, cs_irrr, cs_riii, cs_riir, cs_riri, cs_rirr, cs_rrii, cs_rrir, cs_rrri, cs_rrrr, hS_1, hS_2, hS_3, hS_4, hS_5, hS_6, hS_7, hS_8, hS_9, hS_10, hS_11, hS_12, hS_13, hS_14, hS_15, hS_16, hS_17, hS_18, hS_19, hS_20, hS_21, hS_22, hS_23, hS_24, hS_25, hS_26, hS_27, hS_28, hS_29, hS_30, hS_31, hS_32, hS_33, hS_34, hS_35, hS_36, hS_37, hS_38, hS_39, h9, Nat.add_sub_cancel, Nat.add_zero, Nat.zero_add, nI_lt, nI_nlt, nI_le, nI_ge, nI_pos, pk_sub, nI_clamp, s2_ne, s2_o, s2_s, nI_add, inb_n, nI_nn, zq0, zq1, ↓reduceIte]
    | inr a2 =>
      have hbb := hb a2 hy
      rw [hy] at g2' k2
      have h9 := g2'.live
      generalize vlN 0 (ho1 B e r y0) = bb at *
      obtain ⟨-, -, -, -, -, e11⟩ := hr2.2.2.2.2.2.1 bb hbb
      have hq := enc_2 (o := rHm r bb) (fun k hk => by have := (ho.2.2.2.2.1 bb hbb).2.2.2.2.2 k hk; omega)
      rw [bnd_r]
      unfold hoS
      by_cases c : rHm r bb = none
      · have c' : (encO (rHm r bb) = -2) = True := by rw [hq]; exact eq_true c
        rw [if_pos c]
        refine ⟨I2, ?_, g2', FM.rf⟩
        simp (disch := first | assumption | (simp (disch := omega) only [cK_some, ofR_some, ofR_none, Option.toList_some, Option.toList_none, List.cons_append, List.nil_append, isL_i, isL_r, isL_u, isL_2, cs_0, cs_i, cs_r, cs_l, cs_ii, cs_ir, cs_ri, cs_rr, cs_iir, cs_irr, cs_iii, cs_iri, cs_rii, cs_rir, cs_rri, cs_rrr, cs_iiii, cs_iiir, cs_iiri, cs_iirr, cs_irii, cs_irir, cs_irri, cs_irrr, cs_riii, cs_riir, cs_riri, cs_rirr, cs_rrii, cs_rrir, cs_rrri, cs_rrrr, hS_1, hS_2, hS_3, hS_4, hS_5, hS_6, hS_7, hS_8, hS_9, hS_10, hS_11, hS_12, hS_13, hS_14, hS_15, hS_16, hS_17, hS_18, hS_19, hS_20, hS_21, hS_22, hS_23, hS_24, hS_25, hS_26, hS_27, hS_28, hS_29, hS_30, hS_31, hS_32, hS_33, hS_34, hS_35, hS_36, hS_37, hS_38, hS_39, l1, eT1, inb_n, bq4, bq5, n100, not_false_eq_true, isB_0, isB_1, nI_clamp, nI_nneg, Nat.zero_add, Nat.le_refl]; done) | omega | (simp (disch := omega) only [cK_some, ofR_some, ofR_none, Option.toList_some, Option.toList_none, List.cons_append, List.nil_append, isL_i, isL_r, isL_u, isL_2, cs_0, cs_i, cs_r, cs_l, cs_ii, cs_ir, cs_ri, cs_rr, cs_iir, cs_irr, cs_iii, cs_iri, cs_rii, cs_rir, cs_rri, cs_rrr, cs_iiii, cs_iiir, cs_iiri, cs_iirr, cs_irii, cs_irir, cs_irri, cs_irrr, cs_riii, cs_riir, cs_riri, cs_rirr, cs_rrii, cs_rrir, cs_rrri, cs_rrrr, hS_1, hS_2, hS_3, hS_4, hS_5, hS_6, hS_7, hS_8, hS_9, hS_10, hS_11, hS_12, hS_13, hS_14, hS_15, hS_16, hS_17, hS_18, hS_19, hS_20, hS_21, hS_22, hS_23, hS_24, hS_25, hS_26, hS_27, hS_28, hS_29, hS_30, hS_31, hS_32, hS_33, hS_34, hS_35, hS_36, hS_37, hS_38, hS_39, l1, eT1, inb_n, bq4, bq5, n100, not_false_eq_true, isB_0, isB_1, nI_clamp, nI_nneg, Nat.zero_add, Nat.le_refl]; omega)) only [xX13_readHome_12, xX13_readHome_13, xX13_readHome_16, xX13_readHome_17, xX13_readHome_20, xX13_readHome_21, xX13_readHome_24, xX13_readHome_27, xX13_readHome_28, xX13_readHome_29, xX13_readHome_31, xX13_readHome_34, xX13_readHome_35, xX13_readHome_36, cK_some, ofR_some, ofR_none, Option.toList_some, Option.toList_none, List.cons_append, List.nil_append, isL_i, isL_r, isL_u, isL_2, cs_0, cs_i, cs_r, cs_l, cs_ii, cs_ir, cs_ri, cs_rr, cs_iir, cs_irr, cs_iii, cs_iri, cs_rii, cs_rir, cs_rri, cs_rrr, cs_iiii, cs_iiir, cs_iiri, cs_iirr, cs_irii, cs_irir, cs_irri, cs_irrr, cs_riii, cs_riir, cs_riri, cs_rirr, cs_rrii, cs_rrir, cs_rrri, cs_rrrr, hS_1, hS_2, hS_3, hS_4, hS_5, hS_6, hS_7, hS_8, hS_9, hS_10, hS_11, hS_12, hS_13, hS_14, hS_15, hS_16, hS_17, hS_18, hS_19, hS_20, hS_21, hS_22, hS_23, hS_24, hS_25, hS_26, hS_27, hS_28, hS_29, hS_30, hS_31, hS_32, hS_33, hS_34, hS_35, hS_36, hS_37, hS_38, hS_39, h9, eR1, l2, e11, c', Nat.add_sub_cancel, Nat.add_zero, Nat.zero_add, nI_lt, nI_nlt, nI_le, nI_ge, nI_pos, pk_sub, nI_clamp, s2_ne, s2_o, s2_s, nI_add, inb_n, nI_nn, zq0, zq1, ↓reduceIte]
      · have c' : (encO (rHm r bb) = -2) = False := by rw [hq]; exact eq_false c
        rw [if_neg c]
        refine ⟨J, ?_, k2, k3⟩
        simp (disch := first | assumption | (simp (disch := omega) only [cK_some, ofR_some, ofR_none, Option.toList_some, Option.toList_none, List.cons_append, List.nil_append, isL_i, isL_r, isL_u, isL_2, cs_0, cs_i, cs_r, cs_l, cs_ii, cs_ir, cs_ri, cs_rr, cs_iir, cs_irr, cs_iii, cs_iri, cs_rii, cs_rir, cs_rri, cs_rrr, cs_iiii, cs_iiir, cs_iiri, cs_iirr, cs_irii, cs_irir, cs_irri, cs_irrr, cs_riii, cs_riir, cs_riri, cs_rirr, cs_rrii, cs_rrir, cs_rrri, cs_rrrr, hS_1, hS_2, hS_3, hS_4, hS_5, hS_6, hS_7, hS_8, hS_9, hS_10, hS_11, hS_12, hS_13, hS_14, hS_15, hS_16, hS_17, hS_18, hS_19, hS_20, hS_21, hS_22, hS_23, hS_24, hS_25, hS_26, hS_27, hS_28, hS_29, hS_30, hS_31, hS_32, hS_33, hS_34, hS_35, hS_36, hS_37, hS_38, hS_39, l1, eT1, inb_n, bq4, bq5, n100, not_false_eq_true, isB_0, isB_1, nI_clamp, nI_nneg, Nat.zero_add, Nat.le_refl]; done) | omega | (simp (disch := omega) only [cK_some, ofR_some, ofR_none, Option.toList_some, Option.toList_none, List.cons_append, List.nil_append, isL_i, isL_r, isL_u, isL_2, cs_0, cs_i, cs_r, cs_l, cs_ii, cs_ir, cs_ri, cs_rr, cs_iir, cs_irr, cs_iii, cs_iri, cs_rii, cs_rir, cs_rri, cs_rrr, cs_iiii, cs_iiir, cs_iiri, cs_iirr, cs_irii, cs_irir, cs_irri, cs_irrr, cs_riii, cs_riir, cs_riri, cs_rirr, cs_rrii, cs_rrir, cs_rrri, cs_rrrr, hS_1, hS_2, hS_3, hS_4, hS_5, hS_6, hS_7, hS_8, hS_9, hS_10, hS_11, hS_12, hS_13, hS_14, hS_15, hS_16, hS_17, hS_18, hS_19, hS_20, hS_21, hS_22, hS_23, hS_24, hS_25, hS_26, hS_27, hS_28, hS_29, hS_30, hS_31, hS_32, hS_33, hS_34, hS_35, hS_36, hS_37, hS_38, hS_39, l1, eT1, inb_n, bq4, bq5, n100, not_false_eq_true, isB_0, isB_1, nI_clamp, nI_nneg, Nat.zero_add, Nat.le_refl]; omega)) only [xX13_readHome_12, xX13_readHome_13, xX13_readHome_16, xX13_readHome_17, xX13_readHome_20, xX13_readHome_21, xX13_readHome_24, xX13_readHome_27, xX13_readHome_28, xX13_readHome_29, xX13_readHome_31, xX13_readHome_34, xX13_readHome_35, xX13_readHome_36, cK_some, ofR_some, ofR_none, Option.toList_some, Option.toList_none, List.cons_append, List.nil_append, isL_i, isL_r, isL_u, isL_2, cs_0, cs_i, cs_r, cs_l, cs_ii, cs_ir, cs_ri, cs_rr, cs_iir, cs_irr, cs_iii, cs_iri, cs_rii, cs_rir, cs_rri, cs_rrr, cs_iiii, cs_iiir, cs_iiri, cs_iirr, cs_irii, cs_irir, cs_irri, cs_irrr, cs_riii, cs_riir, cs_riri, cs_rirr, cs_rrii, cs_rrir, cs_rrri, cs_rrrr, hS_1, hS_2, hS_3, hS_4, hS_5, hS_6, hS_7, hS_8, hS_9, hS_10, hS_11, hS_12, hS_13, hS_14, hS_15, hS_16, hS_17, hS_18, hS_19, hS_20, hS_21, hS_22, hS_23, hS_24, hS_25, hS_26, hS_27, hS_28, hS_29, hS_30, hS_31, hS_32, hS_33, hS_34, hS_35, hS_36, hS_37, hS_38, hS_39, h9, eR1, l2, e11, c', k1, Nat.add_sub_cancel, Nat.add_zero, Nat.zero_add, nI_lt, nI_nlt, nI_le, nI_ge, nI_pos, pk_sub, nI_clamp, s2_ne, s2_o, s2_s, nI_add, inb_n, nI_nn, zq0, zq1, ↓reduceIte]
  obtain ⟨I3, f3, g3, fm3⟩ := seg
  have fs3 := fs2.tr fm3
  obtain ⟨G4, I4, f4, g4, ge4, fm4⟩ := m_adv (d := d + 3) (hM.ge ge1) (hX.fm fs3) g3 (fun a' h => by
    obtain ⟨a2, hy, h7⟩ := bnd_le h
    have h8 := knP_4 a2 hy
    unfold hoS at h7
    split at h7
    · cases h7; exact h8
    · cases h7)
  have gs4 := ge1.tr ge4
  have fs4 := fs3.tr fm4
  have g4' : MdS G4 I4 m B e (ho3 B e r y0) := g4
  obtain ⟨G5, I5, f5, g5, ge5, fm5⟩ := m_readWhole (d := d + 2) (lo := 0) (hi := 240) (hM.ge gs4) (hX.fm fs4) g4' (by decide) (by decide)
  have gs5 := gs4.tr ge5
  have fs5 := fs4.tr fm5
  have g5' : MdS G5 I5 m B e (stN (ho4 B e r y0)) := g5
  have f5' : run (d + 4) mX13_readWhole [.ref m, .int (nI 0), .int (nI 240)] G4 I4 = some (some (.int (nI (vlN 0 (ho4 B e r y0)))), G5, I5) := f5
  have eT4 : gT G4 = gT G := gs4.2.1
  have eT5 : gT G5 = gT G := gs5.2.1
  have eR5 : gR G5 = gR G := gs5.2.2.1
  generalize vlN 0 (ho4 B e r y0) = n5 at *
  generalize vlN 0 (ho1 B e r y0) = bb at *
  have hS_1 := hS.1; have hS_2 := hS.2.1; have hS_3 := hS.2.2.1; have hS_4 := hS.2.2.2.1; have hS_5 := hS.2.2.2.2.1; have hS_6 := hS.2.2.2.2.2.1; have hS_7 := hS.2.2.2.2.2.2.1; have hS_8 := hS.2.2.2.2.2.2.2.1; have hS_9 := hS.2.2.2.2.2.2.2.2.1; have hS_10 := hS.2.2.2.2.2.2.2.2.2.1; have hS_11 := hS.2.2.2.2.2.2.2.2.2.2.1; have hS_12 := hS.2.2.2.2.2.2.2.2.2.2.2.1; have hS_13 := hS.2.2.2.2.2.2.2.2.2.2.2.2.1; have hS_14 := hS.2.2.2.2.2.2.2.2.2.2.2.2.2.1; have hS_15 := hS.2.2.2.2.2.2.2.2.2.2.2.2.2.2.1; have hS_16 := hS.2.2.2.2.2.2.2.2.2.2.2.2.2.2.2.1; have hS_17 := hS.2.2.2.2.2.2.2.2.2.2.2.2.2.2.2.2.1; have hS_18 := hS.2.2.2.2.2.2.2.2.2.2.2.2.2.2.2.2.2.1; have hS_19 := hS.2.2.2.2.2.2.2.2.2.2.2.2.2.2.2.2.2.2.1; have hS_20 := hS.2.2.2.2.2.2.2.2.2.2.2.2.2.2.2.2.2.2.2.1; have hS_21 := hS.2.2.2.2.2.2.2.2.2.2.2.2.2.2.2.2.2.2.2.2.1; have hS_22 := hS.2.2.2.2.2.2.2.2.2.2.2.2.2.2.2.2.2.2.2.2.2.1; have hS_23 := hS.2.2.2.2.2.2.2.2.2.2.2.2.2.2.2.2.2.2.2.2.2.2.1; have hS_24 := hS.2.2.2.2.2.2.2.2.2.2.2.2.2.2.2.2.2.2.2.2.2.2.2.1; have hS_25 := hS.2.2.2.2.2.2.2.2.2.2.2.2.2.2.2.2.2.2.2.2.2.2.2.2.1; have hS_26 := hS.2.2.2.2.2.2.2.2.2.2.2.2.2.2.2.2.2.2.2.2.2.2.2.2.2.1; have hS_27 := hS.2.2.2.2.2.2.2.2.2.2.2.2.2.2.2.2.2.2.2.2.2.2.2.2.2.2.1; have hS_28 := hS.2.2.2.2.2.2.2.2.2.2.2.2.2.2.2.2.2.2.2.2.2.2.2.2.2.2.2.1; have hS_29 := hS.2.2.2.2.2.2.2.2.2.2.2.2.2.2.2.2.2.2.2.2.2.2.2.2.2.2.2.2.1; have hS_30 := hS.2.2.2.2.2.2.2.2.2.2.2.2.2.2.2.2.2.2.2.2.2.2.2.2.2.2.2.2.2.1; have hS_31 := hS.2.2.2.2.2.2.2.2.2.2.2.2.2.2.2.2.2.2.2.2.2.2.2.2.2.2.2.2.2.2.1; have hS_32 := hS.2.2.2.2.2.2.2.2.2.2.2.2.2.2.2.2.2.2.2.2.2.2.2.2.2.2.2.2.2.2.2.1; have hS_33 := hS.2.2.2.2.2.2.2.2.2.2.2.2.2.2.2.2.2.2.2.2.2.2.2.2.2.2.2.2.2.2.2.2.1; have hS_34 := hS.2.2.2.2.2.2.2.2.2.2.2.2.2.2.2.2.2.2.2.2.2.2.2.2.2.2.2.2.2.2.2.2.2.1; have hS_35 := hS.2.2.2.2.2.2.2.2.2.2.2.2.2.2.2.2.2.2.2.2.2.2.2.2.2.2.2.2.2.2.2.2.2.2.1; have hS_36 := hS.2.2.2.2.2.2.2.2.2.2.2.2.2.2.2.2.2.2.2.2.2.2.2.2.2.2.2.2.2.2.2.2.2.2.2.1; have hS_37 := hS.2.2.2.2.2.2.2.2.2.2.2.2.2.2.2.2.2.2.2.2.2.2.2.2.2.2.2.2.2.2.2.2.2.2.2.2.1; have hS_38 := hS.2.2.2.2.2.2.2.2.2.2.2.2.2.2.2.2.2.2.2.2.2.2.2.2.2.2.2.2.2.2.2.2.2.2.2.2.2.1; have hS_39 := hS.2.2.2.2.2.2.2.2.2.2.2.2.2.2.2.2.2.2.2.2.2.2.2.2.2.2.2.2.2.2.2.2.2.2.2.2.2.2
  cases hz : stN (ho4 B e r y0) with
  | inl x =>
    rw [hz] at g5'
    rw [p1 x hz]
    have h9 := g5'.deadT
    refine ⟨G5, I5, ?_, g5', gs5.l, fs5.r⟩
    simp (disch := first | assumption | (simp (disch := omega) only [cK_some, ofR_some, ofR_none, Option.toList_some, Option.toList_none, List.cons_append, List.nil_append, isL_i, isL_r, isL_u, isL_2, cs_0, cs_i, cs_r, cs_l, cs_ii, cs_ir, cs_ri, cs_rr, cs_iir, cs_irr, cs_iii, cs_iri, cs_rii, cs_rir, cs_rri, cs_rrr, cs_iiii, cs_iiir, cs_iiri, cs_iirr, cs_irii, cs_irir, cs_irri, cs_irrr, cs_riii, cs_riir, cs_riri, cs_rirr, cs_rrii, cs_rrir, cs_rrri, cs_rrrr, hS_1, hS_2, hS_3, hS_4, hS_5, hS_6, hS_7, hS_8, hS_9, hS_10, hS_11, hS_12, hS_13, hS_14, hS_15, hS_16, hS_17, hS_18, hS_19, hS_20, hS_21, hS_22, hS_23, hS_24, hS_25, hS_26, hS_27, hS_28, hS_29, hS_30, hS_31, hS_32, hS_33, hS_34, hS_35, hS_36, hS_37, hS_38, hS_39, l1, eT1, inb_n, bq4, bq5, n100, not_false_eq_true, isB_0, isB_1, nI_clamp, nI_nneg, Nat.zero_add, Nat.le_refl]; done) | omega | (simp (disch := omega) only [cK_some, ofR_some, ofR_none, Option.toList_some, Option.toList_none, List.cons_append, List.nil_append, isL_i, isL_r, isL_u, isL_2, cs_0, cs_i, cs_r, cs_l, cs_ii, cs_ir, cs_ri, cs_rr, cs_iir, cs_irr, cs_iii, cs_iri, cs_rii, cs_rir, cs_rri, cs_rrr, cs_iiii, cs_iiir, cs_iiri, cs_iirr, cs_irii, cs_irir, cs_irri, cs_irrr, cs_riii, cs_riir, cs_riri, cs_rirr, cs_rrii, cs_rrir, cs_rrri, cs_rrrr, hS_1, hS_2, hS_3, hS_4, hS_5, hS_6, hS_7, hS_8, hS_9, hS_10, hS_11, hS_12, hS_13, hS_14, hS_15, hS_16, hS_17, hS_18, hS_19, hS_20, hS_21, hS_22, hS_23, hS_24, hS_25, hS_26, hS_27, hS_28, hS_29, hS_30, hS_31, hS_32, hS_33, hS_34, hS_35, hS_36, hS_37, hS_38, hS_39, l1, eT1, inb_n, bq4, bq5, n100, not_false_eq_true, isB_0, isB_1, nI_clamp, nI_nneg, Nat.zero_add, Nat.le_refl]; omega)) only [xX13_readHome_0, xX13_readHome_1, xX13_readHome_2, xX13_readHome_3, xX13_readHome_6, xX13_readHome_7, xX13_readHome_8, xX13_readHome_11, cK_some, ofR_some, ofR_none, Option.toList_some, Option.toList_none, List.cons_append, List.nil_append, isL_i, isL_r, isL_u, isL_2, cs_0, cs_i, cs_r, cs_l, cs_ii, cs_ir, cs_ri, cs_rr, cs_iir, cs_irr, cs_iii, cs_iri, cs_rii, cs_rir, cs_rri, cs_rrr, cs_iiii, cs_iiir, cs_iiri, cs_iirr, cs_irii, cs_irir, cs_irri, cs_irrr, cs_riii, cs_riir, cs_riri, cs_rirr, cs_rrii, cs_rrir, cs_rrri, cs_rrrr, hS_1, hS_2, hS_3, hS_4, hS_5, hS_6, hS_7, hS_8, hS_9, hS_10, hS_11, hS_12, hS_13, hS_14, hS_15, hS_16, hS_17, hS_18, hS_19, hS_20, hS_21, hS_22, hS_23, hS_24, hS_25, hS_26, hS_27, hS_28, hS_29, hS_30, hS_31, hS_32, hS_33, hS_34, hS_35, hS_36, hS_37, hS_38, hS_39, rX13_readHome, f1, f2', Nat.add_sub_cancel, Nat.add_zero, Nat.zero_add, nI_lt, nI_nlt, nI_le, nI_ge, nI_pos, pk_sub, nI_clamp, s2_ne, s2_o, s2_s, nI_add, inb_n, nI_nn, zq0, zq1, ↓reduceIte]
    rw [f3]
    simp (disch := first | assumption | (simp (disch := omega) only [cK_some, ofR_some, ofR_none, Option.toList_some, Option.toList_none, List.cons_append, List.nil_append, isL_i, isL_r, isL_u, isL_2, cs_0, cs_i, cs_r, cs_l, cs_ii, cs_ir, cs_ri, cs_rr, cs_iir, cs_irr, cs_iii, cs_iri, cs_rii, cs_rir, cs_rri, cs_rrr, cs_iiii, cs_iiir, cs_iiri, cs_iirr, cs_irii, cs_irir, cs_irri, cs_irrr, cs_riii, cs_riir, cs_riri, cs_rirr, cs_rrii, cs_rrir, cs_rrri, cs_rrrr, hS_1, hS_2, hS_3, hS_4, hS_5, hS_6, hS_7, hS_8, hS_9, hS_10, hS_11, hS_12, hS_13, hS_14, hS_15, hS_16, hS_17, hS_18, hS_19, hS_20, hS_21, hS_22, hS_23, hS_24, hS_25, hS_26, hS_27, hS_28, hS_29, hS_30, hS_31, hS_32, hS_33, hS_34, hS_35, hS_36, hS_37, hS_38, hS_39, l1, eT1, eT4, eT5, inb_n, bq4, bq5, n100, not_false_eq_true, isB_0, isB_1, nI_clamp, nI_nneg, Nat.zero_add, Nat.le_refl]; done) | omega | (simp (disch := omega) only [cK_some, ofR_some, ofR_none, Option.toList_some, Option.toList_none, List.cons_append, List.nil_append, isL_i, isL_r, isL_u, isL_2, cs_0, cs_i, cs_r, cs_l, cs_ii, cs_ir, cs_ri, cs_rr, cs_iir, cs_irr, cs_iii, cs_iri, cs_rii, cs_rir, cs_rri, cs_rrr, cs_iiii, cs_iiir, cs_iiri, cs_iirr, cs_irii, cs_irir, cs_irri, cs_irrr, cs_riii, cs_riir, cs_riri, cs_rirr, cs_rrii, cs_rrir, cs_rrri, cs_rrrr, hS_1, hS_2, hS_3, hS_4, hS_5, hS_6, hS_7, hS_8, hS_9, hS_10, hS_11, hS_12, hS_13, hS_14, hS_15, hS_16, hS_17, hS_18, hS_19, hS_20, hS_21, hS_22, hS_23, hS_24, hS_25, hS_26, hS_27, hS_28, hS_29, hS_30, hS_31, hS_32, hS_33, hS_34, hS_35, hS_36, hS_37, hS_38, hS_39, l1, eT1, eT4, eT5, inb_n, bq4, bq5, n100, not_false_eq_true, isB_0, isB_1, nI_clamp, nI_nneg, Nat.zero_add, Nat.le_refl]; omega)) only [xX13_readHome_39, xX13_readHome_40, xX13_readHome_43, xX13_readHome_44, xX13_readHome_45, xX13_readHome_48, xX13_readHome_51, xX13_readHome_52, xX13_readHome_53, xX13_readHome_56, xX13_readHome_57, xX13_readHome_60, xX13_readHome_61, xX13_readHome_64, xX13_readHome_67, xX13_readHome_68, xX13_readHome_69, xX13_readHome_70, cK_some, ofR_some, ofR_none, Option.toList_some, Option.toList_none, List.cons_append, List.nil_append, isL_i, isL_r, isL_u, isL_2, cs_0, cs_i, cs_r, cs_l, cs_ii, cs_ir, cs_ri, cs_rr, cs_iir, cs_irr, cs_iii, cs_iri, cs_rii, cs_rir, cs_rri, cs_rrr, cs_iiii, cs_iiir, cs_iiri, cs_iirr, cs_irii, cs_irir, cs_irri, cs_irrr, cs_riii, cs_riir, cs_riri, cs_rirr, cs_rrii, cs_rrir, cs_rrri, cs_rrrr, hS_1, hS_2, hS_3, hS_4, hS_5, hS_6, hS_7, hS_8, hS_9, hS_10, hS_11, hS_12, hS_13, hS_14, hS_15, hS_16, hS_17, hS_18, hS_19, hS_20, hS_21, hS_22, hS_23, hS_24, hS_25, hS_26, hS_27, hS_28, hS_29, hS_30, hS_31, hS_32, hS_33, hS_34, hS_35, hS_36, hS_37, hS_38, hS_39, f4, f5', h9, Nat.add_sub_cancel, Nat.add_zero, Nat.zero_add, nI_lt, nI_nlt, nI_le, nI_ge, nI_pos, pk_sub, nI_clamp, s2_ne, s2_o, s2_s, nI_add, inb_n, nI_nn, zq0, zq1, ↓reduceIte]
  | inr c =>
    rw [hz] at g5'
    obtain ⟨a0, v, hy0, hpM, hv, q4⟩ := p2 c hz
    rw [q4]
    have hbb : v.1 < rN r := (pM_b ho hpM (hlive a0 hy0)).1
    rw [hv] at f2' f3
    generalize v.1 = bv at *
    have h9 := g5'.live
    have hr5 := hr.fm l6 gs5 fs5
    obtain ⟨s1, s2s, s3, s4, s5, s6, s7, s8⟩ := id hr5
    refine ⟨G5, s2 I5 (R + 11) bv (nI n5), ?_, ⟨?_, ?_⟩, gs5.l, ?_⟩
    · simp (disch := first | assumption | (simp (disch := omega) only [cK_some, ofR_some, ofR_none, Option.toList_some, Option.toList_none, List.cons_append, List.nil_append, isL_i, isL_r, isL_u, isL_2, cs_0, cs_i, cs_r, cs_l, cs_ii, cs_ir, cs_ri, cs_rr, cs_iir, cs_irr, cs_iii, cs_iri, cs_rii, cs_rir, cs_rri, cs_rrr, cs_iiii, cs_iiir, cs_iiri, cs_iirr, cs_irii, cs_irir, cs_irri, cs_irrr, cs_riii, cs_riir, cs_riri, cs_rirr, cs_rrii, cs_rrir, cs_rrri, cs_rrrr, hS_1, hS_2, hS_3, hS_4, hS_5, hS_6, hS_7, hS_8, hS_9, hS_10, hS_11, hS_12, hS_13, hS_14, hS_15, hS_16, hS_17, hS_18, hS_19, hS_20, hS_21, hS_22, hS_23, hS_24, hS_25, hS_26, hS_27, hS_28, hS_29, hS_30, hS_31, hS_32, hS_33, hS_34, hS_35, hS_36, hS_37, hS_38, hS_39, l1, eT1, inb_n, bq4, bq5, n100, not_false_eq_true, isB_0, isB_1, nI_clamp, nI_nneg, Nat.zero_add, Nat.le_refl]; done) | omega | (simp (disch := omega) only [cK_some, ofR_some, ofR_none, Option.toList_some, Option.toList_none, List.cons_append, List.nil_append, isL_i, isL_r, isL_u, isL_2, cs_0, cs_i, cs_r, cs_l, cs_ii, cs_ir, cs_ri, cs_rr, cs_iir, cs_irr, cs_iii, cs_iri, cs_rii, cs_rir, cs_rri, cs_rrr, cs_iiii, cs_iiir, cs_iiri, cs_iirr, cs_irii, cs_irir, cs_irri, cs_irrr, cs_riii, cs_riir, cs_riri, cs_rirr, cs_rrii, cs_rrir, cs_rrri, cs_rrrr, hS_1, hS_2, hS_3, hS_4, hS_5, hS_6, hS_7, hS_8, hS_9, hS_10, hS_11, hS_12, hS_13, hS_14, hS_15, hS_16, hS_17, hS_18, hS_19, hS_20, hS_21, hS_22, hS_23, hS_24, hS_25, hS_26, hS_27, hS_28, hS_29, hS_30, hS_31, hS_32, hS_33, hS_34, hS_35, hS_36, hS_37, hS_38, hS_39, l1, eT1, inb_n, bq4, bq5, n100, not_false_eq_true, isB_0, isB_1, nI_clamp, nI_nneg, Nat.zero_add, Nat.le_refl]; omega)) only [xX13_readHome_0, xX13_readHome_1, xX13_readHome_2, xX13_readHome_3, xX13_readHome_6, xX13_readHome_7, xX13_readHome_8, xX13_readHome_11, cK_some, ofR_some, ofR_none, Option.toList_some, Option.toList_none, List.cons_append, List.nil_append, isL_i, isL_r, isL_u, isL_2, cs_0, cs_i, cs_r, cs_l, cs_ii, cs_ir, cs_ri, cs_rr, cs_iir, cs_irr, cs_iii, cs_iri, cs_rii, cs_rir, cs_rri, cs_rrr, cs_iiii, cs_iiir, cs_iiri, cs_iirr, cs_irii, cs_irir, cs_irri, cs_irrr, cs_riii, cs_riir, cs_riri, cs_rirr, cs_rrii, cs_rrir, cs_rrri, cs_rrrr, hS_1, hS_2, hS_3, hS_4, hS_5, hS_6, hS_7, hS_8, hS_9, hS_10, hS_11, hS_12, hS_13, hS_14, hS_15, hS_16, hS_17, hS_18, hS_19, hS_20, hS_21, hS_22, hS_23, hS_24, hS_25, hS_26, hS_27, hS_28, hS_29, hS_30, hS_31, hS_32, hS_33, hS_34, hS_35, hS_36, hS_37, hS_38, hS_39, rX13_readHome, f1, f2', Nat.add_sub_cancel, Nat.add_zero, Nat.zero_add, nI_lt, nI_nlt, nI_le, nI_ge, nI_pos, pk_sub, nI_clamp, s2_ne, s2_o, s2_s, nI_add, inb_n, nI_nn, zq0, zq1, ↓reduceIte]
      rw [f3]
      simp (disch := first | assumption | (simp (disch := omega) only [cK_some, ofR_some, ofR_none, Option.toList_some, Option.toList_none, List.cons_append, List.nil_append, isL_i, isL_r, isL_u, isL_2, cs_0, cs_i, cs_r, cs_l, cs_ii, cs_ir, cs_ri, cs_rr, cs_iir, cs_irr, cs_iii, cs_iri, cs_rii, cs_rir, cs_rri, cs_rrr, cs_iiii, cs_iiir, cs_iiri, cs_iirr, cs_irii, cs_irir, cs_irri, cs_irrr, cs_riii, cs_riir, cs_riri, cs_rirr, cs_rrii, cs_rrir, cs_rrri, cs_rrrr, hS_1, hS_2, hS_3, hS_4, hS_5, hS_6, hS_7, hS_8, hS_9, hS_10, hS_11, hS_12, hS_13, hS_14, hS_15, hS_16, hS_17, hS_18, hS_19, hS_20, hS_21, hS_22, hS_23, hS_24, hS_25, hS_26, hS_27, hS_28, hS_29, hS_30, hS_31, hS_32, hS_33, hS_34, hS_35, hS_36, hS_37, hS_38, hS_39, l1, eT1, eT4, eT5, inb_n, bq4, bq5, n100, not_false_eq_true, isB_0, isB_1, nI_clamp, nI_nneg, Nat.zero_add, Nat.le_refl]; done) | omega | (simp (disch := omega) only [cK_some, ofR_some, ofR_none, Option.toList_some, Option.toList_none, List.cons_append, List.nil_append, isL_i, isL_r, isL_u, isL_2, cs_0, cs_i, cs_r, cs_l, cs_ii, cs_ir, cs_ri, cs_rr, cs_iir, cs_irr, cs_iii, cs_iri, cs_rii, cs_rir, cs_rri, cs_rrr, cs_iiii, cs_iiir, cs_iiri, cs_iirr, cs_irii, cs_irir, cs_irri, cs_irrr, cs_riii, cs_riir, cs_riri, cs_rirr, cs_rrii, cs_rrir, cs_rrri, cs_rrrr, hS_1, hS_2, hS_3, hS_4, hS_5, hS_6, hS_7, hS_8, hS_9, hS_10, hS_11, hS_12, hS_13, hS_14, hS_15, hS_16, hS_17, hS_18, hS_19, hS_20, hS_21, hS_22, hS_23, hS_24, hS_25, hS_26, hS_27, hS_28, hS_29, hS_30, hS_31, hS_32, hS_33, hS_34, hS_35, hS_36, hS_37, hS_38, hS_39, l1, eT1, eT4, eT5, inb_n, bq4, bq5, n100, not_false_eq_true, isB_0, isB_1, nI_clamp, nI_nneg, Nat.zero_add, Nat.le_refl]; omega)) only [xX13_readHome_39, xX13_readHome_40, xX13_readHome_43, xX13_readHome_44, xX13_readHome_45, xX13_readHome_48, xX13_readHome_51, xX13_readHome_52, xX13_readHome_53, xX13_readHome_56, xX13_readHome_57, xX13_readHome_60, xX13_readHome_61, xX13_readHome_64, xX13_readHome_67, xX13_readHome_68, xX13_readHome_69, xX13_readHome_70, cK_some, ofR_some, ofR_none, Option.toList_some, Option.toList_none, List.cons_append, List.nil_append, isL_i, isL_r, isL_u, isL_2, cs_0, cs_i, cs_r, cs_l, cs_ii, cs_ir, cs_ri, cs_rr, cs_iir, cs_irr, cs_iii, cs_iri, cs_rii, cs_rir, cs_rri, cs_rrr, cs_iiii, cs_iiir, cs_iiri, cs_iirr, cs_irii, cs_irir, cs_irri, cs_irrr, cs_riii, cs_riir, cs_riri, cs_rirr, cs_rrii, cs_rrir, cs_rrri, cs_rrrr, hS_1, hS_2, hS_3, hS_4, hS_5, hS_6, hS_7, hS_8, hS_9, hS_10, hS_11, hS_12, hS_13, hS_14, hS_15, hS_16, hS_17, hS_18, hS_19, hS_20, hS_21, hS_22, hS_23, hS_24, hS_25, hS_26, hS_27, hS_28, hS_29, hS_30, hS_31, hS_32, hS_33, hS_34, hS_35, hS_36, hS_37, hS_38, hS_39, f4, f5', h9, eR5, l2, Nat.add_sub_cancel, Nat.add_zero, Nat.zero_add, nI_lt, nI_nlt, nI_le, nI_ge, nI_pos, pk_sub, nI_clamp, s2_ne, s2_o, s2_s, nI_add, inb_n, nI_nn, zq0, zq1, ↓reduceIte]
    · exact g5'.fr (fun j => by rw [s2_ne (by omega)]) rfl
    · have eF : ∀ k, k ≠ 11 → s2 I5 (R + 11) bv (nI n5) (R + k) = I5 (R + k) := fun k hk => by rw [s2_ne (by omega)]
      have e0 : s2 I5 (R + 11) bv (nI n5) R = I5 R := eF 0 (by decide)
      refine ⟨?_, ?_, ?_, ?_, ?_, fun j hj => ?_, ?_, ?_⟩
      · rw [e0]; exact s1
      · rw [e0, eF 16 (by decide)]; exact s2s
      · rw [e0]; exact s3
      · rw [eF 1 (by decide), eF 2 (by decide), eF 3 (by decide), eF 4 (by decide)]; exact s4
      · rw [eF 5 (by decide)]; exact s5
      · show s2 I5 (R + 11) bv (nI n5) (R + 6) j = nI (rKi r j) ∧ s2 I5 (R + 11) bv (nI n5) (R + 7) j = nI (rDr r j) ∧ s2 I5 (R + 11) bv (nI n5) (R + 8) j = nI (rCo r j) ∧ s2 I5 (R + 11) bv (nI n5) (R + 9) j = nI (rWa r j) ∧ s2 I5 (R + 11) bv (nI n5) (R + 10) j = nI (rBz r j) ∧ s2 I5 (R + 11) bv (nI n5) (R + 11) j = encO (if j = bv then some n5 else rHm r j)
        obtain ⟨w1, w2, w3, w4, w5, w6⟩ := s6 j hj
        rw [eF 6 (by decide), eF 7 (by decide), eF 8 (by decide), eF 9 (by decide), eF 10 (by decide)]
        refine ⟨w1, w2, w3, w4, w5, ?_⟩
        by_cases cj : j = bv
        · rw [cj, s2_s, if_pos rfl]; rfl
        · rw [s2_o cj, if_neg cj]; exact w6
      · rw [eF 12 (by decide), eF 13 (by decide), eF 14 (by decide), eF 15 (by decide)]; exact s7
      · exact s8.fr (by rw [e0]) (eF 18 (by decide)) (eF 19 (by decide))
    · exact fs5.r.s2 l6 (by omega)
def se1 (B : Nat → Nat) (e : Nat) (r : RS) (y0 : Er ⊕ Nat) : Er ⊕ (Nat × Nat) := bnd y0 (fun a => pM B e a (rNn r) (rNm r) true)
def se2 (B : Nat → Nat) (e : Nat) (r : RS) (y0 : Er ⊕ Nat) : Er ⊕ Nat := bnd (stN (se1 B e r y0)) (bdd B e 0 (rSz r (vlN 0 (se1 B e r y0)) - 1))
def seS (B : Nat → Nat) (e : Nat) (r : RS) (p : Nat) (a : Nat) : Er ⊕ Nat := if rSn r p = none then .inr a else .inl (3, kS (tk B e a))
def se3 (B : Nat → Nat) (e : Nat) (r : RS) (y0 : Er ⊕ Nat) : Er ⊕ Nat := adv B e (bnd (se2 B e r y0) (seS B e r (rFi r (vlN 0 (se1 B e r y0)) + bvv B e 0 (se2 B e r y0))))
def se4 (B : Nat → Nat) (e : Nat) (r : RS) (y0 : Er ⊕ Nat) : Er ⊕ (Nat × Nat) := wlP B e 0 99 (se3 B e r y0)
theorem se_all {B : Nat → Nat} {e : Nat} {r : RS} {y0 : Er ⊕ Nat} : (∀ x, stN (se4 B e r y0) = .inl x → bnd y0 (fun a => lnSeen B e a r) = .inl x) ∧ (∀ c, stN (se4 B e r y0) = .inr c → (∃ a2, se2 B e r y0 = .inr a2) ∧
    bnd y0 (fun a => lnSeen B e a r) = .inr (c, setSeen r (rFi r (vlN 0 (se1 B e r y0)) + bvv B e 0 (se2 B e r y0)) (vlN 0 (se4 B e r y0)))) := by
  unfold se4 se3 se2 se1 wlP stN adv lnSeen
  cases y0 with
  | inl x => exact ⟨fun x h => by cases h; rfl, fun b h => by cases h⟩
  | inr a0 =>
    simp only [bnd_r]
    cases h1 : pM B e a0 (rNn r) (rNm r) true with
    | inl x =>
      simp only [bnd_l, bnd_r]
      exact ⟨fun x h => by cases h; rfl, fun b h => by cases h⟩
    | inr v =>
      have hbp := bdd_pN (B := B) (e := e) (lo := 0) (hi := rSz r v.1 - 1) (a := v.2)
      simp only [bnd_l, bnd_r, vlN]
      cases h3 : bdd B e 0 (rSz r v.1 - 1) v.2 with
      | inl x =>
        rw [h3] at hbp
        try dsimp only at hbp
        simp only [bnd_l, bnd_r, hbp]
        exact ⟨fun x h => by cases h; rfl, fun b h => by cases h⟩
      | inr a3 =>
        rw [h3] at hbp
        obtain ⟨ea, hp, hb1, hb2⟩ := hbp
        subst ea
        simp only [bnd_l, bnd_r, hp, bvv]
        unfold seS
        by_cases c : rSn r (rFi r v.1 + kV (tk B e v.2)) = none
        · simp only [if_pos c, bnd_l, bnd_r]
          cases h5 : pN B e (kE (tk B e v.2)) 0 99 with
          | inl x =>
            simp only [bnd_l, bnd_r]
            exact ⟨fun x h => by cases h; rfl, fun b h => by cases h⟩
          | inr w =>
            simp only [bnd_l, bnd_r]
            exact ⟨fun x h => (by cases h), fun b h => by cases h; exact ⟨⟨_, rfl⟩, rfl⟩⟩
        · simp only [if_neg c, bnd_l, bnd_r]
          exact ⟨fun x h => by cases h; rfl, fun b h => by cases h⟩
theorem m_readSeen {d m R e a : Nat} {B : Nat → Nat} {r : RS} {G : Gm} {I : Im} (hM : MR G m R) (hX : TmV I m B e) (H : MdS G I m B e (.inr a)) (h1 : kK (tk B e a) = 1) (hr : RM G I R B r) (ho : ROk e r) :
    ∃ (G' : Gm) (I' : Im), run (d + 5) mX13_readSeen [.ref m] G I = some (none, G', I') ∧ AnM G' I' m R B e (bnd (bgQ B e (decide (rSc r = 6)) r.1.isSome a) (fun a => lnSeen B e a r)) ∧ GL m R G G' ∧ FR m R I I' := by
  have hT3 := ho.2.1.1
  have hP6 := ho.2.1.2.1
  have hc6 := ho.2.1.2.2.2.2.1
  obtain ⟨l1, l2, l3, l4, hS, l6⟩ := id hM
  obtain ⟨G1, I1, f1, g1, ge1, fm1⟩ := m_bgn (d := d + 2) (many := rSc r) (most := 6) hM hX H h1 hr ho (by omega) (by omega)
  have hlive : ∀ a0, bgQ B e (decide (rSc r = 6)) r.1.isSome a = .inr a0 → a0 ≤ e ∧ r.1.isSome = true := fun a0 h => ⟨(bgQ_e H.2.1 h).2, by
    unfold bgQ at h
    split at h
    · cases h
    · split at h
      · assumption
      · cases h⟩
  generalize bgQ B e (decide (rSc r = 6)) r.1.isSome a = y0 at *
  have eT1 : gT G1 = gT G := ge1.2.1
  have hr1 := hr.fm l6 ge1 fm1
  obtain ⟨G2, I2, f2, g2, ge2, fm2⟩ := m_readKnown (d := d) (o := true) (hM.ge ge1) (hX.fm fm1) g1 hr1.2.2.2.2.2.2.2 ho.2.2.2.2.2.2.2.1
  have gs2 := ge1.tr ge2
  have fs2 := fm1.tr fm2
  have hr2 := hr.fm l6 gs2 fs2
  have g2' : MdS G2 I2 m B e (stN (se1 B e r y0)) := g2
  have f2' : run (d + 4) mX13_readKnown [.ref m, .int (bI true)] G1 I1 = some (some (.int (nI (vlN 0 (se1 B e r y0)))), G2, I2) := f2
  rw [bI_1] at f2'
  have hb : ∀ a2, stN (se1 B e r y0) = .inr a2 → vlN 0 (se1 B e r y0) < rT r ∧ a2 ≤ e := fun a2 h => by
    obtain ⟨v, hv, h3⟩ := bnd_le h
    cases h3
    obtain ⟨a0, hy, h4⟩ := bnd_le hv
    rw [hv]
    exact pM_b ho h4 (hlive a0 hy).1
  have ht3 : vlN 0 (se1 B e r y0) < 3 := by
    cases hq : se1 B e r y0 with
    | inl x => show 0 < 3; omega
    | inr v =>
      have := (hb v.2 (by rw [hq]; rfl)).1
      rw [hq] at this
      omega
  obtain ⟨p1, p2⟩ := se_all (B := B) (e := e) (r := r) (y0 := y0)
  have eT2 : gT G2 = gT G := gs2.2.1
  have eR2 : gR G2 = gR G := gs2.2.2.1
  have eS := hr.2.2.1.2.2.2.2
  have seg : ∃ I3, ex (d + 5) mX13_readSeen 19 [.val (.ref m), .val (.int (nI (vlN 0 (se1 B e r y0)))), .unset, .unset, .unset] [] G2 I2 = ex (d + 5) mX13_readSeen 48 [.val (.ref m), .val (.int (nI (vlN 0 (se1 B e r y0)))), .val (.int (nI (bvv B e 0 (se2 B e r y0)))), .unset, .unset] [] G2 I3 ∧ MdS G2 I3 m B e (se2 B e r y0) ∧ FM m I2 I3 := by
    unfold se2
    have hS_1 := hS.1; have hS_2 := hS.2.1; have hS_3 := hS.2.2.1; have hS_4 := hS.2.2.2.1; have hS_5 := hS.2.2.2.2.1; have hS_6 := hS.2.2.2.2.2.1; have hS_7 := hS.2.2.2.2.2.2.1; have hS_8 := hS.2.2.2.2.2.2.2.1; have hS_9 := hS.2.2.2.2.2.2.2.2.1; have hS_10 := hS.2.2.2.2.2.2.2.2.2.1; have hS_11 := hS.2.2.2.2.2.2.2.2.2.2.1; have hS_12 := hS.2.2.2.2.2.2.2.2.2.2.2.1; have hS_13 := hS.2.2.2.2.2.2.2.2.2.2.2.2.1; have hS_14 := hS.2.2.2.2.2.2.2.2.2.2.2.2.2.1; have hS_15 := hS.2.2.2.2.2.2.2.2.2.2.2.2.2.2.1; have hS_16 := hS.2.2.2.2.2.2.2.2.2.2.2.2.2.2.2.1; have hS_17 := hS.2.2.2.2.2.2.2.2.2.2.2.2.2.2.2.2.1; have hS_18 := hS.2.2.2.2.2.2.2.2.2.2.2.2.2.2.2.2.2.1; have hS_19 := hS.2.2.2.2.2.2.2.2.2.2.2.2.2.2.2.2.2.2.1; have hS_20 := hS.2.2.2.2.2.2.2.2.2.2.2.2.2.2.2.2.2.2.2.1; have hS_21 := hS.2.2.2.2.2.2.2.2.2.2.2.2.2.2.2.2.2.2.2.2.1; have hS_22 := hS.2.2.2.2.2.2.2.2.2.2.2.2.2.2.2.2.2.2.2.2.2.1; have hS_23 := hS.2.2.2.2.2.2.2.2.2.2.2.2.2.2.2.2.2.2.2.2.2.2.1; have hS_24 := hS.2.2.2.2.2.2.2.2.2.2.2.2.2.2.2.2.2.2.2.2.2.2.2.1; have hS_25 := hS.2.2.2.2.2.2.2.2.2.2.2.2.2.2.2.2.2.2.2.2.2.2.2.2.1; have hS_26 := hS.2.2.2.2.2.2.2.2.2.2.2.2.2.2.2.2.2.2.2.2.2.2.2.2.2.1; have hS_27 := hS.2.2.2.2.2.2.2.2.2.2.2.2.2.2.2.2.2.2.2.2.2.2.2.2.2.2.1; have hS_28 := hS.2.2.2.2.2.2.2.2.2.2.2.2.2.2.2.2.2.2.2.2.2.2.2.2.2.2.2.1; have hS_29 := hS.2.2.2.2.2.2.2.2.2.2.2.2.2.2.2.2.2.2.2.2.2.2.2.2.2.2.2.2.1; have hS_30 := hS.2.2.2.2.2.2.2.2.2.2.2.2.2.2.2.2.2.2.2.2.2.2.2.2.2.2.2.2.2.1; have hS_31 := hS.2.2.2.2.2.2.2.2.2.2.2.2.2.2.2.2.2.2.2.2.2.2.2.2.2.2.2.2.2.2.1; have hS_32 := hS.2.2.2.2.2.2.2.2.2.2.2.2.2.2.2.2.2.2.2.2.2.2.2.2.2.2.2.2.2.2.2.1; have hS_33 := hS.2.2.2.2.2.2.2.2.2.2.2.2.2.2.2.2.2.2.2.2.2.2.2.2.2.2.2.2.2.2.2.2.1; have hS_34 := hS.2.2.2.2.2.2.2.2.2.2.2.2.2.2.2.2.2.2.2.2.2.2.2.2.2.2.2.2.2.2.2.2.2.1; have hS_35 := hS.2.2.2.2.2.2.2.2.2.2.2.2.2.2.2.2.2.2.2.2.2.2.2.2.2.2.2.2.2.2.2.2.2.2.1; have hS_36 := hS.2.2.2.2.2.2.2.2.2.2.2.2.2.2.2.2.2.2.2.2.2.2.2.2.2.2.2.2.2.2.2.2.2.2.2.1; have hS_37 := hS.2.2.2.2.2.2.2.2.2.2.2.2.2.2.2.2.2.2.2.2.2.2.2.2.2.2.2.2.2.2.2.2.2.2.2.2.1; have hS_38 := hS.2.2.2.2.2.2.2.2.2.2.2.2.2.2.2.2.2.2.2.2.2.2.2.2.2.2.2.2.2.2.2.2.2.2.2.2.2.1; have hS_39 := hS.2.2.2.2.2.2.2.2.2.2.2.2.2.2.2.2.2.2.2.2.2.2.2.2.2.2.2.2.2.2.2.2.2.2.2.2.2.2
    cases hy : stN (se1 B e r y0) with
    | inl x =>
      rw [hy] at g2'
      have h9 := g2'.deadT
      obtain ⟨J, k1, k2, k3⟩ := m_bounded (d := d + 3) (lo := 0) (hi := 0) (hM.ge gs2) g2' (by decide) (by decide)
      have k1' : run (d + 4) mX13_bounded [.ref m, .int (nI 0), .int (nI 0)] G2 I2 = some (some (.int (nI 0)), G2, J) := k1
      refine ⟨J, ?_, k2, k3⟩
      show _ = ex (d + 5) mX13_readSeen 48 [.val (.ref m), .val (.int (nI (vlN 0 (se1 B e r y0)))), .val (.int (nI 0)), .unset, .unset] [] G2 J
      simp (disch := first | assumption | (simp (disch := omega) only [cK_some, ofR_some, ofR_none, Option.toList_some, Option.toList_none, List.cons_append, List.nil_append, isL_i, isL_r, isL_u, isL_2, cs_0, cs_i, cs_r, cs_l, cs_ii, cs_ir, cs_ri, cs_rr, cs_iir, cs_irr, cs_iii, cs_iri, cs_rii, cs_rir, cs_rri, cs_rrr, cs_iiii, cs_iiir, cs_iiri, cs_iirr, cs_irii, cs_irir, cs_irri, cs_irrr, cs_riii, cs_riir, cs_riri, cs_rirr, cs_rrii, cs_rrir, cs_rrri, cs_rrrr, hS_1, hS_2, hS_3, hS_4, hS_5, hS_6, hS_7, hS_8, hS_9, hS_10, hS_11, hS_12, hS_13, hS_14, hS_15, hS_16, hS_17, hS_18, hS_19, hS_20, hS_21, hS_22, hS_23, hS_24, hS_25, hS_26, hS_27, hS_28, hS_29, hS_30, hS_31, hS_32, hS_33, hS_34, hS_35, hS_36, hS_37, hS_38, hS_39, l1, eT2, inb_n, bq4, bq5, n100, not_false_eq_true, isB_0, isB_1, nI_clamp, nI_nneg, Nat.zero_add, Nat.le_refl]; done) | omega | (simp (disch := omega) only [cK_some, ofR_some, ofR_none, Option.toList_some, Option.toList_none, List.cons_append, List.nil_append, isL_i, isL_r, isL_u, isL_2, cs_0, cs_i, cs_r, cs_l, cs_ii, cs_ir, cs_ri, cs_rr, cs_iir, cs_irr, cs_iii, cs_iri, cs_rii, cs_rir, cs_rri, cs_rrr, cs_iiii, cs_iiir, cs_iiri, cs_iirr, cs_irii, cs_irir, cs_irri, cs_irrr, cs_riii, cs_riir, cs_riri, cs_rirr, cs_rrii, cs_rrir, cs_rrri, cs_rrrr, hS_1, hS_2, hS_3, hS_4, hS_5, hS_6, hS_7, hS_8, hS_9, hS_10, hS_11, hS_12, hS_13, hS_14, hS_15, hS_16, hS_17, hS_18, hS_19, hS_20, hS_21, hS_22, hS_23, hS_24, hS_25, hS_26, hS_27, hS_28, hS_29, hS_30, hS_31, hS_32, hS_33, hS_34, hS_35, hS_36, hS_37, hS_38, hS_39, l1, eT2, inb_n, bq4, bq5, n100, not_false_eq_true, isB_0, isB_1, nI_clamp, nI_nneg, Nat.zero_add, Nat.le_refl]; omega)) only [xX13_readSeen_19, xX13_readSeen_20, xX13_readSeen_21, xX13_readSeen_22, xX13_readSeen_25, xX13_readSeen_26, xX13_readSeen_29, xX13_readSeen_30, xX13_readSeen_33, xX13_readSeen_34, xX13_readSeen_37, xX13_readSeen_40, xX13_readSeen_41, xX13_readSeen_42, xX13_readSeen_43, xX13_readSeen_44, xX13_readSeen_47, cK_some, ofR_some, ofR_none, Option.toList_some, Option.toList_none, List.cons_append, List.nil_append, isL_i, isL_r, isL_u, isL_2, cs_0, cs_i, cs_r, cs_l, cs_ii, cs_ir, cs_ri, cs_rr, cs_iir, cs_irr, cs_iii, cs_iri, cs_rii, cs_rir, cs_rri, cs_rrr, cs_iiii, cs_iiir, cs_iiri, cs_iirr, cs_irii, cs_irir, cs_irri, cs_irrr, cs_riii, cs_riir, cs_riri, cs_rirr, cs_rrii, cs_rrir, cs_rrri, cs_rrrr, hS_1, hS_2, hS_3, hS_4, hS_5, hS_6, hS_7, hS_8, hS_9, hS_10, hS_11, hS_12, hS_13, hS_14, hS_15, hS_16, hS_17, hS_18, hS_19, hS_20, hS_21, hS_22, hS_23, hS_24, hS_25, hS_26, hS_27, hS_28, hS_29, hS_30, hS_31, hS_32, hS_33, hS_34, hS_35, hS_36, hS_37, hS_38, hS_39, h9, k1', Nat.add_sub_cancel, Nat.add_zero, Nat.zero_add, nI_lt, nI_nlt, nI_le, nI_ge, nI_pos, pk_sub, nI_clamp, s2_ne, s2_o, s2_s, nI_add, inb_n, nI_nn, zq0, zq1, ↓reduceIte]
    | inr a2 =>
      obtain ⟨hbb, ha2⟩ := hb a2 hy
      rw [hy] at g2'
      have h9 := g2'.live
      generalize vlN 0 (se1 B e r y0) = bb at *
      obtain ⟨e1, -, -, -⟩ := hr2.2.2.2.1 bb hbb
      have hsz := ho.2.2.1 bb hbb
      obtain ⟨J, k1, k2, k3⟩ := m_bounded (d := d + 3) (lo := 0) (hi := rSz r bb - 1) (hM.ge gs2) g2' (by decide) (by omega)
      have su := pk_sub (show 1 ≤ rSz r bb from hsz.1)
      refine ⟨J, ?_, k2, k3⟩
      simp (disch := first | assumption | (simp (disch := omega) only [cK_some, ofR_some, ofR_none, Option.toList_some, Option.toList_none, List.cons_append, List.nil_append, isL_i, isL_r, isL_u, isL_2, cs_0, cs_i, cs_r, cs_l, cs_ii, cs_ir, cs_ri, cs_rr, cs_iir, cs_irr, cs_iii, cs_iri, cs_rii, cs_rir, cs_rri, cs_rrr, cs_iiii, cs_iiir, cs_iiri, cs_iirr, cs_irii, cs_irir, cs_irri, cs_irrr, cs_riii, cs_riir, cs_riri, cs_rirr, cs_rrii, cs_rrir, cs_rrri, cs_rrrr, hS_1, hS_2, hS_3, hS_4, hS_5, hS_6, hS_7, hS_8, hS_9, hS_10, hS_11, hS_12, hS_13, hS_14, hS_15, hS_16, hS_17, hS_18, hS_19, hS_20, hS_21, hS_22, hS_23, hS_24, hS_25, hS_26, hS_27, hS_28, hS_29, hS_30, hS_31, hS_32, hS_33, hS_34, hS_35, hS_36, hS_37, hS_38, hS_39, l1, eT2, inb_n, bq4, bq5, n100, not_false_eq_true, isB_0, isB_1, nI_clamp, nI_nneg, Nat.zero_add, Nat.le_refl]; done) | omega | (simp (disch := omega) only [cK_some, ofR_some, ofR_none, Option.toList_some, Option.toList_none, List.cons_append, List.nil_append, isL_i, isL_r, isL_u, isL_2, cs_0, cs_i, cs_r, cs_l, cs_ii, cs_ir, cs_ri, cs_rr, cs_iir, cs_irr, cs_iii, cs_iri, cs_rii, cs_rir, cs_rri, cs_rrr, cs_iiii, cs_iiir, cs_iiri, cs_iirr, cs_irii, cs_irir, cs_irri, cs_irrr, cs_riii, cs_riir, cs_riri, cs_rirr, cs_rrii, cs_rrir, cs_rrri, cs_rrrr, hS_1, hS_2, hS_3, hS_4, hS_5, hS_6, hS_7, hS_8, hS_9, hS_10, hS_11, hS_12, hS_13, hS_14, hS_15, hS_16, hS_17, hS_18, hS_19, hS_20, hS_21, hS_22, hS_23, hS_24, hS_25, hS_26, hS_27, hS_28, hS_29, hS_30, hS_31, hS_32, hS_33, hS_34, hS_35, hS_36, hS_37, hS_38, hS_39, l1, eT2, inb_n, bq4, bq5, n100, not_false_eq_true, isB_0, isB_1, nI_clamp, nI_nneg, Nat.zero_add, Nat.le_refl]; omega)) only [xX13_readSeen_19, xX13_readSeen_20, xX13_readSeen_21, xX13_readSeen_22, xX13_readSeen_25, xX13_readSeen_26, xX13_readSeen_29, xX13_readSeen_30, xX13_readSeen_33, xX13_readSeen_34, xX13_readSeen_37, xX13_readSeen_40, xX13_readSeen_41, xX13_readSeen_42, xX13_readSeen_43, xX13_readSeen_44, xX13_readSeen_47, cK_some, ofR_some, ofR_none, Option.toList_some, Option.toList_none, List.cons_append, List.nil_append, isL_i, isL_r, isL_u, isL_2, cs_0, cs_i, cs_r, cs_l, cs_ii, cs_ir, cs_ri, cs_rr, cs_iir, cs_irr, cs_iii, cs_iri, cs_rii, cs_rir, cs_rri, cs_rrr, cs_iiii, cs_iiir, cs_iiri, cs_iirr, cs_irii, cs_irir, cs_irri, cs_irrr, cs_riii, cs_riir, cs_riri, cs_rirr, cs_rrii, cs_rrir, cs_rrri, cs_rrrr, hS_1, hS_2, hS_3, hS_4, hS_5, hS_6, hS_7, hS_8, hS_9, hS_10, hS_11, hS_12, hS_13, hS_14, hS_15, hS_16, hS_17, hS_18, hS_19, hS_20, hS_21, hS_22, hS_23, hS_24, hS_25, hS_26, hS_27, hS_28, hS_29, hS_30, hS_31, hS_32, hS_33, hS_34, hS_35, hS_36, hS_37, hS_38, hS_39, h9, eR2, l2, e1, su, k1, Nat.add_sub_cancel, Nat.add_zero, Nat.zero_add, nI_lt, nI_nlt, nI_le, nI_ge, nI_pos, pk_sub, nI_clamp, s2_ne, s2_o, s2_s, nI_add, inb_n, nI_nn, zq0, zq1, ↓reduceIte]
  obtain ⟨I3, f3, g3, fm3⟩ := seg
  have fs3 := fs2.tr fm3
  have hr3 := hr.fm l6 gs2 fs3
  have hlive2 : ∀ a2, se2 B e r y0 = .inr a2 → vlN 0 (se1 B e r y0) < rT r ∧ bvv B e 0 (se2 B e r y0) < rSz r (vlN 0 (se1 B e r y0)) ∧ r.1.isSome = true ∧ kK (tk B e a2) = 2 := fun a2 h => by
    obtain ⟨a1, h3, h4⟩ := bnd_le h
    have hbp := bdd_pN (B := B) (e := e) (lo := 0) (hi := rSz r (vlN 0 (se1 B e r y0)) - 1) (a := a1)
    have h6 := (bdd_2 h4).1
    rw [h4] at hbp
    obtain ⟨ea, hp, hb1, hb2⟩ := hbp
    have hbb := (hb a1 h3).1
    have hsz := ho.2.2.1 _ hbb
    obtain ⟨v, hv, h5⟩ := bnd_le h3
    obtain ⟨a0, hy, -⟩ := bnd_le hv
    refine ⟨hbb, ?_, (hlive a0 hy).2, h6⟩
    rw [h]
    show kV (tk B e a2) < _
    rw [ea]
    omega
  have seg2 : ∃ I4, ex (d + 5) mX13_readSeen 48 [.val (.ref m), .val (.int (nI (vlN 0 (se1 B e r y0)))), .val (.int (nI (bvv B e 0 (se2 B e r y0)))), .unset, .unset] [] G2 I3 = ex (d + 5) mX13_readSeen 86 [.val (.ref m), .val (.int (nI (vlN 0 (se1 B e r y0)))), .val (.int (nI (bvv B e 0 (se2 B e r y0)))), .val (.int (I3 (R + 4) (vlN 0 (se1 B e r y0)) + nI (bvv B e 0 (se2 B e r y0)))), .unset] [] G2 I4 ∧ MdS G2 I4 m B e (bnd (se2 B e r y0) (seS B e r (rFi r (vlN 0 (se1 B e r y0)) + bvv B e 0 (se2 B e r y0)))) ∧ FM m I3 I4 := by
    obtain ⟨J, k1, k2, k3⟩ := m_flaw (d := d + 4) (n := 3) (hM.ge gs2) g3
    have hS_1 := hS.1; have hS_2 := hS.2.1; have hS_3 := hS.2.2.1; have hS_4 := hS.2.2.2.1; have hS_5 := hS.2.2.2.2.1; have hS_6 := hS.2.2.2.2.2.1; have hS_7 := hS.2.2.2.2.2.2.1; have hS_8 := hS.2.2.2.2.2.2.2.1; have hS_9 := hS.2.2.2.2.2.2.2.2.1; have hS_10 := hS.2.2.2.2.2.2.2.2.2.1; have hS_11 := hS.2.2.2.2.2.2.2.2.2.2.1; have hS_12 := hS.2.2.2.2.2.2.2.2.2.2.2.1; have hS_13 := hS.2.2.2.2.2.2.2.2.2.2.2.2.1; have hS_14 := hS.2.2.2.2.2.2.2.2.2.2.2.2.2.1; have hS_15 := hS.2.2.2.2.2.2.2.2.2.2.2.2.2.2.1; have hS_16 := hS.2.2.2.2.2.2.2.2.2.2.2.2.2.2.2.1; have hS_17 := hS.2.2.2.2.2.2.2.2.2.2.2.2.2.2.2.2.1; have hS_18 := hS.2.2.2.2.2.2.2.2.2.2.2.2.2.2.2.2.2.1; have hS_19 := hS.2.2.2.2.2.2.2.2.2.2.2.2.2.2.2.2.2.2.1; have hS_20 := hS.2.2.2.2.2.2.2.2.2.2.2.2.2.2.2.2.2.2.2.1; have hS_21 := hS.2.2.2.2.2.2.2.2.2.2.2.2.2.2.2.2.2.2.2.2.1; have hS_22 := hS.2.2.2.2.2.2.2.2.2.2.2.2.2.2.2.2.2.2.2.2.2.1; have hS_23 := hS.2.2.2.2.2.2.2.2.2.2.2.2.2.2.2.2.2.2.2.2.2.2.1; have hS_24 := hS.2.2.2.2.2.2.2.2.2.2.2.2.2.2.2.2.2.2.2.2.2.2.2.1; have hS_25 := hS.2.2.2.2.2.2.2.2.2.2.2.2.2.2.2.2.2.2.2.2.2.2.2.2.1; have hS_26 := hS.2.2.2.2.2.2.2.2.2.2.2.2.2.2.2.2.2.2.2.2.2.2.2.2.2.1; have hS_27 := hS.2.2.2.2.2.2.2.2.2.2.2.2.2.2.2.2.2.2.2.2.2.2.2.2.2.2.1; have hS_28 := hS.2.2.2.2.2.2.2.2.2.2.2.2.2.2.2.2.2.2.2.2.2.2.2.2.2.2.2.1; have hS_29 := hS.2.2.2.2.2.2.2.2.2.2.2.2.2.2.2.2.2.2.2.2.2.2.2.2.2.2.2.2.1; have hS_30 := hS.2.2.2.2.2.2.2.2.2.2.2.2.2.2.2.2.2.2.2.2.2.2.2.2.2.2.2.2.2.1; have hS_31 := hS.2.2.2.2.2.2.2.2.2.2.2.2.2.2.2.2.2.2.2.2.2.2.2.2.2.2.2.2.2.2.1; have hS_32 := hS.2.2.2.2.2.2.2.2.2.2.2.2.2.2.2.2.2.2.2.2.2.2.2.2.2.2.2.2.2.2.2.1; have hS_33 := hS.2.2.2.2.2.2.2.2.2.2.2.2.2.2.2.2.2.2.2.2.2.2.2.2.2.2.2.2.2.2.2.2.1; have hS_34 := hS.2.2.2.2.2.2.2.2.2.2.2.2.2.2.2.2.2.2.2.2.2.2.2.2.2.2.2.2.2.2.2.2.2.1; have hS_35 := hS.2.2.2.2.2.2.2.2.2.2.2.2.2.2.2.2.2.2.2.2.2.2.2.2.2.2.2.2.2.2.2.2.2.2.1; have hS_36 := hS.2.2.2.2.2.2.2.2.2.2.2.2.2.2.2.2.2.2.2.2.2.2.2.2.2.2.2.2.2.2.2.2.2.2.2.1; have hS_37 := hS.2.2.2.2.2.2.2.2.2.2.2.2.2.2.2.2.2.2.2.2.2.2.2.2.2.2.2.2.2.2.2.2.2.2.2.2.1; have hS_38 := hS.2.2.2.2.2.2.2.2.2.2.2.2.2.2.2.2.2.2.2.2.2.2.2.2.2.2.2.2.2.2.2.2.2.2.2.2.2.1; have hS_39 := hS.2.2.2.2.2.2.2.2.2.2.2.2.2.2.2.2.2.2.2.2.2.2.2.2.2.2.2.2.2.2.2.2.2.2.2.2.2.2
    cases hy : se2 B e r y0 with
    | inl x =>
      rw [hy] at g3
      have h9 := g3.deadT
      refine ⟨I3, ?_, g3, FM.rf⟩
      simp (disch := first | assumption | (simp (disch := omega) only [cK_some, ofR_some, ofR_none, Option.toList_some, Option.toList_none, List.cons_append, List.nil_append, isL_i, isL_r, isL_u, isL_2, cs_0, cs_i, cs_r, cs_l, cs_ii, cs_ir, cs_ri, cs_rr, cs_iir, cs_irr, cs_iii, cs_iri, cs_rii, cs_rir, cs_rri, cs_rrr, cs_iiii, cs_iiir, cs_iiri, cs_iirr, cs_irii, cs_irir, cs_irri, cs_irrr, cs_riii, cs_riir, cs_riri, cs_rirr, cs_rrii, cs_rrir, cs_rrri, cs_rrrr, hS_1, hS_2, hS_3, hS_4, hS_5, hS_6, hS_7, hS_8, hS_9, hS_10, hS_11, hS_12, hS_13, hS_14, hS_15, hS_16, hS_17, hS_18, hS_19, hS_20, hS_21, hS_22, hS_23, hS_24, hS_25, hS_26, hS_27, hS_28, hS_29, hS_30, hS_31, hS_32, hS_33, hS_34, hS_35, hS_36, hS_37, hS_38, hS_39, l1, eT2, ht3, inb_n, bq4, bq5, n100, not_false_eq_true, isB_0, isB_1, nI_clamp, nI_nneg, Nat.zero_add, Nat.le_refl]; done) | omega | (simp (disch := omega) only [cK_some, ofR_some, ofR_none, Option.toList_some, Option.toList_none, List.cons_append, List.nil_append, isL_i, isL_r, isL_u, isL_2, cs_0, cs_i, cs_r, cs_l, cs_ii, cs_ir, cs_ri, cs_rr, cs_iir, cs_irr, cs_iii, cs_iri, cs_rii, cs_rir, cs_rri, cs_rrr, cs_iiii, cs_iiir, cs_iiri, cs_iirr, cs_irii, cs_irir, cs_irri, cs_irrr, cs_riii, cs_riir, cs_riri, cs_rirr, cs_rrii, cs_rrir, cs_rrri, cs_rrrr, hS_1, hS_2, hS_3, hS_4, hS_5, hS_6, hS_7, hS_8, hS_9, hS_10, hS_11, hS_12, hS_13, hS_14, hS_15, hS_16, hS_17, hS_18, hS_19, hS_20, hS_21, hS_22, hS_23, hS_24, hS_25, hS_26, hS_27, hS_28, hS_29, hS_30, hS_31, hS_32, hS_33, hS_34, hS_35, hS_36, hS_37, hS_38, hS_39, l1, eT2, ht3, inb_n, bq4, bq5, n100, not_false_eq_true, isB_0, isB_1, nI_clamp, nI_nneg, Nat.zero_add, Nat.le_refl]; omega)) only [xX13_readSeen_48, xX13_readSeen_49, xX13_readSeen_52, xX13_readSeen_55, xX13_readSeen_56, xX13_readSeen_57, xX13_readSeen_58, xX13_readSeen_59, xX13_readSeen_60, xX13_readSeen_61, xX13_readSeen_64, xX13_readSeen_65, xX13_readSeen_68, xX13_readSeen_69, xX13_readSeen_72, xX13_readSeen_75, xX13_readSeen_76, xX13_readSeen_77, xX13_readSeen_78, xX13_readSeen_81, xX13_readSeen_82, xX13_readSeen_83, cK_some, ofR_some, ofR_none, Option.toList_some, Option.toList_none, List.cons_append, List.nil_append, isL_i, isL_r, isL_u, isL_2, cs_0, cs_i, cs_r, cs_l, cs_ii, cs_ir, cs_ri, cs_rr, cs_iir, cs_irr, cs_iii, cs_iri, cs_rii, cs_rir, cs_rri, cs_rrr, cs_iiii, cs_iiir, cs_iiri, cs_iirr, cs_irii, cs_irir, cs_irri, cs_irrr, cs_riii, cs_riir, cs_riri, cs_rirr, cs_rrii, cs_rrir, cs_rrri, cs_rrrr, hS_1, hS_2, hS_3, hS_4, hS_5, hS_6, hS_7, hS_8, hS_9, hS_10, hS_11, hS_12, hS_13, hS_14, hS_15, hS_16, hS_17, hS_18, hS_19, hS_20, hS_21, hS_22, hS_23, hS_24, hS_25, hS_26, hS_27, hS_28, hS_29, hS_30, hS_31, hS_32, hS_33, hS_34, hS_35, hS_36, hS_37, hS_38, hS_39, h9, eR2, l2, Nat.add_sub_cancel, Nat.add_zero, Nat.zero_add, nI_lt, nI_nlt, nI_le, nI_ge, nI_pos, pk_sub, nI_clamp, s2_ne, s2_o, s2_s, nI_add, inb_n, nI_nn, zq0, zq1, ↓reduceIte]
    | inr a2 =>
      obtain ⟨q1, q2, q3, -⟩ := hlive2 a2 hy
      rw [hy] at g3 k2 q2
      have h9 := g3.live
      generalize vlN 0 (se1 B e r y0) = bb at *
      obtain ⟨e1, -, -, e4⟩ := hr3.2.2.2.1 bb q1
      have hsz := ho.2.2.1 bb q1
      rw [bnd_r]
      generalize bvv B e 0 (Sum.inr a2) = nn at *
      unfold seS
      obtain ⟨s, hs⟩ := Option.isSome_iff_exists.mp q3
      have e16 := (hr3.2.1 s hs).2 (rFi r bb + nn) (by omega)
      have hq := encM_1 (o := rSn r (rFi r bb + nn)) (fun k hk => by have := (ho.2.2.2.2.2.2.1 _ k hk).1; omega)
      rw [e4]
      by_cases c : rSn r (rFi r bb + nn) = none
      · have c' : (encM (rSn r (rFi r bb + nn)) = -1) = True := by rw [hq]; exact eq_true c
        rw [if_pos c]
        refine ⟨I3, ?_, g3, FM.rf⟩
        simp (disch := first | assumption | (simp (disch := omega) only [cK_some, ofR_some, ofR_none, Option.toList_some, Option.toList_none, List.cons_append, List.nil_append, isL_i, isL_r, isL_u, isL_2, cs_0, cs_i, cs_r, cs_l, cs_ii, cs_ir, cs_ri, cs_rr, cs_iir, cs_irr, cs_iii, cs_iri, cs_rii, cs_rir, cs_rri, cs_rrr, cs_iiii, cs_iiir, cs_iiri, cs_iirr, cs_irii, cs_irir, cs_irri, cs_irrr, cs_riii, cs_riir, cs_riri, cs_rirr, cs_rrii, cs_rrir, cs_rrri, cs_rrrr, hS_1, hS_2, hS_3, hS_4, hS_5, hS_6, hS_7, hS_8, hS_9, hS_10, hS_11, hS_12, hS_13, hS_14, hS_15, hS_16, hS_17, hS_18, hS_19, hS_20, hS_21, hS_22, hS_23, hS_24, hS_25, hS_26, hS_27, hS_28, hS_29, hS_30, hS_31, hS_32, hS_33, hS_34, hS_35, hS_36, hS_37, hS_38, hS_39, l1, eT2, inb_n, bq4, bq5, n100, not_false_eq_true, isB_0, isB_1, nI_clamp, nI_nneg, Nat.zero_add, Nat.le_refl]; done) | omega | (simp (disch := omega) only [cK_some, ofR_some, ofR_none, Option.toList_some, Option.toList_none, List.cons_append, List.nil_append, isL_i, isL_r, isL_u, isL_2, cs_0, cs_i, cs_r, cs_l, cs_ii, cs_ir, cs_ri, cs_rr, cs_iir, cs_irr, cs_iii, cs_iri, cs_rii, cs_rir, cs_rri, cs_rrr, cs_iiii, cs_iiir, cs_iiri, cs_iirr, cs_irii, cs_irir, cs_irri, cs_irrr, cs_riii, cs_riir, cs_riri, cs_rirr, cs_rrii, cs_rrir, cs_rrri, cs_rrrr, hS_1, hS_2, hS_3, hS_4, hS_5, hS_6, hS_7, hS_8, hS_9, hS_10, hS_11, hS_12, hS_13, hS_14, hS_15, hS_16, hS_17, hS_18, hS_19, hS_20, hS_21, hS_22, hS_23, hS_24, hS_25, hS_26, hS_27, hS_28, hS_29, hS_30, hS_31, hS_32, hS_33, hS_34, hS_35, hS_36, hS_37, hS_38, hS_39, l1, eT2, inb_n, bq4, bq5, n100, not_false_eq_true, isB_0, isB_1, nI_clamp, nI_nneg, Nat.zero_add, Nat.le_refl]; omega)) only [xX13_readSeen_48, xX13_readSeen_49, xX13_readSeen_52, xX13_readSeen_55, xX13_readSeen_56, xX13_readSeen_57, xX13_readSeen_58, xX13_readSeen_59, xX13_readSeen_60, xX13_readSeen_61, xX13_readSeen_64, xX13_readSeen_65, xX13_readSeen_68, xX13_readSeen_69, xX13_readSeen_72, xX13_readSeen_75, xX13_readSeen_76, xX13_readSeen_77, xX13_readSeen_78, xX13_readSeen_81, xX13_readSeen_82, xX13_readSeen_83, cK_some, ofR_some, ofR_none, Option.toList_some, Option.toList_none, List.cons_append, List.nil_append, isL_i, isL_r, isL_u, isL_2, cs_0, cs_i, cs_r, cs_l, cs_ii, cs_ir, cs_ri, cs_rr, cs_iir, cs_irr, cs_iii, cs_iri, cs_rii, cs_rir, cs_rri, cs_rrr, cs_iiii, cs_iiir, cs_iiri, cs_iirr, cs_irii, cs_irir, cs_irri, cs_irrr, cs_riii, cs_riir, cs_riri, cs_rirr, cs_rrii, cs_rrir, cs_rrri, cs_rrrr, hS_1, hS_2, hS_3, hS_4, hS_5, hS_6, hS_7, hS_8, hS_9, hS_10, hS_11, hS_12, hS_13, hS_14, hS_15, hS_16, hS_17, hS_18, hS_19, hS_20, hS_21, hS_22, hS_23, hS_24, hS_25, hS_26, hS_27, hS_28, hS_29, hS_30, hS_31, hS_32, hS_33, hS_34, hS_35, hS_36, hS_37, hS_38, hS_39, h9, eR2, l2, e4, nI_add, e16, c', Nat.add_sub_cancel, Nat.add_zero, Nat.zero_add, nI_lt, nI_nlt, nI_le, nI_ge, nI_pos, pk_sub, nI_clamp, s2_ne, s2_o, s2_s, nI_add, inb_n, nI_nn, zq0, zq1, ↓reduceIte]
      · have c' : (encM (rSn r (rFi r bb + nn)) = -1) = False := by rw [hq]; exact eq_false c
        rw [if_neg c]
        refine ⟨J, ?_, k2, k3⟩
        simp (disch := first | assumption | (simp (disch := omega) only [cK_some, ofR_some, ofR_none, Option.toList_some, Option.toList_none, List.cons_append, List.nil_append, isL_i, isL_r, isL_u, isL_2, cs_0, cs_i, cs_r, cs_l, cs_ii, cs_ir, cs_ri, cs_rr, cs_iir, cs_irr, cs_iii, cs_iri, cs_rii, cs_rir, cs_rri, cs_rrr, cs_iiii, cs_iiir, cs_iiri, cs_iirr, cs_irii, cs_irir, cs_irri, cs_irrr, cs_riii, cs_riir, cs_riri, cs_rirr, cs_rrii, cs_rrir, cs_rrri, cs_rrrr, hS_1, hS_2, hS_3, hS_4, hS_5, hS_6, hS_7, hS_8, hS_9, hS_10, hS_11, hS_12, hS_13, hS_14, hS_15, hS_16, hS_17, hS_18, hS_19, hS_20, hS_21, hS_22, hS_23, hS_24, hS_25, hS_26, hS_27, hS_28, hS_29, hS_30, hS_31, hS_32, hS_33, hS_34, hS_35, hS_36, hS_37, hS_38, hS_39, l1, eT2, inb_n, bq4, bq5, n100, not_false_eq_true, isB_0, isB_1, nI_clamp, nI_nneg, Nat.zero_add, Nat.le_refl]; done) | omega | (simp (disch := omega) only [cK_some, ofR_some, ofR_none, Option.toList_some, Option.toList_none, List.cons_append, List.nil_append, isL_i, isL_r, isL_u, isL_2, cs_0, cs_i, cs_r, cs_l, cs_ii, cs_ir, cs_ri, cs_rr, cs_iir, cs_irr, cs_iii, cs_iri, cs_rii, cs_rir, cs_rri, cs_rrr, cs_iiii, cs_iiir, cs_iiri, cs_iirr, cs_irii, cs_irir, cs_irri, cs_irrr, cs_riii, cs_riir, cs_riri, cs_rirr, cs_rrii, cs_rrir, cs_rrri, cs_rrrr, hS_1, hS_2, hS_3, hS_4, hS_5, hS_6, hS_7, hS_8, hS_9, hS_10, hS_11, hS_12, hS_13, hS_14, hS_15, hS_16, hS_17, hS_18, hS_19, hS_20, hS_21, hS_22, hS_23, hS_24, hS_25, hS_26, hS_27, hS_28, hS_29, hS_30, hS_31, hS_32, hS_33, hS_34, hS_35, hS_36, hS_37, hS_38, hS_39, l1, eT2, inb_n, bq4, bq5, n100, not_false_eq_true, isB_0, isB_1, nI_clamp, nI_nneg, Nat.zero_add, Nat.le_refl]; omega)) only [xX13_readSeen_48, xX13_readSeen_49, xX13_readSeen_52, xX13_readSeen_55, xX13_readSeen_56, xX13_readSeen_57, xX13_readSeen_58, xX13_readSeen_59, xX13_readSeen_60, xX13_readSeen_61, xX13_readSeen_64, xX13_readSeen_65, xX13_readSeen_68, xX13_readSeen_69, xX13_readSeen_72, xX13_readSeen_75, xX13_readSeen_76, xX13_readSeen_77, xX13_readSeen_78, xX13_readSeen_81, xX13_readSeen_82, xX13_readSeen_83, cK_some, ofR_some, ofR_none, Option.toList_some, Option.toList_none, List.cons_append, List.nil_append, isL_i, isL_r, isL_u, isL_2, cs_0, cs_i, cs_r, cs_l, cs_ii, cs_ir, cs_ri, cs_rr, cs_iir, cs_irr, cs_iii, cs_iri, cs_rii, cs_rir, cs_rri, cs_rrr, cs_iiii, cs_iiir, cs_iiri, cs_iirr, cs_irii, cs_irir, cs_irri, cs_irrr, cs_riii, cs_riir, cs_riri, cs_rirr, cs_rrii, cs_rrir, cs_rrri, cs_rrrr, hS_1, hS_2, hS_3, hS_4, hS_5, hS_6, hS_7, hS_8, hS_9, hS_10, hS_11, hS_12, hS_13, hS_14, hS_15, hS_16, hS_17, hS_18, hS_19, hS_20, hS_21, hS_22, hS_23, hS_24, hS_25, hS_26, hS_27, hS_28, hS_29, hS_30, hS_31, hS_32, hS_33, hS_34, hS_35, hS_36, hS_37, hS_38, hS_39, h9, eR2, l2, e4, nI_add, e16, c', k1, Nat.add_sub_cancel, Nat.add_zero, Nat.zero_add, nI_lt, nI_nlt, nI_le, nI_ge, nI_pos, pk_sub, nI_clamp, s2_ne, s2_o, s2_s, nI_add, inb_n, nI_nn, zq0, zq1, ↓reduceIte]
  obtain ⟨I4, f4, g4, fm4⟩ := seg2
  have fs4 := fs3.tr fm4
  obtain ⟨G5, I5, f5, g5, ge5, fm5⟩ := m_adv (d := d + 3) (hM.ge gs2) (hX.fm fs4) g4 (fun a' h => by
    obtain ⟨a2, hy, h7⟩ := bnd_le h
    have h8 := (hlive2 a2 hy).2.2.2
    unfold seS at h7
    split at h7
    · cases h7; rw [h8]; decide
    · cases h7)
  have gs5 := gs2.tr ge5
  have fs5 := fs4.tr fm5
  have g5' : MdS G5 I5 m B e (se3 B e r y0) := g5
  obtain ⟨G6, I6, f6, g6, ge6, fm6⟩ := m_readWhole (d := d + 2) (lo := 0) (hi := 99) (hM.ge gs5) (hX.fm fs5) g5' (by decide) (by decide)
  have gs6 := gs5.tr ge6
  have fs6 := fs5.tr fm6
  have g6' : MdS G6 I6 m B e (stN (se4 B e r y0)) := g6
  have f6' : run (d + 4) mX13_readWhole [.ref m, .int (nI 0), .int (nI 99)] G5 I5 = some (some (.int (nI (vlN 0 (se4 B e r y0)))), G6, I6) := f6
  have eT5 : gT G5 = gT G := gs5.2.1
  have eT6 : gT G6 = gT G := gs6.2.1
  have eR6 : gR G6 = gR G := gs6.2.2.1
  generalize vlN 0 (se4 B e r y0) = n6 at *
  have hS_1 := hS.1; have hS_2 := hS.2.1; have hS_3 := hS.2.2.1; have hS_4 := hS.2.2.2.1; have hS_5 := hS.2.2.2.2.1; have hS_6 := hS.2.2.2.2.2.1; have hS_7 := hS.2.2.2.2.2.2.1; have hS_8 := hS.2.2.2.2.2.2.2.1; have hS_9 := hS.2.2.2.2.2.2.2.2.1; have hS_10 := hS.2.2.2.2.2.2.2.2.2.1; have hS_11 := hS.2.2.2.2.2.2.2.2.2.2.1; have hS_12 := hS.2.2.2.2.2.2.2.2.2.2.2.1; have hS_13 := hS.2.2.2.2.2.2.2.2.2.2.2.2.1; have hS_14 := hS.2.2.2.2.2.2.2.2.2.2.2.2.2.1; have hS_15 := hS.2.2.2.2.2.2.2.2.2.2.2.2.2.2.1; have hS_16 := hS.2.2.2.2.2.2.2.2.2.2.2.2.2.2.2.1; have hS_17 := hS.2.2.2.2.2.2.2.2.2.2.2.2.2.2.2.2.1; have hS_18 := hS.2.2.2.2.2.2.2.2.2.2.2.2.2.2.2.2.2.1; have hS_19 := hS.2.2.2.2.2.2.2.2.2.2.2.2.2.2.2.2.2.2.1; have hS_20 := hS.2.2.2.2.2.2.2.2.2.2.2.2.2.2.2.2.2.2.2.1; have hS_21 := hS.2.2.2.2.2.2.2.2.2.2.2.2.2.2.2.2.2.2.2.2.1; have hS_22 := hS.2.2.2.2.2.2.2.2.2.2.2.2.2.2.2.2.2.2.2.2.2.1; have hS_23 := hS.2.2.2.2.2.2.2.2.2.2.2.2.2.2.2.2.2.2.2.2.2.2.1; have hS_24 := hS.2.2.2.2.2.2.2.2.2.2.2.2.2.2.2.2.2.2.2.2.2.2.2.1; have hS_25 := hS.2.2.2.2.2.2.2.2.2.2.2.2.2.2.2.2.2.2.2.2.2.2.2.2.1; have hS_26 := hS.2.2.2.2.2.2.2.2.2.2.2.2.2.2.2.2.2.2.2.2.2.2.2.2.2.1; have hS_27 := hS.2.2.2.2.2.2.2.2.2.2.2.2.2.2.2.2.2.2.2.2.2.2.2.2.2.2.1; have hS_28 := hS.2.2.2.2.2.2.2.2.2.2.2.2.2.2.2.2.2.2.2.2.2.2.2.2.2.2.2.1; have hS_29 := hS.2.2.2.2.2.2.2.2.2.2.2.2.2.2.2.2.2.2.2.2.2.2.2.2.2.2.2.2.1; have hS_30 := hS.2.2.2.2.2.2.2.2.2.2.2.2.2.2.2.2.2.2.2.2.2.2.2.2.2.2.2.2.2.1; have hS_31 := hS.2.2.2.2.2.2.2.2.2.2.2.2.2.2.2.2.2.2.2.2.2.2.2.2.2.2.2.2.2.2.1; have hS_32 := hS.2.2.2.2.2.2.2.2.2.2.2.2.2.2.2.2.2.2.2.2.2.2.2.2.2.2.2.2.2.2.2.1; have hS_33 := hS.2.2.2.2.2.2.2.2.2.2.2.2.2.2.2.2.2.2.2.2.2.2.2.2.2.2.2.2.2.2.2.2.1; have hS_34 := hS.2.2.2.2.2.2.2.2.2.2.2.2.2.2.2.2.2.2.2.2.2.2.2.2.2.2.2.2.2.2.2.2.2.1; have hS_35 := hS.2.2.2.2.2.2.2.2.2.2.2.2.2.2.2.2.2.2.2.2.2.2.2.2.2.2.2.2.2.2.2.2.2.2.1; have hS_36 := hS.2.2.2.2.2.2.2.2.2.2.2.2.2.2.2.2.2.2.2.2.2.2.2.2.2.2.2.2.2.2.2.2.2.2.2.1; have hS_37 := hS.2.2.2.2.2.2.2.2.2.2.2.2.2.2.2.2.2.2.2.2.2.2.2.2.2.2.2.2.2.2.2.2.2.2.2.2.1; have hS_38 := hS.2.2.2.2.2.2.2.2.2.2.2.2.2.2.2.2.2.2.2.2.2.2.2.2.2.2.2.2.2.2.2.2.2.2.2.2.2.1; have hS_39 := hS.2.2.2.2.2.2.2.2.2.2.2.2.2.2.2.2.2.2.2.2.2.2.2.2.2.2.2.2.2.2.2.2.2.2.2.2.2.2
  cases hz : stN (se4 B e r y0) with
  | inl x =>
    rw [hz] at g6'
    rw [p1 x hz]
    have h9 := g6'.deadT
    refine ⟨G6, I6, ?_, g6', gs6.l, fs6.r⟩
    simp (disch := first | assumption | (simp (disch := omega) only [cK_some, ofR_some, ofR_none, Option.toList_some, Option.toList_none, List.cons_append, List.nil_append, isL_i, isL_r, isL_u, isL_2, cs_0, cs_i, cs_r, cs_l, cs_ii, cs_ir, cs_ri, cs_rr, cs_iir, cs_irr, cs_iii, cs_iri, cs_rii, cs_rir, cs_rri, cs_rrr, cs_iiii, cs_iiir, cs_iiri, cs_iirr, cs_irii, cs_irir, cs_irri, cs_irrr, cs_riii, cs_riir, cs_riri, cs_rirr, cs_rrii, cs_rrir, cs_rrri, cs_rrrr, hS_1, hS_2, hS_3, hS_4, hS_5, hS_6, hS_7, hS_8, hS_9, hS_10, hS_11, hS_12, hS_13, hS_14, hS_15, hS_16, hS_17, hS_18, hS_19, hS_20, hS_21, hS_22, hS_23, hS_24, hS_25, hS_26, hS_27, hS_28, hS_29, hS_30, hS_31, hS_32, hS_33, hS_34, hS_35, hS_36, hS_37, hS_38, hS_39, l1, eT1, inb_n, bq4, bq5, n100, not_false_eq_true, isB_0, isB_1, nI_clamp, nI_nneg, Nat.zero_add, Nat.le_refl]; done) | omega | (simp (disch := omega) only [cK_some, ofR_some, ofR_none, Option.toList_some, Option.toList_none, List.cons_append, List.nil_append, isL_i, isL_r, isL_u, isL_2, cs_0, cs_i, cs_r, cs_l, cs_ii, cs_ir, cs_ri, cs_rr, cs_iir, cs_irr, cs_iii, cs_iri, cs_rii, cs_rir, cs_rri, cs_rrr, cs_iiii, cs_iiir, cs_iiri, cs_iirr, cs_irii, cs_irir, cs_irri, cs_irrr, cs_riii, cs_riir, cs_riri, cs_rirr, cs_rrii, cs_rrir, cs_rrri, cs_rrrr, hS_1, hS_2, hS_3, hS_4, hS_5, hS_6, hS_7, hS_8, hS_9, hS_10, hS_11, hS_12, hS_13, hS_14, hS_15, hS_16, hS_17, hS_18, hS_19, hS_20, hS_21, hS_22, hS_23, hS_24, hS_25, hS_26, hS_27, hS_28, hS_29, hS_30, hS_31, hS_32, hS_33, hS_34, hS_35, hS_36, hS_37, hS_38, hS_39, l1, eT1, inb_n, bq4, bq5, n100, not_false_eq_true, isB_0, isB_1, nI_clamp, nI_nneg, Nat.zero_add, Nat.le_refl]; omega)) only [xX13_readSeen_0, xX13_readSeen_1, xX13_readSeen_2, xX13_readSeen_5, xX13_readSeen_8, xX13_readSeen_10, xX13_readSeen_13, xX13_readSeen_14, xX13_readSeen_15, xX13_readSeen_18, cK_some, ofR_some, ofR_none, Option.toList_some, Option.toList_none, List.cons_append, List.nil_append, isL_i, isL_r, isL_u, isL_2, cs_0, cs_i, cs_r, cs_l, cs_ii, cs_ir, cs_ri, cs_rr, cs_iir, cs_irr, cs_iii, cs_iri, cs_rii, cs_rir, cs_rri, cs_rrr, cs_iiii, cs_iiir, cs_iiri, cs_iirr, cs_irii, cs_irir, cs_irri, cs_irrr, cs_riii, cs_riir, cs_riri, cs_rirr, cs_rrii, cs_rrir, cs_rrri, cs_rrrr, hS_1, hS_2, hS_3, hS_4, hS_5, hS_6, hS_7, hS_8, hS_9, hS_10, hS_11, hS_12, hS_13, hS_14, hS_15, hS_16, hS_17, hS_18, hS_19, hS_20, hS_21, hS_22, hS_23, hS_24, hS_25, hS_26, hS_27, hS_28, hS_29, hS_30, hS_31, hS_32, hS_33, hS_34, hS_35, hS_36, hS_37, hS_38, hS_39, rX13_readSeen, l2, eS, f1, f2', Nat.add_sub_cancel, Nat.add_zero, Nat.zero_add, nI_lt, nI_nlt, nI_le, nI_ge, nI_pos, pk_sub, nI_clamp, s2_ne, s2_o, s2_s, nI_add, inb_n, nI_nn, zq0, zq1, ↓reduceIte]
    rw [f3, f4]
    simp (disch := first | assumption | (simp (disch := omega) only [cK_some, ofR_some, ofR_none, Option.toList_some, Option.toList_none, List.cons_append, List.nil_append, isL_i, isL_r, isL_u, isL_2, cs_0, cs_i, cs_r, cs_l, cs_ii, cs_ir, cs_ri, cs_rr, cs_iir, cs_irr, cs_iii, cs_iri, cs_rii, cs_rir, cs_rri, cs_rrr, cs_iiii, cs_iiir, cs_iiri, cs_iirr, cs_irii, cs_irir, cs_irri, cs_irrr, cs_riii, cs_riir, cs_riri, cs_rirr, cs_rrii, cs_rrir, cs_rrri, cs_rrrr, hS_1, hS_2, hS_3, hS_4, hS_5, hS_6, hS_7, hS_8, hS_9, hS_10, hS_11, hS_12, hS_13, hS_14, hS_15, hS_16, hS_17, hS_18, hS_19, hS_20, hS_21, hS_22, hS_23, hS_24, hS_25, hS_26, hS_27, hS_28, hS_29, hS_30, hS_31, hS_32, hS_33, hS_34, hS_35, hS_36, hS_37, hS_38, hS_39, l1, eT2, eT5, eT6, inb_n, bq4, bq5, n100, not_false_eq_true, isB_0, isB_1, nI_clamp, nI_nneg, Nat.zero_add, Nat.le_refl]; done) | omega | (simp (disch := omega) only [cK_some, ofR_some, ofR_none, Option.toList_some, Option.toList_none, List.cons_append, List.nil_append, isL_i, isL_r, isL_u, isL_2, cs_0, cs_i, cs_r, cs_l, cs_ii, cs_ir, cs_ri, cs_rr, cs_iir, cs_irr, cs_iii, cs_iri, cs_rii, cs_rir, cs_rri, cs_rrr, cs_iiii, cs_iiir, cs_iiri, cs_iirr, cs_irii, cs_irir, cs_irri, cs_irrr, cs_riii, cs_riir, cs_riri, cs_rirr, cs_rrii, cs_rrir, cs_rrri, cs_rrrr, hS_1, hS_2, hS_3, hS_4, hS_5, hS_6, hS_7, hS_8, hS_9, hS_10, hS_11, hS_12, hS_13, hS_14, hS_15, hS_16, hS_17, hS_18, hS_19, hS_20, hS_21, hS_22, hS_23, hS_24, hS_25, hS_26, hS_27, hS_28, hS_29, hS_30, hS_31, hS_32, hS_33, hS_34, hS_35, hS_36, hS_37, hS_38, hS_39, l1, eT2, eT5, eT6, inb_n, bq4, bq5, n100, not_false_eq_true, isB_0, isB_1, nI_clamp, nI_nneg, Nat.zero_add, Nat.le_refl]; omega)) only [xX13_readSeen_86, xX13_readSeen_87, xX13_readSeen_90, xX13_readSeen_91, xX13_readSeen_92, xX13_readSeen_94, xX13_readSeen_97, xX13_readSeen_99, xX13_readSeen_100, xX13_readSeen_103, xX13_readSeen_104, xX13_readSeen_107, cK_some, ofR_some, ofR_none, Option.toList_some, Option.toList_none, List.cons_append, List.nil_append, isL_i, isL_r, isL_u, isL_2, cs_0, cs_i, cs_r, cs_l, cs_ii, cs_ir, cs_ri, cs_rr, cs_iir, cs_irr, cs_iii, cs_iri, cs_rii, cs_rir, cs_rri, cs_rrr, cs_iiii, cs_iiir, cs_iiri, cs_iirr, cs_irii, cs_irir, cs_irri, cs_irrr, cs_riii, cs_riir, cs_riri, cs_rirr, cs_rrii, cs_rrir, cs_rrri, cs_rrrr, hS_1, hS_2, hS_3, hS_4, hS_5, hS_6, hS_7, hS_8, hS_9, hS_10, hS_11, hS_12, hS_13, hS_14, hS_15, hS_16, hS_17, hS_18, hS_19, hS_20, hS_21, hS_22, hS_23, hS_24, hS_25, hS_26, hS_27, hS_28, hS_29, hS_30, hS_31, hS_32, hS_33, hS_34, hS_35, hS_36, hS_37, hS_38, hS_39, f5, f6', h9, Nat.add_sub_cancel, Nat.add_zero, Nat.zero_add, nI_lt, nI_nlt, nI_le, nI_ge, nI_pos, pk_sub, nI_clamp, s2_ne, s2_o, s2_s, nI_add, inb_n, nI_nn, zq0, zq1, ↓reduceIte]
  | inr c =>
    rw [hz] at g6'
    obtain ⟨⟨a2, hy⟩, q4⟩ := p2 c hz
    rw [q4]
    obtain ⟨q1, q2, q3, -⟩ := hlive2 a2 hy
    have h9 := g6'.live
    have hr6 := hr.fm l6 gs6 fs6
    obtain ⟨s1, s2s, s3, s4, s5, s6, s7, s8⟩ := id hr6
    generalize vlN 0 (se1 B e r y0) = bb at *
    generalize bvv B e 0 (se2 B e r y0) = nn at *
    have e4 := (hr3.2.2.2.1 bb q1).2.2.2
    have hsz := ho.2.2.1 bb q1
    rw [e4, nI_add] at f4
    have kS6 := s3.2.2.2.2
    refine ⟨G6, s2 (s2 I6 (R + 16) (rFi r bb + nn) (nI n6)) R 10 (nI (rSc r + 1)), ?_, ⟨?_, ?_⟩, gs6.l, ?_⟩
    · simp (disch := first | assumption | (simp (disch := omega) only [cK_some, ofR_some, ofR_none, Option.toList_some, Option.toList_none, List.cons_append, List.nil_append, isL_i, isL_r, isL_u, isL_2, cs_0, cs_i, cs_r, cs_l, cs_ii, cs_ir, cs_ri, cs_rr, cs_iir, cs_irr, cs_iii, cs_iri, cs_rii, cs_rir, cs_rri, cs_rrr, cs_iiii, cs_iiir, cs_iiri, cs_iirr, cs_irii, cs_irir, cs_irri, cs_irrr, cs_riii, cs_riir, cs_riri, cs_rirr, cs_rrii, cs_rrir, cs_rrri, cs_rrrr, hS_1, hS_2, hS_3, hS_4, hS_5, hS_6, hS_7, hS_8, hS_9, hS_10, hS_11, hS_12, hS_13, hS_14, hS_15, hS_16, hS_17, hS_18, hS_19, hS_20, hS_21, hS_22, hS_23, hS_24, hS_25, hS_26, hS_27, hS_28, hS_29, hS_30, hS_31, hS_32, hS_33, hS_34, hS_35, hS_36, hS_37, hS_38, hS_39, l1, eT1, inb_n, bq4, bq5, n100, not_false_eq_true, isB_0, isB_1, nI_clamp, nI_nneg, Nat.zero_add, Nat.le_refl]; done) | omega | (simp (disch := omega) only [cK_some, ofR_some, ofR_none, Option.toList_some, Option.toList_none, List.cons_append, List.nil_append, isL_i, isL_r, isL_u, isL_2, cs_0, cs_i, cs_r, cs_l, cs_ii, cs_ir, cs_ri, cs_rr, cs_iir, cs_irr, cs_iii, cs_iri, cs_rii, cs_rir, cs_rri, cs_rrr, cs_iiii, cs_iiir, cs_iiri, cs_iirr, cs_irii, cs_irir, cs_irri, cs_irrr, cs_riii, cs_riir, cs_riri, cs_rirr, cs_rrii, cs_rrir, cs_rrri, cs_rrrr, hS_1, hS_2, hS_3, hS_4, hS_5, hS_6, hS_7, hS_8, hS_9, hS_10, hS_11, hS_12, hS_13, hS_14, hS_15, hS_16, hS_17, hS_18, hS_19, hS_20, hS_21, hS_22, hS_23, hS_24, hS_25, hS_26, hS_27, hS_28, hS_29, hS_30, hS_31, hS_32, hS_33, hS_34, hS_35, hS_36, hS_37, hS_38, hS_39, l1, eT1, inb_n, bq4, bq5, n100, not_false_eq_true, isB_0, isB_1, nI_clamp, nI_nneg, Nat.zero_add, Nat.le_refl]; omega)) only [xX13_readSeen_0, xX13_readSeen_1, xX13_readSeen_2, xX13_readSeen_5, xX13_readSeen_8, xX13_readSeen_10, xX13_readSeen_13, xX13_readSeen_14, xX13_readSeen_15, xX13_readSeen_18, cK_some, ofR_some, ofR_none, Option.toList_some, Option.toList_none, List.cons_append, List.nil_append, isL_i, isL_r, isL_u, isL_2, cs_0, cs_i, cs_r, cs_l, cs_ii, cs_ir, cs_ri, cs_rr, cs_iir, cs_irr, cs_iii, cs_iri, cs_rii, cs_rir, cs_rri, cs_rrr, cs_iiii, cs_iiir, cs_iiri, cs_iirr, cs_irii, cs_irir, cs_irri, cs_irrr, cs_riii, cs_riir, cs_riri, cs_rirr, cs_rrii, cs_rrir, cs_rrri, cs_rrrr, hS_1, hS_2, hS_3, hS_4, hS_5, hS_6, hS_7, hS_8, hS_9, hS_10, hS_11, hS_12, hS_13, hS_14, hS_15, hS_16, hS_17, hS_18, hS_19, hS_20, hS_21, hS_22, hS_23, hS_24, hS_25, hS_26, hS_27, hS_28, hS_29, hS_30, hS_31, hS_32, hS_33, hS_34, hS_35, hS_36, hS_37, hS_38, hS_39, rX13_readSeen, l2, eS, f1, f2', Nat.add_sub_cancel, Nat.add_zero, Nat.zero_add, nI_lt, nI_nlt, nI_le, nI_ge, nI_pos, pk_sub, nI_clamp, s2_ne, s2_o, s2_s, nI_add, inb_n, nI_nn, zq0, zq1, ↓reduceIte]
      rw [f3, f4]
      simp (disch := first | assumption | (simp (disch := omega) only [cK_some, ofR_some, ofR_none, Option.toList_some, Option.toList_none, List.cons_append, List.nil_append, isL_i, isL_r, isL_u, isL_2, cs_0, cs_i, cs_r, cs_l, cs_ii, cs_ir, cs_ri, cs_rr, cs_iir, cs_irr, cs_iii, cs_iri, cs_rii, cs_rir, cs_rri, cs_rrr, cs_iiii, cs_iiir, cs_iiri, cs_iirr, cs_irii, cs_irir, cs_irri, cs_irrr, cs_riii, cs_riir, cs_riri, cs_rirr, cs_rrii, cs_rrir, cs_rrri, cs_rrrr, hS_1, hS_2, hS_3, hS_4, hS_5, hS_6, hS_7, hS_8, hS_9, hS_10, hS_11, hS_12, hS_13, hS_14, hS_15, hS_16, hS_17, hS_18, hS_19, hS_20, hS_21, hS_22, hS_23, hS_24, hS_25, hS_26, hS_27, hS_28, hS_29, hS_30, hS_31, hS_32, hS_33, hS_34, hS_35, hS_36, hS_37, hS_38, hS_39, l1, eT2, eT5, eT6, inb_n, bq4, bq5, n100, not_false_eq_true, isB_0, isB_1, nI_clamp, nI_nneg, Nat.zero_add, Nat.le_refl]; done) | omega | (simp (disch := omega) only [cK_some, ofR_some, ofR_none, Option.toList_some, Option.toList_none, List.cons_append, List.nil_append, isL_i, isL_r, isL_u, isL_2, cs_0, cs_i, cs_r, cs_l, cs_ii, cs_ir, cs_ri, cs_rr, cs_iir, cs_irr, cs_iii, cs_iri, cs_rii, cs_rir, cs_rri, cs_rrr, cs_iiii, cs_iiir, cs_iiri, cs_iirr, cs_irii, cs_irir, cs_irri, cs_irrr, cs_riii, cs_riir, cs_riri, cs_rirr, cs_rrii, cs_rrir, cs_rrri, cs_rrrr, hS_1, hS_2, hS_3, hS_4, hS_5, hS_6, hS_7, hS_8, hS_9, hS_10, hS_11, hS_12, hS_13, hS_14, hS_15, hS_16, hS_17, hS_18, hS_19, hS_20, hS_21, hS_22, hS_23, hS_24, hS_25, hS_26, hS_27, hS_28, hS_29, hS_30, hS_31, hS_32, hS_33, hS_34, hS_35, hS_36, hS_37, hS_38, hS_39, l1, eT2, eT5, eT6, inb_n, bq4, bq5, n100, not_false_eq_true, isB_0, isB_1, nI_clamp, nI_nneg, Nat.zero_add, Nat.le_refl]; omega)) only [xX13_readSeen_86, xX13_readSeen_87, xX13_readSeen_90, xX13_readSeen_91, xX13_readSeen_92, xX13_readSeen_94, xX13_readSeen_97, xX13_readSeen_99, xX13_readSeen_100, xX13_readSeen_103, xX13_readSeen_104, xX13_readSeen_107, xX13_readSeen_108, xX13_readSeen_109, xX13_readSeen_112, xX13_readSeen_115, xX13_readSeen_116, xX13_readSeen_118, xX13_readSeen_119, xX13_readSeen_120, xX13_readSeen_123i, xX13_readSeen_123r, xX13_readSeen_124, xX13_readSeen_127, xX13_readSeen_128, xX13_readSeen_129, xX13_readSeen_132, cK_some, ofR_some, ofR_none, Option.toList_some, Option.toList_none, List.cons_append, List.nil_append, isL_i, isL_r, isL_u, isL_2, cs_0, cs_i, cs_r, cs_l, cs_ii, cs_ir, cs_ri, cs_rr, cs_iir, cs_irr, cs_iii, cs_iri, cs_rii, cs_rir, cs_rri, cs_rrr, cs_iiii, cs_iiir, cs_iiri, cs_iirr, cs_irii, cs_irir, cs_irri, cs_irrr, cs_riii, cs_riir, cs_riri, cs_rirr, cs_rrii, cs_rrir, cs_rrri, cs_rrrr, hS_1, hS_2, hS_3, hS_4, hS_5, hS_6, hS_7, hS_8, hS_9, hS_10, hS_11, hS_12, hS_13, hS_14, hS_15, hS_16, hS_17, hS_18, hS_19, hS_20, hS_21, hS_22, hS_23, hS_24, hS_25, hS_26, hS_27, hS_28, hS_29, hS_30, hS_31, hS_32, hS_33, hS_34, hS_35, hS_36, hS_37, hS_38, hS_39, f5, f6', h9, eR6, l2, kS6, nI_add, Nat.add_sub_cancel, Nat.add_zero, Nat.zero_add, nI_lt, nI_nlt, nI_le, nI_ge, nI_pos, pk_sub, nI_clamp, s2_ne, s2_o, s2_s, nI_add, inb_n, nI_nn, zq0, zq1, ↓reduceIte]
    · exact g6'.fr (fun j => by rw [s2_ne (by omega), s2_ne (by omega)]) rfl
    · have eF : ∀ k, k ≠ 16 → k ≠ 0 → s2 (s2 I6 (R + 16) (rFi r bb + nn) (nI n6)) R 10 (nI (rSc r + 1)) (R + k) = I6 (R + k) := fun k hk h0 => by rw [s2_ne (by omega), s2_ne (by omega)]
      have e0 : ∀ j, j ≠ 10 → s2 (s2 I6 (R + 16) (rFi r bb + nn) (nI n6)) R 10 (nI (rSc r + 1)) R j = I6 R j := fun j hj => by rw [s2_o hj, s2_ne (by omega)]
      refine ⟨?_, fun s hs => ⟨?_, fun p hp => ?_⟩, ⟨?_, ?_, ?_, ?_, ?_⟩, ?_, ?_, ?_, ?_, ?_⟩
      · rw [e0 0 (by decide)]; exact s1
      · rw [e0 0 (by decide), e0 1 (by decide), e0 2 (by decide), e0 3 (by decide), e0 4 (by decide), e0 5 (by decide)]
        exact (s2s s hs).1
      · show s2 (s2 I6 (R + 16) (rFi r bb + nn) (nI n6)) R 10 (nI (rSc r + 1)) (R + 16) p = encM (if p = rFi r bb + nn then some n6 else rSn r p)
        rw [s2_ne (by omega)]
        by_cases cp : p = rFi r bb + nn
        · rw [if_pos cp, cp, s2_s]; rfl
        · rw [if_neg cp, s2_o cp]; exact (s2s s hs).2 p hp
      · rw [e0 6 (by decide)]; exact s3.1
      · rw [e0 7 (by decide)]; exact s3.2.1
      · rw [e0 8 (by decide)]; exact s3.2.2.1
      · rw [e0 9 (by decide)]; exact s3.2.2.2.1
      · exact s2_s
      · rw [eF 1 (by decide) (by decide), eF 2 (by decide) (by decide), eF 3 (by decide) (by decide), eF 4 (by decide) (by decide)]; exact s4
      · rw [eF 5 (by decide) (by decide)]; exact s5
      · rw [eF 6 (by decide) (by decide), eF 7 (by decide) (by decide), eF 8 (by decide) (by decide), eF 9 (by decide) (by decide), eF 10 (by decide) (by decide), eF 11 (by decide) (by decide)]; exact s6
      · rw [eF 12 (by decide) (by decide), eF 13 (by decide) (by decide), eF 14 (by decide) (by decide), eF 15 (by decide) (by decide)]; exact s7
      · exact s8.fr (e0 11 (by decide)) (eF 18 (by decide) (by decide)) (eF 19 (by decide) (by decide))
    · exact (fs6.r.s2 l6 (by omega)).s2 l6 (by omega)
