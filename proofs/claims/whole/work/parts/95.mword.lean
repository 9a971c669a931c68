/-! words in one number; the model's words -/
def hN2 (f : Nat → Nat) (n : Nat) : Nat := fo 0 (fun v k => 32 * v + f k) n
theorem hN2_lt {f : Nat → Nat} : ∀ n, (∀ k, k < n → f k < 32) → hN2 f n < 32 ^ n
  | 0, _ => by show 0 < 1; omega
  | n + 1, h => by
    have ih := hN2_lt n (fun k hk => h k (by omega))
    have h1 := h n (by omega)
    show 32 * hN2 f n + f n < 32 ^ (n + 1)
    rw [Nat.pow_succ]
    omega
theorem hN2_inj {f g : Nat → Nat} : ∀ n n', (∀ k, k < n → 1 ≤ f k ∧ f k < 32) → (∀ k, k < n' → 1 ≤ g k ∧ g k < 32) → hN2 f n = hN2 g n' → n = n' ∧ ∀ k, k < n → f k = g k
  | 0, 0, _, _, _ => ⟨rfl, fun k h => absurd h (Nat.not_lt_zero k)⟩
  | 0, n' + 1, _, h2, h => by
    have h3 : 0 = 32 * hN2 g n' + g n' := h
    have := h2 n' (by omega)
    omega
  | n + 1, 0, h1, _, h => by
    have h3 : 32 * hN2 f n + f n = 0 := h
    have := h1 n (by omega)
    omega
  | n + 1, n' + 1, h1, h2, h => by
    have h3 : 32 * hN2 f n + f n = 32 * hN2 g n' + g n' := h
    have a1 := h1 n (by omega)
    have a2 := h2 n' (by omega)
    obtain ⟨e1, e2⟩ := hN2_inj n n' (fun k hk => h1 k (by omega)) (fun k hk => h2 k (by omega)) (by omega)
    refine ⟨by omega, fun k hk => ?_⟩
    by_cases c : k = n
    · rw [c]
      have e3 : f n = g n' := by omega
      rw [e3, e1]
    · exact e2 k (by omega)
theorem hsh_2 {B : Nat → Nat} {s n : Nat} : hsh B s n = hN2 (fun k => B (s + k) - 96) n := rfl
theorem p40 {n : Nat} (h : n ≤ 8) : 32 ^ n < 2 ^ 63 := by
  have h1 : 32 ^ n ≤ 32 ^ 8 := Nat.pow_le_pow_right (by omega) h
  have h2 : (32 : Nat) ^ 8 < 2 ^ 63 := by decide
  omega
def hshW (w : List Nat) (n : Nat) : Nat := hN2 (fun k => w.getD k 0 - 96) n
theorem eq_bI {b : Bool} {P : Prop} [Decidable P] (h : b = true ↔ P) : bI b = if P then nI 1 else nI 0 := by
  by_cases c : P
  · rw [if_pos c, h.mpr c]; rfl
  · rw [if_neg c]
    cases b with
    | false => rfl
    | true => exact absurd (h.mp rfl) c
theorem m_wordOf {d a : Nat} {w : List Nat} {G : Gm} {I : Im} (hw : StV a w) : run d mX13_wordOf [.ref a] G I = some (some (.long (lN (hshW w w.length))), G, I) := by
  obtain ⟨w1, w2, w3⟩ := hw
  have := True.intro
  have r6 : ∀ {ls : List Slot} {y : Int32}, ex d mX13_wordOf 6 ls [.ref a, .int y] G I = ex d mX13_wordOf 9 ls [.int (nI w.length), .int y] G I := by
    intro ls y
    have h := xX13_wordOf_6 (d := d) (G := G) (I := I) (ls := ls) (st := [.int y]) cs_i w1
    rwa [List.length_map] at h
  have hch := chain (fun k => ex d mX13_wordOf 4 [.val (.ref a), .val (.long (lN (hshW w k))), .second, .val (.int (nI k))] [] G I) w.length (fun k hk => by
    have hc := w3 k hk
    have r19 : ∀ {ls : List Slot} {y : Int64}, ex d mX13_wordOf 19 ls [.int (nI k), .ref a, .long y] G I = ex d mX13_wordOf 22 ls [.int (nI (w.getD k 0)), .long y] G I := by
      intro ls y
      have h := xX13_wordOf_19 (d := d) (G := G) (I := I) (ls := ls) (j := nI k) (st := [.long y]) cs_l w1 (by rw [List.length_map]; exact inb_n hk (by omega))
      rwa [nI_clamp (by omega), gD_map hk] at h
    have hh := hsh_l (v := hshW w k) (b := w.getD k 0) (isL_iff.mpr hc)
    have es : hshW w (k + 1) = 32 * hshW w k + (w.getD k 0 - 96) := rfl
    have hlt : (nI k < nI w.length) = True := eq_true (nI_lt hk (by omega))
    try dsimp only
    rw [xX13_wordOf_4, es]
    simp (disch := first | assumption | (simp (disch := omega) only [cK_some, ofR_some, ofR_none, Option.toList_some, Option.toList_none, List.cons_append, List.nil_append, isL_i, isL_r, isL_u, isL_2, cs_0, cs_i, cs_r, cs_l, cs_ii, cs_ir, cs_ri, cs_rr, cs_iir, cs_irr, cs_iii, cs_iri, cs_rii, cs_rir, cs_rri, cs_rrr, cs_iiii, cs_iiir, cs_iiri, cs_iirr, cs_irii, cs_irir, cs_irri, cs_irrr, cs_riii, cs_riir, cs_riri, cs_rirr, cs_rrii, cs_rrir, cs_rrri, cs_rrrr]; done) | omega) only [xX13_wordOf_5, xX13_wordOf_9, xX13_wordOf_12, xX13_wordOf_15, xX13_wordOf_16, xX13_wordOf_17, xX13_wordOf_18, xX13_wordOf_22, xX13_wordOf_24, xX13_wordOf_25, xX13_wordOf_26, xX13_wordOf_27, xX13_wordOf_28, xX13_wordOf_29, xX13_wordOf_30, xX13_wordOf_33, cK_some, ofR_some, ofR_none, Option.toList_some, Option.toList_none, List.cons_append, List.nil_append, isL_i, isL_r, isL_u, isL_2, cs_0, cs_i, cs_r, cs_l, cs_ii, cs_ir, cs_ri, cs_rr, cs_iir, cs_irr, cs_iii, cs_iri, cs_rii, cs_rir, cs_rri, cs_rrr, cs_iiii, cs_iiir, cs_iiri, cs_iirr, cs_irii, cs_irir, cs_irri, cs_irrr, cs_riii, cs_riir, cs_riri, cs_rirr, cs_rrii, cs_rrir, cs_rrri, cs_rrrr, r6, r19, hlt, hh, nI_add, ↓reduceIte])
  try dsimp only at hch
  have h0 : lN (hshW w 0) = lN 0 := rfl
  simp (disch := first | assumption | (simp (disch := omega) only [cK_some, ofR_some, ofR_none, Option.toList_some, Option.toList_none, List.cons_append, List.nil_append, isL_i, isL_r, isL_u, isL_2, cs_0, cs_i, cs_r, cs_l, cs_ii, cs_ir, cs_ri, cs_rr, cs_iir, cs_irr, cs_iii, cs_iri, cs_rii, cs_rir, cs_rri, cs_rrr, cs_iiii, cs_iiir, cs_iiri, cs_iirr, cs_irii, cs_irir, cs_irri, cs_irrr, cs_riii, cs_riir, cs_riri, cs_rirr, cs_rrii, cs_rrir, cs_rrri, cs_rrrr, inb_n, bq4, bq5, n100, not_false_eq_true, isB_0, isB_1, nI_clamp, nI_nneg, Nat.zero_add, Nat.le_refl]; done) | omega | (simp (disch := omega) only [cK_some, ofR_some, ofR_none, Option.toList_some, Option.toList_none, List.cons_append, List.nil_append, isL_i, isL_r, isL_u, isL_2, cs_0, cs_i, cs_r, cs_l, cs_ii, cs_ir, cs_ri, cs_rr, cs_iir, cs_irr, cs_iii, cs_iri, cs_rii, cs_rir, cs_rri, cs_rrr, cs_iiii, cs_iiir, cs_iiri, cs_iirr, cs_irii, cs_irir, cs_irri, cs_irrr, cs_riii, cs_riir, cs_riri, cs_rirr, cs_rrii, cs_rrir, cs_rrri, cs_rrrr, inb_n, bq4, bq5, n100, not_false_eq_true, isB_0, isB_1, nI_clamp, nI_nneg, Nat.zero_add, Nat.le_refl]; omega)) only [xX13_wordOf_0, xX13_wordOf_1, xX13_wordOf_2, xX13_wordOf_3, cK_some, ofR_some, ofR_none, Option.toList_some, Option.toList_none, List.cons_append, List.nil_append, isL_i, isL_r, isL_u, isL_2, cs_0, cs_i, cs_r, cs_l, cs_ii, cs_ir, cs_ri, cs_rr, cs_iir, cs_irr, cs_iii, cs_iri, cs_rii, cs_rir, cs_rri, cs_rrr, cs_iiii, cs_iiir, cs_iiri, cs_iirr, cs_irii, cs_irir, cs_irri, cs_irrr, cs_riii, cs_riir, cs_riri, cs_rirr, cs_rrii, cs_rrir, cs_rrri, cs_rrrr, rX13_wordOf, Nat.add_sub_cancel, Nat.add_zero, Nat.zero_add, nI_lt, nI_nlt, nI_le, nI_ge, nI_pos, pk_sub, nI_clamp, s2_ne, s2_o, s2_s, nI_add, inb_n, nI_nn, zq0, zq1, ↓reduceIte]
  rw [h0] at hch
  refine Eq.trans hch ?_
  rw [xX13_wordOf_4]
  simp (disch := first | assumption | (simp (disch := omega) only [cK_some, ofR_some, ofR_none, Option.toList_some, Option.toList_none, List.cons_append, List.nil_append, isL_i, isL_r, isL_u, isL_2, cs_0, cs_i, cs_r, cs_l, cs_ii, cs_ir, cs_ri, cs_rr, cs_iir, cs_irr, cs_iii, cs_iri, cs_rii, cs_rir, cs_rri, cs_rrr, cs_iiii, cs_iiir, cs_iiri, cs_iirr, cs_irii, cs_irir, cs_irri, cs_irrr, cs_riii, cs_riir, cs_riri, cs_rirr, cs_rrii, cs_rrir, cs_rrri, cs_rrrr, inb_n, bq4, bq5, n100, not_false_eq_true, isB_0, isB_1, nI_clamp, nI_nneg, Nat.zero_add, Nat.le_refl]; done) | omega | (simp (disch := omega) only [cK_some, ofR_some, ofR_none, Option.toList_some, Option.toList_none, List.cons_append, List.nil_append, isL_i, isL_r, isL_u, isL_2, cs_0, cs_i, cs_r, cs_l, cs_ii, cs_ir, cs_ri, cs_rr, cs_iir, cs_irr, cs_iii, cs_iri, cs_rii, cs_rir, cs_rri, cs_rrr, cs_iiii, cs_iiir, cs_iiri, cs_iirr, cs_irii, cs_irir, cs_irri, cs_irrr, cs_riii, cs_riir, cs_riri, cs_rirr, cs_rrii, cs_rrir, cs_rrri, cs_rrrr, inb_n, bq4, bq5, n100, not_false_eq_true, isB_0, isB_1, nI_clamp, nI_nneg, Nat.zero_add, Nat.le_refl]; omega)) only [xX13_wordOf_5, xX13_wordOf_9, xX13_wordOf_36, xX13_wordOf_37, cK_some, ofR_some, ofR_none, Option.toList_some, Option.toList_none, List.cons_append, List.nil_append, isL_i, isL_r, isL_u, isL_2, cs_0, cs_i, cs_r, cs_l, cs_ii, cs_ir, cs_ri, cs_rr, cs_iir, cs_irr, cs_iii, cs_iri, cs_rii, cs_rir, cs_rri, cs_rrr, cs_iiii, cs_iiir, cs_iiri, cs_iirr, cs_irii, cs_irir, cs_irri, cs_irrr, cs_riii, cs_riir, cs_riri, cs_rirr, cs_rrii, cs_rrir, cs_rrri, cs_rrrr, r6, Nat.add_sub_cancel, Nat.add_zero, Nat.zero_add, nI_lt, nI_nlt, nI_le, nI_ge, nI_pos, pk_sub, nI_clamp, s2_ne, s2_o, s2_s, nI_add, inb_n, nI_nn, zq0, zq1, ↓reduceIte]
/-- the model's reading between two steps: a fault, or live, the token behind a at hand -/
def MdS (G : Gm) (I : Im) (m : Nat) (B : Nat → Nat) (e : Nat) (x : Er ⊕ Nat) : Prop := match x with
  | .inl r => I m 9 = nI 5 ∧ I m 13 = nI r.1 ∧ I m 14 = nI r.2
  | .inr a => TkM G I m B (tk B e a) ∧ a ≤ e ∧ I m 13 = nI 0
theorem mk_5 {k : Nat} (h : k ≤ 4) : mk k < 5 := by
  unfold mk
  split <;> omega
theorem hsh_w {B : Nat → Nat} {e a : Nat} {w : List Nat} (h1 : kK (tk B e a) = 1) (hl : w.length ≤ 8) (hw : ∀ j, j < w.length → 97 ≤ w.getD j 0 ∧ w.getD j 0 ≤ 122) :
    (lN (hsh B (kS (tk B e a)) (kE (tk B e a) - kS (tk B e a))) = lN (hshW w w.length)) ↔ wd B (tk B e a) w = true := by
  obtain ⟨t1, t2, t3, t4⟩ := tk_1 h1
  have hrun := runB_p (p := isL) (B := B) (e := e) 900 (kS (tk B e a))
  rw [← t2] at hrun
  have hle := runB_le (p := isL) (B := B) (e := e) 900 (kS (tk B e a))
  rw [← t2] at hle
  generalize tk B e a = k at *
  have b1 : ∀ j, j < kE k - kS k → 1 ≤ B (kS k + j) - 96 ∧ B (kS k + j) - 96 < 32 := fun j hj => by
    have := isL_iff.mp (hrun (kS k + j) (by omega) (by omega)).1
    omega
  have b2 : ∀ j, j < w.length → 1 ≤ w.getD j 0 - 96 ∧ w.getD j 0 - 96 < 32 := fun j hj => by
    have := hw j hj
    omega
  have l1 := hN2_lt (f := fun k' => B (kS k + k') - 96) (kE k - kS k) (fun j hj => (b1 j hj).2)
  have l2 := hN2_lt (f := fun j => w.getD j 0 - 96) w.length (fun j hj => (b2 j hj).2)
  have p1 := p40 t3
  have p2 := p40 hl
  rw [hsh_2, hshW, pk_lEQ (by omega) (by omega)]
  unfold wd
  rw [decide_eq_true_iff]
  constructor
  · intro h
    obtain ⟨e1, e2⟩ := hN2_inj _ _ b1 b2 h
    refine ⟨h1, e1, fun j hj => ?_⟩
    have e3 : B (kS k + j) - 96 = w.getD j 0 - 96 := e2 j (by omega)
    have := b1 j (by omega)
    have := b2 j hj
    omega
  · intro h
    obtain ⟨-, e1, e2⟩ := h
    rw [e1]
    exact fo_eq (fun v j hj => by (try dsimp only); rw [e2 j hj])
theorem m_isWord {d m R e x : Nat} {w : List Nat} {B : Nat → Nat} {G : Gm} {I : Im} {y : Er ⊕ Nat} (hM : MR G m R) (H : MdS G I m B e y) (hw : StV x w) :
    run (d + 1) mX13_isWord [.ref m, .ref x] G I = some (some (.int (bI (match y with | .inl _ => false | .inr a => wd B (tk B e a) w))), G, I) := by
  obtain ⟨l1, l2, l3, l4, -⟩ := hM
  have hwo := m_wordOf (d := d) (G := G) (I := I) hw
  have := True.intro
  cases y with
  | inl r =>
    have n1 : (nI 5 = nI 2) = False := by decide
    have h9 := H.1
    simp (disch := first | assumption | (simp (disch := omega) only [cK_some, ofR_some, ofR_none, Option.toList_some, Option.toList_none, List.cons_append, List.nil_append, isL_i, isL_r, isL_u, isL_2, cs_0, cs_i, cs_r, cs_l, cs_ii, cs_ir, cs_ri, cs_rr, cs_iir, cs_irr, cs_iii, cs_iri, cs_rii, cs_rir, cs_rri, cs_rrr, cs_iiii, cs_iiir, cs_iiri, cs_iirr, cs_irii, cs_irir, cs_irri, cs_irrr, cs_riii, cs_riir, cs_riri, cs_rirr, cs_rrii, cs_rrir, cs_rrri, cs_rrrr, l1, inb_n, bq4, bq5, n100, not_false_eq_true, isB_0, isB_1, nI_clamp, nI_nneg, Nat.zero_add, Nat.le_refl]; done) | omega | (simp (disch := omega) only [cK_some, ofR_some, ofR_none, Option.toList_some, Option.toList_none, List.cons_append, List.nil_append, isL_i, isL_r, isL_u, isL_2, cs_0, cs_i, cs_r, cs_l, cs_ii, cs_ir, cs_ri, cs_rr, cs_iir, cs_irr, cs_iii, cs_iri, cs_rii, cs_rir, cs_rri, cs_rrr, cs_iiii, cs_iiir, cs_iiri, cs_iirr, cs_irii, cs_irir, cs_irri, cs_irrr, cs_riii, cs_riir, cs_riri, cs_rirr, cs_rrii, cs_rrir, cs_rrri, cs_rrrr, l1, inb_n, bq4, bq5, n100, not_false_eq_true, isB_0, isB_1, nI_clamp, nI_nneg, Nat.zero_add, Nat.le_refl]; omega)) only [xX13_isWord_0, xX13_isWord_1, xX13_isWord_4, xX13_isWord_5, xX13_isWord_8, xX13_isWord_9, xX13_isWord_12, xX13_isWord_13, xX13_isWord_16, xX13_isWord_17, xX13_isWord_20, xX13_isWord_21, xX13_isWord_24, xX13_isWord_25, cK_some, ofR_some, ofR_none, Option.toList_some, Option.toList_none, List.cons_append, List.nil_append, isL_i, isL_r, isL_u, isL_2, cs_0, cs_i, cs_r, cs_l, cs_ii, cs_ir, cs_ri, cs_rr, cs_iir, cs_irr, cs_iii, cs_iri, cs_rii, cs_rir, cs_rri, cs_rrr, cs_iiii, cs_iiir, cs_iiri, cs_iirr, cs_irii, cs_irir, cs_irri, cs_irrr, cs_riii, cs_riir, cs_riri, cs_rirr, cs_rrii, cs_rrir, cs_rrri, cs_rrrr, rX13_isWord, h9, n1, bI_0, Nat.add_sub_cancel, Nat.add_zero, Nat.zero_add, nI_lt, nI_nlt, nI_le, nI_ge, nI_pos, pk_sub, nI_clamp, s2_ne, s2_o, s2_s, nI_add, inb_n, nI_nn, zq0, zq1, ↓reduceIte]
  | inr a =>
    obtain ⟨⟨t1, t2, t3, t4, t5, t6⟩, ha, h13⟩ := H
    have hk := tk_k4 (B := B) (e := e) (p := a)
    try dsimp only
    by_cases c : kK (tk B e a) = 1
    · have hq := hsh_w (B := B) c hw.2.1 hw.2.2
      have e15 := t4 c
      rw [c] at t3
      have t3' : I m 9 = nI 2 := t3
      have hcm := lg_cmp_eq (lN (hsh B (kS (tk B e a)) (kE (tk B e a) - kS (tk B e a)))) (lN (hshW w w.length))
      cases hb : wd B (tk B e a) w with
      | true =>
        have c0 : (lg_cmp (lN (hsh B (kS (tk B e a)) (kE (tk B e a) - kS (tk B e a)))) (lN (hshW w w.length)) = 0) = True := eq_true (hcm.mpr (hq.mpr hb))
        simp (disch := first | assumption | (simp (disch := omega) only [cK_some, ofR_some, ofR_none, Option.toList_some, Option.toList_none, List.cons_append, List.nil_append, isL_i, isL_r, isL_u, isL_2, cs_0, cs_i, cs_r, cs_l, cs_ii, cs_ir, cs_ri, cs_rr, cs_iir, cs_irr, cs_iii, cs_iri, cs_rii, cs_rir, cs_rri, cs_rrr, cs_iiii, cs_iiir, cs_iiri, cs_iirr, cs_irii, cs_irir, cs_irri, cs_irrr, cs_riii, cs_riir, cs_riri, cs_rirr, cs_rrii, cs_rrir, cs_rrri, cs_rrrr, l1, inb_n, bq4, bq5, n100, not_false_eq_true, isB_0, isB_1, nI_clamp, nI_nneg, Nat.zero_add, Nat.le_refl]; done) | omega | (simp (disch := omega) only [cK_some, ofR_some, ofR_none, Option.toList_some, Option.toList_none, List.cons_append, List.nil_append, isL_i, isL_r, isL_u, isL_2, cs_0, cs_i, cs_r, cs_l, cs_ii, cs_ir, cs_ri, cs_rr, cs_iir, cs_irr, cs_iii, cs_iri, cs_rii, cs_rir, cs_rri, cs_rrr, cs_iiii, cs_iiir, cs_iiri, cs_iirr, cs_irii, cs_irir, cs_irri, cs_irrr, cs_riii, cs_riir, cs_riri, cs_rirr, cs_rrii, cs_rrir, cs_rrri, cs_rrrr, l1, inb_n, bq4, bq5, n100, not_false_eq_true, isB_0, isB_1, nI_clamp, nI_nneg, Nat.zero_add, Nat.le_refl]; omega)) only [xX13_isWord_0, xX13_isWord_1, xX13_isWord_4, xX13_isWord_5, xX13_isWord_8, xX13_isWord_9, xX13_isWord_12, xX13_isWord_13, xX13_isWord_16, xX13_isWord_17, xX13_isWord_20, xX13_isWord_21, xX13_isWord_24, xX13_isWord_25, cK_some, ofR_some, ofR_none, Option.toList_some, Option.toList_none, List.cons_append, List.nil_append, isL_i, isL_r, isL_u, isL_2, cs_0, cs_i, cs_r, cs_l, cs_ii, cs_ir, cs_ri, cs_rr, cs_iir, cs_irr, cs_iii, cs_iri, cs_rii, cs_rir, cs_rri, cs_rrr, cs_iiii, cs_iiir, cs_iiri, cs_iirr, cs_irii, cs_irir, cs_irri, cs_irrr, cs_riii, cs_riir, cs_riri, cs_rirr, cs_rrii, cs_rrir, cs_rrri, cs_rrrr, rX13_isWord, t3', e15, hwo, c0, bI_1, Nat.add_sub_cancel, Nat.add_zero, Nat.zero_add, nI_lt, nI_nlt, nI_le, nI_ge, nI_pos, pk_sub, nI_clamp, s2_ne, s2_o, s2_s, nI_add, inb_n, nI_nn, zq0, zq1, ↓reduceIte]
      | false =>
        have c0 : (lg_cmp (lN (hsh B (kS (tk B e a)) (kE (tk B e a) - kS (tk B e a)))) (lN (hshW w w.length)) = 0) = False := eq_false (fun z => by
          have := hq.mp (hcm.mp z)
          rw [hb] at this
          cases this)
        simp (disch := first | assumption | (simp (disch := omega) only [cK_some, ofR_some, ofR_none, Option.toList_some, Option.toList_none, List.cons_append, List.nil_append, isL_i, isL_r, isL_u, isL_2, cs_0, cs_i, cs_r, cs_l, cs_ii, cs_ir, cs_ri, cs_rr, cs_iir, cs_irr, cs_iii, cs_iri, cs_rii, cs_rir, cs_rri, cs_rrr, cs_iiii, cs_iiir, cs_iiri, cs_iirr, cs_irii, cs_irir, cs_irri, cs_irrr, cs_riii, cs_riir, cs_riri, cs_rirr, cs_rrii, cs_rrir, cs_rrri, cs_rrrr, l1, inb_n, bq4, bq5, n100, not_false_eq_true, isB_0, isB_1, nI_clamp, nI_nneg, Nat.zero_add, Nat.le_refl]; done) | omega | (simp (disch := omega) only [cK_some, ofR_some, ofR_none, Option.toList_some, Option.toList_none, List.cons_append, List.nil_append, isL_i, isL_r, isL_u, isL_2, cs_0, cs_i, cs_r, cs_l, cs_ii, cs_ir, cs_ri, cs_rr, cs_iir, cs_irr, cs_iii, cs_iri, cs_rii, cs_rir, cs_rri, cs_rrr, cs_iiii, cs_iiir, cs_iiri, cs_iirr, cs_irii, cs_irir, cs_irri, cs_irrr, cs_riii, cs_riir, cs_riri, cs_rirr, cs_rrii, cs_rrir, cs_rrri, cs_rrrr, l1, inb_n, bq4, bq5, n100, not_false_eq_true, isB_0, isB_1, nI_clamp, nI_nneg, Nat.zero_add, Nat.le_refl]; omega)) only [xX13_isWord_0, xX13_isWord_1, xX13_isWord_4, xX13_isWord_5, xX13_isWord_8, xX13_isWord_9, xX13_isWord_12, xX13_isWord_13, xX13_isWord_16, xX13_isWord_17, xX13_isWord_20, xX13_isWord_21, xX13_isWord_24, xX13_isWord_25, cK_some, ofR_some, ofR_none, Option.toList_some, Option.toList_none, List.cons_append, List.nil_append, isL_i, isL_r, isL_u, isL_2, cs_0, cs_i, cs_r, cs_l, cs_ii, cs_ir, cs_ri, cs_rr, cs_iir, cs_irr, cs_iii, cs_iri, cs_rii, cs_rir, cs_rri, cs_rrr, cs_iiii, cs_iiir, cs_iiri, cs_iirr, cs_irii, cs_irir, cs_irri, cs_irrr, cs_riii, cs_riir, cs_riri, cs_rirr, cs_rrii, cs_rrir, cs_rrri, cs_rrrr, rX13_isWord, t3', e15, hwo, c0, bI_0, Nat.add_sub_cancel, Nat.add_zero, Nat.zero_add, nI_lt, nI_nlt, nI_le, nI_ge, nI_pos, pk_sub, nI_clamp, s2_ne, s2_o, s2_s, nI_add, inb_n, nI_nn, zq0, zq1, ↓reduceIte]
    · have n1 : (nI (mk (kK (tk B e a))) = nI 2) = False := eq_false (fun z => by
        have h5 := mk_5 hk
        have h2 := (nI_eq (a := mk (kK (tk B e a))) (b := 2) (by omega) (by omega)).mp z
        unfold mk at h2
        split at h2 <;> omega)
      rw [show wd B (tk B e a) w = false from decide_eq_false (fun z => c z.1)]
      simp (disch := first | assumption | (simp (disch := omega) only [cK_some, ofR_some, ofR_none, Option.toList_some, Option.toList_none, List.cons_append, List.nil_append, isL_i, isL_r, isL_u, isL_2, cs_0, cs_i, cs_r, cs_l, cs_ii, cs_ir, cs_ri, cs_rr, cs_iir, cs_irr, cs_iii, cs_iri, cs_rii, cs_rir, cs_rri, cs_rrr, cs_iiii, cs_iiir, cs_iiri, cs_iirr, cs_irii, cs_irir, cs_irri, cs_irrr, cs_riii, cs_riir, cs_riri, cs_rirr, cs_rrii, cs_rrir, cs_rrri, cs_rrrr, l1, inb_n, bq4, bq5, n100, not_false_eq_true, isB_0, isB_1, nI_clamp, nI_nneg, Nat.zero_add, Nat.le_refl]; done) | omega | (simp (disch := omega) only [cK_some, ofR_some, ofR_none, Option.toList_some, Option.toList_none, List.cons_append, List.nil_append, isL_i, isL_r, isL_u, isL_2, cs_0, cs_i, cs_r, cs_l, cs_ii, cs_ir, cs_ri, cs_rr, cs_iir, cs_irr, cs_iii, cs_iri, cs_rii, cs_rir, cs_rri, cs_rrr, cs_iiii, cs_iiir, cs_iiri, cs_iirr, cs_irii, cs_irir, cs_irri, cs_irrr, cs_riii, cs_riir, cs_riri, cs_rirr, cs_rrii, cs_rrir, cs_rrri, cs_rrrr, l1, inb_n, bq4, bq5, n100, not_false_eq_true, isB_0, isB_1, nI_clamp, nI_nneg, Nat.zero_add, Nat.le_refl]; omega)) only [xX13_isWord_0, xX13_isWord_1, xX13_isWord_4, xX13_isWord_5, xX13_isWord_8, xX13_isWord_9, xX13_isWord_12, xX13_isWord_13, xX13_isWord_16, xX13_isWord_17, xX13_isWord_20, xX13_isWord_21, xX13_isWord_24, xX13_isWord_25, cK_some, ofR_some, ofR_none, Option.toList_some, Option.toList_none, List.cons_append, List.nil_append, isL_i, isL_r, isL_u, isL_2, cs_0, cs_i, cs_r, cs_l, cs_ii, cs_ir, cs_ri, cs_rr, cs_iir, cs_irr, cs_iii, cs_iri, cs_rii, cs_rir, cs_rri, cs_rrr, cs_iiii, cs_iiir, cs_iiri, cs_iirr, cs_irii, cs_irir, cs_irri, cs_irrr, cs_riii, cs_riir, cs_riri, cs_rirr, cs_rrii, cs_rrir, cs_rrri, cs_rrrr, rX13_isWord, t3, n1, bI_0, Nat.add_sub_cancel, Nat.add_zero, Nat.zero_add, nI_lt, nI_nlt, nI_le, nI_ge, nI_pos, pk_sub, nI_clamp, s2_ne, s2_o, s2_s, nI_add, inb_n, nI_nn, zq0, zq1, ↓reduceIte]
/-- what the model's reading writes of its fields -/
def FM (m : Nat) (I I' : Im) : Prop := (∀ c, c ≠ m → I' c = I c) ∧ ∀ j, j ≠ 8 → j ≠ 9 → j ≠ 10 → j ≠ 11 → j ≠ 12 → j ≠ 13 → j ≠ 14 → I' m j = I m j
theorem FM.rf {m : Nat} {I : Im} : FM m I I := ⟨fun _ _ => rfl, fun _ _ _ _ _ _ _ _ => rfl⟩
theorem FM.tr {m : Nat} {I I1 I2 : Im} (h1 : FM m I I1) (h2 : FM m I1 I2) : FM m I I2 := ⟨fun c hc => (h2.1 c hc).trans (h1.1 c hc), fun j a b c d e f g => (h2.2 j a b c d e f g).trans (h1.2 j a b c d e f g)⟩
theorem F8.m {m : Nat} {I I' : Im} (h : F8 m I I') : FM m I I' := ⟨h.1, fun j a b c d e _ _ => h.2 j a b c d e⟩
theorem TmV.fm {I I' : Im} {m e : Nat} {B : Nat → Nat} (h : TmV I m B e) (hf : FM m I I') : TmV I' m B e := ⟨by rw [hf.2 7 (by decide) (by decide) (by decide) (by decide) (by decide) (by decide) (by decide)]; exact h.1, h.2.1, fun k hk => by rw [hf.1 (m + 1) (by omega)]; exact h.2.2 k hk⟩
def flw (B : Nat → Nat) (e n : Nat) (x : Er ⊕ Nat) : Er ⊕ Nat := bnd x (fun a => .inl (n, kS (tk B e a)))
theorem m_flaw {d m R e n : Nat} {B : Nat → Nat} {G : Gm} {I : Im} {x : Er ⊕ Nat} (hM : MR G m R) (H : MdS G I m B e x) :
    ∃ I', run d mX13_flaw [.ref m, .int (nI n)] G I = some (none, G, I') ∧ MdS G I' m B e (flw B e n x) ∧ FM m I I' := by
  obtain ⟨l1, -⟩ := hM
  have := True.intro
  cases x with
  | inl r =>
    refine ⟨I, ?_, H, FM.rf⟩
    have h9 := H.1
    simp (disch := first | assumption | (simp (disch := omega) only [cK_some, ofR_some, ofR_none, Option.toList_some, Option.toList_none, List.cons_append, List.nil_append, isL_i, isL_r, isL_u, isL_2, cs_0, cs_i, cs_r, cs_l, cs_ii, cs_ir, cs_ri, cs_rr, cs_iir, cs_irr, cs_iii, cs_iri, cs_rii, cs_rir, cs_rri, cs_rrr, cs_iiii, cs_iiir, cs_iiri, cs_iirr, cs_irii, cs_irir, cs_irri, cs_irrr, cs_riii, cs_riir, cs_riri, cs_rirr, cs_rrii, cs_rrir, cs_rrri, cs_rrrr, l1, inb_n, bq4, bq5, n100, not_false_eq_true, isB_0, isB_1, nI_clamp, nI_nneg, Nat.zero_add, Nat.le_refl]; done) | omega | (simp (disch := omega) only [cK_some, ofR_some, ofR_none, Option.toList_some, Option.toList_none, List.cons_append, List.nil_append, isL_i, isL_r, isL_u, isL_2, cs_0, cs_i, cs_r, cs_l, cs_ii, cs_ir, cs_ri, cs_rr, cs_iir, cs_irr, cs_iii, cs_iri, cs_rii, cs_rir, cs_rri, cs_rrr, cs_iiii, cs_iiir, cs_iiri, cs_iirr, cs_irii, cs_irir, cs_irri, cs_irrr, cs_riii, cs_riir, cs_riri, cs_rirr, cs_rrii, cs_rrir, cs_rrri, cs_rrrr, l1, inb_n, bq4, bq5, n100, not_false_eq_true, isB_0, isB_1, nI_clamp, nI_nneg, Nat.zero_add, Nat.le_refl]; omega)) only [xX13_flaw_0, xX13_flaw_1, xX13_flaw_4, xX13_flaw_5, xX13_flaw_8, xX13_flaw_9, xX13_flaw_10, xX13_flaw_11, xX13_flaw_14, xX13_flaw_15, xX13_flaw_16, xX13_flaw_19, xX13_flaw_22, xX13_flaw_23, xX13_flaw_24, xX13_flaw_27, cK_some, ofR_some, ofR_none, Option.toList_some, Option.toList_none, List.cons_append, List.nil_append, isL_i, isL_r, isL_u, isL_2, cs_0, cs_i, cs_r, cs_l, cs_ii, cs_ir, cs_ri, cs_rr, cs_iir, cs_irr, cs_iii, cs_iri, cs_rii, cs_rir, cs_rri, cs_rrr, cs_iiii, cs_iiir, cs_iiri, cs_iirr, cs_irii, cs_irir, cs_irri, cs_irrr, cs_riii, cs_riir, cs_riri, cs_rirr, cs_rrii, cs_rrir, cs_rrri, cs_rrrr, rX13_flaw, h9, Nat.add_sub_cancel, Nat.add_zero, Nat.zero_add, nI_lt, nI_nlt, nI_le, nI_ge, nI_pos, pk_sub, nI_clamp, s2_ne, s2_o, s2_s, nI_add, inb_n, nI_nn, zq0, zq1, ↓reduceIte]
  | inr a =>
    obtain ⟨⟨t1, t2, t3, t4, t5, t6⟩, ha, h13⟩ := H
    have h5 := mk_5 (tk_k4 (B := B) (e := e) (p := a))
    have n1 : (nI (mk (kK (tk B e a))) = nI 5) = False := eq_false (fun z => by have := (nI_eq (a := mk (kK (tk B e a))) (b := 5) (by omega) (by omega)).mp z; omega)
    refine ⟨s2 (s2 (s2 I m 13 (nI n)) m 14 (nI (kS (tk B e a)))) m 9 (nI 5), ?_, ⟨s2_s, by rw [s2_o (by decide), s2_o (by decide), s2_s], by rw [s2_o (by decide), s2_s]⟩, ⟨fun c hc => by rw [s2_ne hc, s2_ne hc, s2_ne hc], fun j a b c d e f g => by rw [s2_o b, s2_o g, s2_o f]⟩⟩
    simp (disch := first | assumption | (simp (disch := omega) only [cK_some, ofR_some, ofR_none, Option.toList_some, Option.toList_none, List.cons_append, List.nil_append, isL_i, isL_r, isL_u, isL_2, cs_0, cs_i, cs_r, cs_l, cs_ii, cs_ir, cs_ri, cs_rr, cs_iir, cs_irr, cs_iii, cs_iri, cs_rii, cs_rir, cs_rri, cs_rrr, cs_iiii, cs_iiir, cs_iiri, cs_iirr, cs_irii, cs_irir, cs_irri, cs_irrr, cs_riii, cs_riir, cs_riri, cs_rirr, cs_rrii, cs_rrir, cs_rrri, cs_rrrr, l1, inb_n, bq4, bq5, n100, not_false_eq_true, isB_0, isB_1, nI_clamp, nI_nneg, Nat.zero_add, Nat.le_refl]; done) | omega | (simp (disch := omega) only [cK_some, ofR_some, ofR_none, Option.toList_some, Option.toList_none, List.cons_append, List.nil_append, isL_i, isL_r, isL_u, isL_2, cs_0, cs_i, cs_r, cs_l, cs_ii, cs_ir, cs_ri, cs_rr, cs_iir, cs_irr, cs_iii, cs_iri, cs_rii, cs_rir, cs_rri, cs_rrr, cs_iiii, cs_iiir, cs_iiri, cs_iirr, cs_irii, cs_irir, cs_irri, cs_irrr, cs_riii, cs_riir, cs_riri, cs_rirr, cs_rrii, cs_rrir, cs_rrri, cs_rrrr, l1, inb_n, bq4, bq5, n100, not_false_eq_true, isB_0, isB_1, nI_clamp, nI_nneg, Nat.zero_add, Nat.le_refl]; omega)) only [xX13_flaw_0, xX13_flaw_1, xX13_flaw_4, xX13_flaw_5, xX13_flaw_8, xX13_flaw_9, xX13_flaw_10, xX13_flaw_11, xX13_flaw_14, xX13_flaw_15, xX13_flaw_16, xX13_flaw_19, xX13_flaw_22, xX13_flaw_23, xX13_flaw_24, xX13_flaw_27, cK_some, ofR_some, ofR_none, Option.toList_some, Option.toList_none, List.cons_append, List.nil_append, isL_i, isL_r, isL_u, isL_2, cs_0, cs_i, cs_r, cs_l, cs_ii, cs_ir, cs_ri, cs_rr, cs_iir, cs_irr, cs_iii, cs_iri, cs_rii, cs_rir, cs_rri, cs_rrr, cs_iiii, cs_iiir, cs_iiri, cs_iirr, cs_irii, cs_irir, cs_irri, cs_irrr, cs_riii, cs_riir, cs_riri, cs_rirr, cs_rrii, cs_rrir, cs_rrri, cs_rrrr, rX13_flaw, t3, n1, t2, Nat.add_sub_cancel, Nat.add_zero, Nat.zero_add, nI_lt, nI_nlt, nI_le, nI_ge, nI_pos, pk_sub, nI_clamp, s2_ne, s2_o, s2_s, nI_add, inb_n, nI_nn, zq0, zq1, ↓reduceIte]
/-- on to the next token -/
def adv (B : Nat → Nat) (e : Nat) (x : Er ⊕ Nat) : Er ⊕ Nat := bnd x (fun a => .inr (kE (tk B e a)))
theorem m_adv {d m R e : Nat} {B : Nat → Nat} {G : Gm} {I : Im} {x : Er ⊕ Nat} (hM : MR G m R) (hX : TmV I m B e) (H : MdS G I m B e x) (h4 : ∀ a, x = .inr a → kK (tk B e a) ≠ 4) :
    ∃ (G' : Gm) (I' : Im), run (d + 1) mX13_goesOn [.ref m] G I = some (none, G', I') ∧ MdS G' I' m B e (adv B e x) ∧ GE m R G G' ∧ FM m I I' := by
  cases x with
  | inl r => exact ⟨G, I, m_goesOn5 hM H.1, H, GE.rf, FM.rf⟩
  | inr a =>
    obtain ⟨⟨t1, t2, t3, t4, t5, t6⟩, ha, h13⟩ := H
    have h5 := mk_5 (tk_k4 (B := B) (e := e) (p := a))
    obtain ⟨G', I', g1, g2, g3, g4⟩ := m_goesOn (d := d) hM hX (t1 (h4 a rfl)) (tk_ord ha).2.2.1 t3 h5
    exact ⟨G', I', g1, ⟨g2, (tk_ord ha).2.2.1, by rw [g4.2 13 (by decide) (by decide) (by decide) (by decide) (by decide)]; exact h13⟩, g3, g4.m⟩
