/-! the model's shore -/
def MoB (G : Gm) (m : Nat) : Prop := gT G m = (23, 32) ∧ gR G m 5 = some (m + 1) ∧ gR G m 16 = some (m + 2) ∧ gR G m 17 = some (m + 3) ∧ gR G m 18 = some (m + 4) ∧ gR G m 21 = some (m + 5) ∧ gR G m 22 = some (m + 6) ∧ gR G m 23 = some (m + 7) ∧ gR G m 24 = some (m + 8) ∧ gR G m 27 = some (m + 9) ∧ gR G m 28 = some (m + 10) ∧ gR G m 29 = some (m + 11) ∧
  gT G (m + 1) = (1, 900) ∧ gT G (m + 2) = (0, 189) ∧ gT G (m + 3) = (0, 336) ∧ gT G (m + 4) = (0, 63) ∧ gT G (m + 5) = (0, 6) ∧ gT G (m + 6) = (0, 6) ∧ gT G (m + 7) = (0, 6) ∧ gT G (m + 8) = (0, 6) ∧ (gT G (m + 9) = (0, 6) ∧ gT G (m + 10) = (0, 6)) ∧ gT G (m + 11) = (0, 600)
theorem MoB.mo {G : Gm} {m S : Nat} (h : MoB G m) (h3 : gR G m 3 = some S) : Mo G m S := ⟨h.1, h3, h.2⟩
theorem MoB.fr {G G' : Gm} {m : Nat} (h : MoB G m) (hT : ∀ c, m ≤ c → c ≤ m + 11 → gT G' c = gT G c) (hR : ∀ j, j ≠ 3 → j ≠ 4 → gR G' m j = gR G m j) : MoB G' m := by
  unfold MoB at h ⊢
  rw [hT m (by omega) (by omega), hR 5 (by decide) (by decide), hR 16 (by decide) (by decide), hR 17 (by decide) (by decide), hR 18 (by decide) (by decide), hR 21 (by decide) (by decide), hR 22 (by decide) (by decide), hR 23 (by decide) (by decide), hR 24 (by decide) (by decide), hR 27 (by decide) (by decide), hR 28 (by decide) (by decide), hR 29 (by decide) (by decide),
    hT (m + 1) (by omega) (by omega), hT (m + 2) (by omega) (by omega), hT (m + 3) (by omega) (by omega), hT (m + 4) (by omega) (by omega), hT (m + 5) (by omega) (by omega), hT (m + 6) (by omega) (by omega), hT (m + 7) (by omega) (by omega), hT (m + 8) (by omega) (by omega), hT (m + 9) (by omega) (by omega), hT (m + 10) (by omega) (by omega), hT (m + 11) (by omega) (by omega)]
  exact h
theorem ok_all {B : Nat → Nat} {e : Nat} {r' : RS} : ∀ f a r, lnOks B e f a r → lnAll B e f a r = .inr r' → ROk e r' ∧ 0 < rT r' ∧ 0 < rN r' := by
  intro f
  induction f with
  | zero => intro a r _ h; cases h
  | succ f ih =>
    intro a r hk h
    have es : lnAll B e (f + 1) a r = match ln B e a r with
      | .inl x => .inl x
      | .inr v => match nxL B e v.1 v.2 with
        | .inl x => .inl x
        | .inr none => .inr v.2
        | .inr (some a') => lnAll B e f a' v.2 := rfl
    rw [es] at h
    cases hl : ln B e a r with
    | inl y => rw [hl] at h; cases h
    | inr v =>
      obtain ⟨k1, k2, k3⟩ := hk.2 v hl
      rw [hl] at h
      dsimp only at h
      cases hn : nxL B e v.1 v.2 with
      | inl y => rw [hn] at h; cases h
      | inr o =>
        rw [hn] at h
        cases o with
        | none => cases h; exact ⟨k2, nxL_ok hn⟩
        | some a' => exact ih a' v.2 (k3 a' hn) h
theorem ROk.some {e : Nat} {r : RS} (ho : ROk e r) (hT : 0 < rT r) : ∃ s, r.1 = some s := by
  cases h : r.1 with
  | none => have := (ho.2.2.2.2.2.2.2.2.2.2 h).1; omega
  | some s => exact ⟨s, rfl⟩
theorem m_good {d m : Nat} {z : Int32} {G : Gm} {I : Im} (l1 : gT G m = (23, 32)) : run d mX13_good [.ref m, .int z] G I = some (some (.int z), G, s2 (s2 I m 1 (nI 0)) m 2 (-1)) := by
  have := True.intro
  simp (disch := first | assumption | (simp (disch := omega) only [cK_some, ofR_some, ofR_none, Option.toList_some, Option.toList_none, List.cons_append, List.nil_append, isL_i, isL_r, isL_u, isL_2, cs_0, cs_i, cs_r, cs_l, cs_ii, cs_ir, cs_ri, cs_rr, cs_iir, cs_irr, cs_iii, cs_iri, cs_rii, cs_rir, cs_rri, cs_rrr, cs_iiii, cs_iiir, cs_iiri, cs_iirr, cs_irii, cs_irir, cs_irri, cs_irrr, cs_riii, cs_riir, cs_riri, cs_rirr, cs_rrii, cs_rrir, cs_rrri, cs_rrrr, l1, inb_n, bq4, bq5, n100, not_false_eq_true, isB_0, isB_1, nI_clamp, nI_nneg, Nat.zero_add, Nat.le_refl]; done) | omega | (simp (disch := omega) only [cK_some, ofR_some, ofR_none, Option.toList_some, Option.toList_none, List.cons_append, List.nil_append, isL_i, isL_r, isL_u, isL_2, cs_0, cs_i, cs_r, cs_l, cs_ii, cs_ir, cs_ri, cs_rr, cs_iir, cs_irr, cs_iii, cs_iri, cs_rii, cs_rir, cs_rri, cs_rrr, cs_iiii, cs_iiir, cs_iiri, cs_iirr, cs_irii, cs_irir, cs_irri, cs_irrr, cs_riii, cs_riir, cs_riri, cs_rirr, cs_rrii, cs_rrir, cs_rrri, cs_rrrr, l1, inb_n, bq4, bq5, n100, not_false_eq_true, isB_0, isB_1, nI_clamp, nI_nneg, Nat.zero_add, Nat.le_refl]; omega)) only [xX13_good_0, xX13_good_1, xX13_good_2, xX13_good_5, xX13_good_6, xX13_good_7, xX13_good_10, xX13_good_11, cK_some, ofR_some, ofR_none, Option.toList_some, Option.toList_none, List.cons_append, List.nil_append, isL_i, isL_r, isL_u, isL_2, cs_0, cs_i, cs_r, cs_l, cs_ii, cs_ir, cs_ri, cs_rr, cs_iir, cs_irr, cs_iii, cs_iri, cs_rii, cs_rir, cs_rri, cs_rrr, cs_iiii, cs_iiir, cs_iiri, cs_iirr, cs_irii, cs_irir, cs_irri, cs_irrr, cs_riii, cs_riir, cs_riri, cs_rirr, cs_rrii, cs_rrir, cs_rrri, cs_rrrr, rX13_good, Nat.add_sub_cancel, Nat.add_zero, Nat.zero_add, nI_lt, nI_nlt, nI_le, nI_ge, nI_pos, pk_sub, nI_clamp, s2_ne, s2_o, s2_s, nI_add, inb_n, nI_nn, zq0, zq1, ↓reduceIte]
theorem m_refused {d m : Nat} {z : Int32} {G : Gm} {I : Im} (l1 : gT G m = (23, 32)) : run d mX13_refused [.ref m, .int z] G I = some (some (.int (-1)), G, s2 (s2 I m 1 z) m 2 (-1)) := by
  have := True.intro
  simp (disch := first | assumption | (simp (disch := omega) only [cK_some, ofR_some, ofR_none, Option.toList_some, Option.toList_none, List.cons_append, List.nil_append, isL_i, isL_r, isL_u, isL_2, cs_0, cs_i, cs_r, cs_l, cs_ii, cs_ir, cs_ri, cs_rr, cs_iir, cs_irr, cs_iii, cs_iri, cs_rii, cs_rir, cs_rri, cs_rrr, cs_iiii, cs_iiir, cs_iiri, cs_iirr, cs_irii, cs_irir, cs_irri, cs_irrr, cs_riii, cs_riir, cs_riri, cs_rirr, cs_rrii, cs_rrir, cs_rrri, cs_rrrr, l1, inb_n, bq4, bq5, n100, not_false_eq_true, isB_0, isB_1, nI_clamp, nI_nneg, Nat.zero_add, Nat.le_refl]; done) | omega | (simp (disch := omega) only [cK_some, ofR_some, ofR_none, Option.toList_some, Option.toList_none, List.cons_append, List.nil_append, isL_i, isL_r, isL_u, isL_2, cs_0, cs_i, cs_r, cs_l, cs_ii, cs_ir, cs_ri, cs_rr, cs_iir, cs_irr, cs_iii, cs_iri, cs_rii, cs_rir, cs_rri, cs_rrr, cs_iiii, cs_iiir, cs_iiri, cs_iirr, cs_irii, cs_irir, cs_irri, cs_irrr, cs_riii, cs_riir, cs_riri, cs_rirr, cs_rrii, cs_rrir, cs_rrri, cs_rrrr, l1, inb_n, bq4, bq5, n100, not_false_eq_true, isB_0, isB_1, nI_clamp, nI_nneg, Nat.zero_add, Nat.le_refl]; omega)) only [xX13_refused_0, xX13_refused_1, xX13_refused_2, xX13_refused_5, xX13_refused_6, xX13_refused_7, xX13_refused_10, xX13_refused_11, cK_some, ofR_some, ofR_none, Option.toList_some, Option.toList_none, List.cons_append, List.nil_append, isL_i, isL_r, isL_u, isL_2, cs_0, cs_i, cs_r, cs_l, cs_ii, cs_ir, cs_ri, cs_rr, cs_iir, cs_irr, cs_iii, cs_iri, cs_rii, cs_rir, cs_rri, cs_rrr, cs_iiii, cs_iiir, cs_iiri, cs_iirr, cs_irii, cs_irir, cs_irri, cs_irrr, cs_riii, cs_riir, cs_riri, cs_rirr, cs_rrii, cs_rrir, cs_rrri, cs_rrrr, rX13_refused, Nat.add_sub_cancel, Nat.add_zero, Nat.zero_add, nI_lt, nI_nlt, nI_le, nI_ge, nI_pos, pk_sub, nI_clamp, s2_ne, s2_o, s2_s, nI_add, inb_n, nI_nn, zq0, zq1, ↓reduceIte]
theorem z_nI : (0 : Int32) = nI 0 := by decide
/-- what the model's shore leaves -/
def ShM (G : Gm) (I : Im) (G' : Gm) (I' : Im) (m e : Nat) (B : Nat → Nat) : Prop :=
  (MoB G' m ∧ gN G' = gN G + 20 ∧ gS G' = gS G + 166) ∧ ((∀ c, c < gN G → gT G' c = gT G c) ∧ (∀ c, c < gN G → c ≠ m → gR G' c = gR G c ∧ gJ G' c = gJ G c)) ∧ ((∀ c, c < gN G → c ≠ m → c ≠ m + 2 → I' c = I c) ∧ I' m 0 = nI 0 ∧ I' m 6 = nI 0) ∧
  match txt B e with
  | .inl y => I' m 1 = nI 4 ∧ I' m 2 = nI y.2 ∧ I' m 13 = nI y.1 ∧ gR G' m 3 = gR G m 3 ∧ I' (m + 2) = I (m + 2) ∧ ∀ j, 16 ≤ j → I' m j = I m j
  | .inr r => I' m 1 = nI 0 ∧ I' m 2 = -1 ∧ I' m 13 = nI 0 ∧ gR G' m 3 = some (gN G) ∧ Ms G' (gN G) ∧ RM G' I' (gN G) B r ∧ I' m 19 = nI 0 ∧ I' m 20 = nI 0 ∧ (∀ s, r.1 = some s → MqV I' m 0 (hOf s r) (q0R r)) ∧ ∀ j, 16 ≤ j → j ≠ 19 → j ≠ 20 → I' m j = I m j
theorem Ms.setR {G : Gm} {m S k : Nat} {x : Option Nat} (h : Ms G S) (hm : S ≠ m) : Ms (gSetR G m k x) S := by
  have e : gR (gSetR G m k x) S = gR G S := by rw [gR_R, s2_ne hm]
  unfold Ms at h ⊢
  rw [e, gT_R]
  exact h
theorem GL.n {m R : Nat} {G G' : Gm} (h : GL m R G G') : gN G' = gN G ∧ gS G' = gS G := by
  unfold gN gS
  rw [h.1]
  exact ⟨rfl, rfl⟩
theorem m_shore {d m n e : Nat} {B : Nat → Nat} {G : Gm} {I : Im} (hB : MoB G m) (hN : m + 12 < gN G) (hV : TaV I m 6 (m + 1) n B) (hen : e ≤ n) (hk : lnOks B e 901 0 r0) :
    ∃ (G' : Gm) (I' : Im), run (d + 8) mX13_shore [.ref m, .int (nI e)] G I = some (some (.int (match txt B e with | .inl _ => -1 | .inr r => nI (rN r))), G', I') ∧ ShM G I G' I' m e B := by
  obtain ⟨v1, v2, v3⟩ := id hV
  have l1 := hB.1
  have hle : (nI e ≤ nI n) = True := eq_true (nI_le hen (by omega))
  have hnn : (nI e < 0) = False := eq_false (fun z => by have := nI_nlt (a := e) (b := 0) (Nat.zero_le _) (by omega); exact this z)
  generalize hA : s2 (s2 (s2 (s2 (s2 I m 0 (nI 0)) m 7 (nI e)) m 6 (nI 0)) m 8 (nI 0)) m 13 (nI 0) = A
  have aA : ∀ j, A m j = if j = 13 then nI 0 else if j = 8 then nI 0 else if j = 6 then nI 0 else if j = 7 then nI e else if j = 0 then nI 0 else I m j := fun j => by
    rw [← hA, s2_eq, s2_eq, s2_eq, s2_eq, s2_eq]
  have oA : ∀ c, c ≠ m → A c = I c := fun c hc => by rw [← hA, s2_ne hc, s2_ne hc, s2_ne hc, s2_ne hc, s2_ne hc]
  obtain ⟨H, J, i1, i2⟩ := m_init (d := d + 7) (G0 := G) (I0 := A)
  have hMs := i2.ms
  obtain ⟨n1, n2, -, -, n5, n6⟩ := i2
  have eNw : gT (gNew G (22, 31)) m = (23, 32) := by rw [gT_N, s1_o (by omega)]; exact l1
  have hHm := n5 m (by omega)
  have lH : gT H m = (23, 32) := hHm.1.trans l1
  generalize hH1 : gSetR H m 4 (some (gN G)) = H1
  have lH1 : gT H1 m = (23, 32) := by rw [← hH1, gT_R]; exact lH
  have hMR : MR H1 m (gN G) := by
    refine ⟨lH1, by rw [← hH1, gR_R, s2_s], ?_, ?_, ?_, by omega⟩
    · rw [← hH1, gR_R, s2_o (by decide), hHm.2.1]; exact hB.2.1
    · rw [← hH1, gT_R, (n5 (m + 1) (by omega)).1]; exact hB.2.2.2.2.2.2.2.2.2.2.2.2.1
    · rw [← hH1]; exact hMs.setR (by omega)
  generalize hJ1 : s2 J m 9 (nI 0) = J1
  have oJ : ∀ c, c < gN G → c ≠ m → J1 c = I c := fun c h1 h2 => by rw [← hJ1, s2_ne h2, (n5 c h1).2.2.2, oA c h2]
  have mJ : ∀ j, j ≠ 9 → J1 m j = A m j := fun j hj => by rw [← hJ1, s2_o hj, hHm.2.2.2]
  have hX : TmV J1 m B e := ⟨by rw [mJ 7 (by decide), aA]; rfl, by omega, fun k hk => by rw [oJ (m + 1) (by omega) (by omega)]; exact v3 k (by omega)⟩
  have hz : ∀ c j, gN G ≤ c → c < gN G + 20 → J1 c j = nI 0 := fun c j h1 h2 => by rw [← hJ1, s2_ne (by omega), n6 c j h1 (by omega)]; exact z_nI
  have hRM : RM H1 J1 (gN G) B r0 := ⟨fun _ => hz _ _ (Nat.le_refl _) (by omega), fun s h => (by cases h), ⟨hz _ _ (Nat.le_refl _) (by omega), hz _ _ (Nat.le_refl _) (by omega), hz _ _ (Nat.le_refl _) (by omega), hz _ _ (Nat.le_refl _) (by omega), hz _ _ (Nat.le_refl _) (by omega)⟩, fun t h => absurd h (Nat.not_lt_zero t), fun t h => absurd h (Nat.not_lt_zero t), fun t h => absurd h (Nat.not_lt_zero t), fun t h => absurd h (Nat.not_lt_zero t), ⟨hz _ _ (Nat.le_refl _) (by omega), Nat.zero_le _, fun t h => absurd h (Nat.not_lt_zero t)⟩⟩
  obtain ⟨G2, I2, g1, g2, g3, g4⟩ := m_goesOn (d := d + 6) (a := 0) (q := 0) hMR hX (by rw [mJ 8 (by decide), aA]; rfl) (Nat.zero_le _) (by rw [← hJ1, s2_s]) (by decide)
  have hMd : MdS G2 I2 m B e (.inr 0) := ⟨g2, Nat.zero_le _, by rw [g4.2 13 (by decide) (by decide) (by decide) (by decide) (by decide), mJ 13 (by decide), aA]; rfl⟩
  obtain ⟨G3, I3, f1, f2, f3, f4⟩ := m_readLoop 901 d 0 r0 G2 I2 (Nat.zero_le _) (by omega) (hMR.ge g3) (hX.f8 g4) hMd (hRM.fm (by omega) g3 g4.m) hk
  have gz : GL m (gN G) H1 G3 := g3.l.tr f3
  have fz : FR m (gN G) J1 I3 := g4.m.r.tr f4
  have l2 : gT G2 m = (23, 32) := by rw [g3.2.1]; exact lH1
  have l3 : gT G3 m = (23, 32) := by rw [gz.2.1]; exact lH1
  have hrA : run (d + 7) mX13_readAll [.ref m] G2 I2 = some (none, G3, I3) := by
    have := True.intro
    simp (disch := first | assumption | (simp (disch := omega) only [cK_some, ofR_some, ofR_none, Option.toList_some, Option.toList_none, List.cons_append, List.nil_append, isL_i, isL_r, isL_u, isL_2, cs_0, cs_i, cs_r, cs_l, cs_ii, cs_ir, cs_ri, cs_rr, cs_iir, cs_irr, cs_iii, cs_iri, cs_rii, cs_rir, cs_rri, cs_rrr, cs_iiii, cs_iiir, cs_iiri, cs_iirr, cs_irii, cs_irir, cs_irri, cs_irrr, cs_riii, cs_riir, cs_riri, cs_rirr, cs_rrii, cs_rrir, cs_rrri, cs_rrrr, inb_n, bq4, bq5, n100, not_false_eq_true, isB_0, isB_1, nI_clamp, nI_nneg, Nat.zero_add, Nat.le_refl]; done) | omega | (simp (disch := omega) only [cK_some, ofR_some, ofR_none, Option.toList_some, Option.toList_none, List.cons_append, List.nil_append, isL_i, isL_r, isL_u, isL_2, cs_0, cs_i, cs_r, cs_l, cs_ii, cs_ir, cs_ri, cs_rr, cs_iir, cs_irr, cs_iii, cs_iri, cs_rii, cs_rir, cs_rri, cs_rrr, cs_iiii, cs_iiir, cs_iiri, cs_iirr, cs_irii, cs_irir, cs_irri, cs_irrr, cs_riii, cs_riir, cs_riri, cs_rirr, cs_rrii, cs_rrir, cs_rrri, cs_rrrr, inb_n, bq4, bq5, n100, not_false_eq_true, isB_0, isB_1, nI_clamp, nI_nneg, Nat.zero_add, Nat.le_refl]; omega)) only [xX13_readAll_0, xX13_readAll_1, cK_some, ofR_some, ofR_none, Option.toList_some, Option.toList_none, List.cons_append, List.nil_append, isL_i, isL_r, isL_u, isL_2, cs_0, cs_i, cs_r, cs_l, cs_ii, cs_ir, cs_ri, cs_rr, cs_iir, cs_irr, cs_iii, cs_iri, cs_rii, cs_rir, cs_rri, cs_rrr, cs_iiii, cs_iiir, cs_iiri, cs_iirr, cs_irii, cs_irir, cs_irri, cs_irrr, cs_riii, cs_riir, cs_riri, cs_rirr, cs_rrii, cs_rrir, cs_rrri, cs_rrrr, rX13_readAll, Nat.add_sub_cancel, Nat.add_zero, Nat.zero_add, nI_lt, nI_nlt, nI_le, nI_ge, nI_pos, pk_sub, nI_clamp, s2_ne, s2_o, s2_s, nI_add, inb_n, nI_nn, zq0, zq1, ↓reduceIte]
    exact f1
  have gzN := gz.n
  have kT : ∀ c, c < gN G → gT G3 c = gT G c := fun c hc => by rw [gz.2.1, ← hH1, gT_R, (n5 c hc).1]
  have kR : ∀ c, c ≠ m → c < gN G → gR G3 c = gR G c := fun c h1 hc => by rw [gz.2.2.1, ← hH1, gR_R, s2_ne h1, (n5 c hc).2.1]
  have kJ : ∀ c, c ≠ m → c < gN G → gJ G3 c = gJ G c := fun c h1 hc => by rw [gz.2.2.2 c h1 (by omega), ← hH1, gJ_R, (n5 c hc).2.2.1]
  have kRm : ∀ j, j ≠ 4 → gR G3 m j = gR G m j := fun j hj => by rw [gz.2.2.1, ← hH1, gR_R, s2_o hj, hHm.2.1]
  have kI : ∀ c, c < gN G → c ≠ m → I3 c = I c := fun c h1 h2 => by rw [fz.1 c h2 (by omega)]; exact oJ c h1 h2
  have kIm : ∀ j, 15 ≤ j ∨ j < 7 → I3 m j = if j = 6 then nI 0 else if j = 0 then nI 0 else I m j := fun j hj => by
    rw [fz.2 j (by omega) (by omega) (by omega) (by omega) (by omega) (by omega) (by omega), mJ j (by omega), aA, if_neg (by omega), if_neg (by omega)]
    by_cases c6 : j = 6
    · rw [if_pos c6, if_pos c6]
    · rw [if_neg c6, if_neg c6, if_neg (by omega)]
  have kN : gN G3 = gN G + 20 := by rw [gzN.1, ← hH1, gN_R, n1]
  have kS : gS G3 = gS G + 166 := by
    rw [gzN.2, ← hH1]
    show gS H = _
    rw [n2]
    rfl
  have hB3 : MoB G3 m := hB.fr (fun c h1 h2 => kT c (by omega)) (fun j h1 h2 => kRm j h2)
  have hcd := cd_txt hk (show e ≤ 900 by omega)
  have head : ∀ z, ex (d + 8) mX13_shore 68 [.val (.ref m), .val (.int (nI e))] [.ref m] G3 I3 = z → run (d + 8) mX13_shore [.ref m, .int (nI e)] G I = z := by
    intro z hz
    rw [← hz]
    have := True.intro
    simp (disch := first | assumption | (simp (disch := omega) only [cK_some, ofR_some, ofR_none, Option.toList_some, Option.toList_none, List.cons_append, List.nil_append, isL_i, isL_r, isL_u, isL_2, cs_0, cs_i, cs_r, cs_l, cs_ii, cs_ir, cs_ri, cs_rr, cs_iir, cs_irr, cs_iii, cs_iri, cs_rii, cs_rir, cs_rri, cs_rrr, cs_iiii, cs_iiir, cs_iiri, cs_iirr, cs_irii, cs_irir, cs_irri, cs_irrr, cs_riii, cs_riir, cs_riri, cs_rirr, cs_rrii, cs_rrir, cs_rrri, cs_rrrr, l1, inb_n, bq4, bq5, n100, not_false_eq_true, isB_0, isB_1, nI_clamp, nI_nneg, Nat.zero_add, Nat.le_refl]; done) | omega | (simp (disch := omega) only [cK_some, ofR_some, ofR_none, Option.toList_some, Option.toList_none, List.cons_append, List.nil_append, isL_i, isL_r, isL_u, isL_2, cs_0, cs_i, cs_r, cs_l, cs_ii, cs_ir, cs_ri, cs_rr, cs_iir, cs_irr, cs_iii, cs_iri, cs_rii, cs_rir, cs_rri, cs_rrr, cs_iiii, cs_iiir, cs_iiri, cs_iirr, cs_irii, cs_irir, cs_irri, cs_irrr, cs_riii, cs_riir, cs_riri, cs_rirr, cs_rrii, cs_rrir, cs_rrri, cs_rrrr, l1, inb_n, bq4, bq5, n100, not_false_eq_true, isB_0, isB_1, nI_clamp, nI_nneg, Nat.zero_add, Nat.le_refl]; omega)) only [xX13_shore_0, xX13_shore_1, xX13_shore_2, xX13_shore_5, xX13_shore_6, xX13_shore_9, xX13_shore_10, xX13_shore_11, xX13_shore_14, xX13_shore_17, xX13_shore_18, xX13_shore_19, xX13_shore_22, xX13_shore_23, xX13_shore_24, xX13_shore_25, xX13_shore_28, xX13_shore_29, xX13_shore_30, xX13_shore_33, xX13_shore_34, xX13_shore_35, xX13_shore_38, xX13_shore_39, xX13_shore_40, xX13_shore_43, cK_some, ofR_some, ofR_none, Option.toList_some, Option.toList_none, List.cons_append, List.nil_append, isL_i, isL_r, isL_u, isL_2, cs_0, cs_i, cs_r, cs_l, cs_ii, cs_ir, cs_ri, cs_rr, cs_iir, cs_irr, cs_iii, cs_iri, cs_rii, cs_rir, cs_rri, cs_rrr, cs_iiii, cs_iiir, cs_iiri, cs_iirr, cs_irii, cs_irir, cs_irri, cs_irrr, cs_riii, cs_riir, cs_riri, cs_rirr, cs_rrii, cs_rrir, cs_rrri, cs_rrrr, rX13_shore, v1, hle, hnn, Nat.add_sub_cancel, Nat.add_zero, Nat.zero_add, nI_lt, nI_nlt, nI_le, nI_ge, nI_pos, pk_sub, nI_clamp, s2_ne, s2_o, s2_s, nI_add, inb_n, nI_nn, zq0, zq1, ↓reduceIte]
    rw [hA]
    simp (disch := first | assumption | (simp (disch := omega) only [cK_some, ofR_some, ofR_none, Option.toList_some, Option.toList_none, List.cons_append, List.nil_append, isL_i, isL_r, isL_u, isL_2, cs_0, cs_i, cs_r, cs_l, cs_ii, cs_ir, cs_ri, cs_rr, cs_iir, cs_irr, cs_iii, cs_iri, cs_rii, cs_rir, cs_rri, cs_rrr, cs_iiii, cs_iiir, cs_iiri, cs_iirr, cs_irii, cs_irir, cs_irri, cs_irrr, cs_riii, cs_riir, cs_riri, cs_rirr, cs_rrii, cs_rrir, cs_rrri, cs_rrrr, eNw, lH, inb_n, bq4, bq5, n100, not_false_eq_true, isB_0, isB_1, nI_clamp, nI_nneg, Nat.zero_add, Nat.le_refl]; done) | omega | (simp (disch := omega) only [cK_some, ofR_some, ofR_none, Option.toList_some, Option.toList_none, List.cons_append, List.nil_append, isL_i, isL_r, isL_u, isL_2, cs_0, cs_i, cs_r, cs_l, cs_ii, cs_ir, cs_ri, cs_rr, cs_iir, cs_irr, cs_iii, cs_iri, cs_rii, cs_rir, cs_rri, cs_rrr, cs_iiii, cs_iiir, cs_iiri, cs_iirr, cs_irii, cs_irir, cs_irri, cs_irrr, cs_riii, cs_riir, cs_riri, cs_rirr, cs_rrii, cs_rrir, cs_rrri, cs_rrrr, eNw, lH, inb_n, bq4, bq5, n100, not_false_eq_true, isB_0, isB_1, nI_clamp, nI_nneg, Nat.zero_add, Nat.le_refl]; omega)) only [xX13_shore_44, xX13_shore_47i, xX13_shore_47r, xX13_shore_48, xX13_shore_51, cK_some, ofR_some, ofR_none, Option.toList_some, Option.toList_none, List.cons_append, List.nil_append, isL_i, isL_r, isL_u, isL_2, cs_0, cs_i, cs_r, cs_l, cs_ii, cs_ir, cs_ri, cs_rr, cs_iir, cs_irr, cs_iii, cs_iri, cs_rii, cs_rir, cs_rri, cs_rrr, cs_iiii, cs_iiir, cs_iiri, cs_iirr, cs_irii, cs_irir, cs_irri, cs_irrr, cs_riii, cs_riir, cs_riri, cs_rirr, cs_rrii, cs_rrir, cs_rrri, cs_rrrr, i1, hH1, Nat.add_sub_cancel, Nat.add_zero, Nat.zero_add, nI_lt, nI_nlt, nI_le, nI_ge, nI_pos, pk_sub, nI_clamp, s2_ne, s2_o, s2_s, nI_add, inb_n, nI_nn, zq0, zq1, ↓reduceIte]
    simp (disch := first | assumption | (simp (disch := omega) only [cK_some, ofR_some, ofR_none, Option.toList_some, Option.toList_none, List.cons_append, List.nil_append, isL_i, isL_r, isL_u, isL_2, cs_0, cs_i, cs_r, cs_l, cs_ii, cs_ir, cs_ri, cs_rr, cs_iir, cs_irr, cs_iii, cs_iri, cs_rii, cs_rir, cs_rri, cs_rrr, cs_iiii, cs_iiir, cs_iiri, cs_iirr, cs_irii, cs_irir, cs_irri, cs_irrr, cs_riii, cs_riir, cs_riri, cs_rirr, cs_rrii, cs_rrir, cs_rrri, cs_rrrr, lH1, l2, l3, inb_n, bq4, bq5, n100, not_false_eq_true, isB_0, isB_1, nI_clamp, nI_nneg, Nat.zero_add, Nat.le_refl]; done) | omega | (simp (disch := omega) only [cK_some, ofR_some, ofR_none, Option.toList_some, Option.toList_none, List.cons_append, List.nil_append, isL_i, isL_r, isL_u, isL_2, cs_0, cs_i, cs_r, cs_l, cs_ii, cs_ir, cs_ri, cs_rr, cs_iir, cs_irr, cs_iii, cs_iri, cs_rii, cs_rir, cs_rri, cs_rrr, cs_iiii, cs_iiir, cs_iiri, cs_iirr, cs_irii, cs_irir, cs_irri, cs_irrr, cs_riii, cs_riir, cs_riri, cs_rirr, cs_rrii, cs_rrir, cs_rrri, cs_rrrr, lH1, l2, l3, inb_n, bq4, bq5, n100, not_false_eq_true, isB_0, isB_1, nI_clamp, nI_nneg, Nat.zero_add, Nat.le_refl]; omega)) only [xX13_shore_54, xX13_shore_55, xX13_shore_56, xX13_shore_59, xX13_shore_60, xX13_shore_63, xX13_shore_64, xX13_shore_67, cK_some, ofR_some, ofR_none, Option.toList_some, Option.toList_none, List.cons_append, List.nil_append, isL_i, isL_r, isL_u, isL_2, cs_0, cs_i, cs_r, cs_l, cs_ii, cs_ir, cs_ri, cs_rr, cs_iir, cs_irr, cs_iii, cs_iri, cs_rii, cs_rir, cs_rri, cs_rrr, cs_iiii, cs_iiir, cs_iiri, cs_iirr, cs_irii, cs_irir, cs_irri, cs_irrr, cs_riii, cs_riir, cs_riri, cs_rirr, cs_rrii, cs_rrir, cs_rrri, cs_rrrr, hJ1, g1, hrA, Nat.add_sub_cancel, Nat.add_zero, Nat.zero_add, nI_lt, nI_nlt, nI_le, nI_ge, nI_pos, pk_sub, nI_clamp, s2_ne, s2_o, s2_s, nI_add, inb_n, nI_nn, zq0, zq1, ↓reduceIte]
  unfold ShM
  have f2' : AnT G3 I3 m (gN G) B (txt B e) := f2
  cases hx : txt B e with
  | inl y =>
    rw [hx] at f2'
    obtain ⟨q1, q2⟩ := f2'
    obtain ⟨c1, c2⟩ := hcd y hx
    have hc : (nI y.1 ≤ 0) = False := eq_false (fun z => by have := nI_ge (a := 0) (b := y.1) (by omega) (by omega); exact this z)
    refine ⟨G3, s2 (s2 I3 m 1 (nI 4)) m 2 (nI y.2), head _ ?_, ⟨hB3, kN, kS⟩, ⟨kT, fun c h1 h2 => ⟨kR c h2 h1, kJ c h2 h1⟩⟩, ⟨fun c h1 h2 _ => by rw [s2_ne h2, s2_ne h2]; exact kI c h1 h2, ?_, ?_⟩, ?_, s2_s, ?_, kRm 3 (by decide), ?_, fun j hj => ?_⟩
    · have := True.intro
      simp (disch := first | assumption | (simp (disch := omega) only [cK_some, ofR_some, ofR_none, Option.toList_some, Option.toList_none, List.cons_append, List.nil_append, isL_i, isL_r, isL_u, isL_2, cs_0, cs_i, cs_r, cs_l, cs_ii, cs_ir, cs_ri, cs_rr, cs_iir, cs_irr, cs_iii, cs_iri, cs_rii, cs_rir, cs_rri, cs_rrr, cs_iiii, cs_iiir, cs_iiri, cs_iirr, cs_irii, cs_irir, cs_irri, cs_irrr, cs_riii, cs_riir, cs_riri, cs_rirr, cs_rrii, cs_rrir, cs_rrri, cs_rrrr, l3, inb_n, bq4, bq5, n100, not_false_eq_true, isB_0, isB_1, nI_clamp, nI_nneg, Nat.zero_add, Nat.le_refl]; done) | omega | (simp (disch := omega) only [cK_some, ofR_some, ofR_none, Option.toList_some, Option.toList_none, List.cons_append, List.nil_append, isL_i, isL_r, isL_u, isL_2, cs_0, cs_i, cs_r, cs_l, cs_ii, cs_ir, cs_ri, cs_rr, cs_iir, cs_irr, cs_iii, cs_iri, cs_rii, cs_rir, cs_rri, cs_rrr, cs_iiii, cs_iiir, cs_iiri, cs_iirr, cs_irii, cs_irir, cs_irri, cs_irrr, cs_riii, cs_riir, cs_riri, cs_rirr, cs_rrii, cs_rrir, cs_rrri, cs_rrrr, l3, inb_n, bq4, bq5, n100, not_false_eq_true, isB_0, isB_1, nI_clamp, nI_nneg, Nat.zero_add, Nat.le_refl]; omega)) only [xX13_shore_68, xX13_shore_71, xX13_shore_74, xX13_shore_75, xX13_shore_76, xX13_shore_79, xX13_shore_80, xX13_shore_81, xX13_shore_84, xX13_shore_87, xX13_shore_88, cK_some, ofR_some, ofR_none, Option.toList_some, Option.toList_none, List.cons_append, List.nil_append, isL_i, isL_r, isL_u, isL_2, cs_0, cs_i, cs_r, cs_l, cs_ii, cs_ir, cs_ri, cs_rr, cs_iir, cs_irr, cs_iii, cs_iri, cs_rii, cs_rir, cs_rri, cs_rrr, cs_iiii, cs_iiir, cs_iiri, cs_iirr, cs_irii, cs_irir, cs_irri, cs_irrr, cs_riii, cs_riir, cs_riri, cs_rirr, cs_rrii, cs_rrir, cs_rrri, cs_rrrr, q1, hc, q2, Nat.add_sub_cancel, Nat.add_zero, Nat.zero_add, nI_lt, nI_nlt, nI_le, nI_ge, nI_pos, pk_sub, nI_clamp, s2_ne, s2_o, s2_s, nI_add, inb_n, nI_nn, zq0, zq1, ↓reduceIte]
    · rw [s2_o (by decide), s2_o (by decide), kIm 0 (by omega)]; rfl
    · rw [s2_o (by decide), s2_o (by decide), kIm 6 (by omega)]; rfl
    · rw [s2_o (by decide), s2_s]
    · rw [s2_o (by decide), s2_o (by decide)]; exact q1
    · rw [s2_ne (by omega), s2_ne (by omega)]; exact kI _ (by omega) (by omega)
    · rw [s2_o (by omega), s2_o (by omega), kIm j (by omega), if_neg (by omega), if_neg (by omega)]
  | inr r =>
    rw [hx] at f2'
    obtain ⟨q1, q2⟩ := f2'
    obtain ⟨ho, hT0, hN0⟩ := ok_all 901 0 r0 hk hx
    obtain ⟨s, hs⟩ := ho.some hT0
    have hc : (nI 0 ≤ 0) = True := by decide
    generalize hG4 : gSetR G3 m 3 (some (gN G)) = G4
    have hMs4 : Ms G4 (gN G) := by rw [← hG4]; exact (hMR.ge g3 |>.gl f3).2.2.2.2.1.setR (by omega)
    have hB4 : MoB G4 m := hB3.fr (fun c _ _ => by rw [← hG4, gT_R]) (fun j h1 _ => by rw [← hG4, gR_R, s2_o h1])
    have h34 : gR G4 m 3 = some (gN G) := by rw [← hG4, gR_R, s2_s]
    have h44 : gR G3 m 4 = some (gN G) := by rw [gz.2.2.1]; exact hMR.2.1
    have l4 : gT G4 m = (23, 32) := by rw [← hG4, gT_R]; exact l3
    have hRM4 : RM G4 I3 (gN G) B r := by
      have e : gJ G4 = gJ G3 := by rw [← hG4, gJ_R]
      have q8 := q2.2.2.2.2.2.2.2
      refine ⟨q2.1, q2.2.1, q2.2.2.1, q2.2.2.2.1, q2.2.2.2.2.1, q2.2.2.2.2.2.1, q2.2.2.2.2.2.2.1, ?_⟩
      unfold NmM at q8 ⊢
      rw [e]
      exact q8
    have K : MK G4 I3 m (gN G) (hOf s r) := ⟨hB4.mo h34, hMs4, by omega, hRM4.ms hs, ho.sp hs⟩
    obtain ⟨I5, s1', s2', s3'⟩ := mo_starts (d := d + 7) (r := 0) K (hRM4.mg ho) ho.qp (by decide)
    obtain ⟨-, -, -, -, -, hMq, -⟩ := s2'
    have e8 : I5 (gN G) 8 = nI (rN r) := by rw [s3'.1 _ (by omega)]; exact q2.2.2.1.2.2.1
    generalize hI6 : s2 (s2 I5 m 19 (nI 0)) m 20 (nI 0) = I6
    have e86 : I6 (gN G) 8 = nI (rN r) := by rw [← hI6, s2_ne (by omega), s2_ne (by omega)]; exact e8
    have hgd := m_good (d := d + 7) (m := m) (z := nI (rN r)) (G := G4) (I := I6) l4
    have o5 : ∀ c, c ≠ m + 2 → I5 c = I3 c := s3'.1
    have o6 : ∀ c, c ≠ m → s2 (s2 I6 m 1 (nI 0)) m 2 (-1) c = I5 c := fun c h1 => by rw [s2_ne h1, s2_ne h1, ← hI6, s2_ne h1, s2_ne h1]
    have m6 : ∀ j, j ≠ 1 → j ≠ 2 → j ≠ 19 → j ≠ 20 → s2 (s2 I6 m 1 (nI 0)) m 2 (-1) m j = I3 m j := fun j h1 h2 h3 h4 => by
      rw [s2_o h2, s2_o h1, ← hI6, s2_o h4, s2_o h3, o5 m (by omega)]
    have eR : ∀ c, gN G ≤ c → s2 (s2 I6 m 1 (nI 0)) m 2 (-1) c = I3 c := fun c hc => by rw [o6 c (by omega), o5 c (by omega)]
    refine ⟨G4, s2 (s2 I6 m 1 (nI 0)) m 2 (-1), head _ ?_, ⟨hB4, ?_, ?_⟩, ⟨fun c hc => by rw [← hG4, gT_R]; exact kT c hc, fun c h1 h2 => ⟨by rw [← hG4, gR_R, s2_ne h2]; exact kR c h2 h1, by rw [← hG4, gJ_R]; exact kJ c h2 h1⟩⟩, ⟨fun c h1 h2 h3 => by rw [o6 c h2, o5 c h3]; exact kI c h1 h2, ?_, ?_⟩, ?_, s2_s, ?_, h34, hMs4, ?_, ?_, ?_, fun s' hs' => ?_, fun j hj h19 h20 => ?_⟩
    · have lS : gT G4 (gN G) = (22, 31) := hMs4.1
      have := True.intro
      simp (disch := first | assumption | (simp (disch := omega) only [cK_some, ofR_some, ofR_none, Option.toList_some, Option.toList_none, List.cons_append, List.nil_append, isL_i, isL_r, isL_u, isL_2, cs_0, cs_i, cs_r, cs_l, cs_ii, cs_ir, cs_ri, cs_rr, cs_iir, cs_irr, cs_iii, cs_iri, cs_rii, cs_rir, cs_rri, cs_rrr, cs_iiii, cs_iiir, cs_iiri, cs_iirr, cs_irii, cs_irir, cs_irri, cs_irrr, cs_riii, cs_riir, cs_riri, cs_rirr, cs_rrii, cs_rrir, cs_rrri, cs_rrrr, l3, inb_n, bq4, bq5, n100, not_false_eq_true, isB_0, isB_1, nI_clamp, nI_nneg, Nat.zero_add, Nat.le_refl]; done) | omega | (simp (disch := omega) only [cK_some, ofR_some, ofR_none, Option.toList_some, Option.toList_none, List.cons_append, List.nil_append, isL_i, isL_r, isL_u, isL_2, cs_0, cs_i, cs_r, cs_l, cs_ii, cs_ir, cs_ri, cs_rr, cs_iir, cs_irr, cs_iii, cs_iri, cs_rii, cs_rir, cs_rri, cs_rrr, cs_iiii, cs_iiir, cs_iiri, cs_iirr, cs_irii, cs_irir, cs_irri, cs_irrr, cs_riii, cs_riir, cs_riri, cs_rirr, cs_rrii, cs_rrir, cs_rrri, cs_rrrr, l3, inb_n, bq4, bq5, n100, not_false_eq_true, isB_0, isB_1, nI_clamp, nI_nneg, Nat.zero_add, Nat.le_refl]; omega)) only [xX13_shore_68, xX13_shore_71, xX13_shore_74, xX13_shore_75, xX13_shore_76, xX13_shore_79, xX13_shore_80, xX13_shore_81, xX13_shore_84, xX13_shore_87, xX13_shore_88, xX13_shore_89, xX13_shore_90, xX13_shore_91, xX13_shore_94, cK_some, ofR_some, ofR_none, Option.toList_some, Option.toList_none, List.cons_append, List.nil_append, isL_i, isL_r, isL_u, isL_2, cs_0, cs_i, cs_r, cs_l, cs_ii, cs_ir, cs_ri, cs_rr, cs_iir, cs_irr, cs_iii, cs_iri, cs_rii, cs_rir, cs_rri, cs_rrr, cs_iiii, cs_iiir, cs_iiri, cs_iirr, cs_irii, cs_irir, cs_irri, cs_irrr, cs_riii, cs_riir, cs_riri, cs_rirr, cs_rrii, cs_rrir, cs_rrri, cs_rrrr, q1, hc, h44, hG4, Nat.add_sub_cancel, Nat.add_zero, Nat.zero_add, nI_lt, nI_nlt, nI_le, nI_ge, nI_pos, pk_sub, nI_clamp, s2_ne, s2_o, s2_s, nI_add, inb_n, nI_nn, zq0, zq1, ↓reduceIte]
      simp (disch := first | assumption | (simp (disch := omega) only [cK_some, ofR_some, ofR_none, Option.toList_some, Option.toList_none, List.cons_append, List.nil_append, isL_i, isL_r, isL_u, isL_2, cs_0, cs_i, cs_r, cs_l, cs_ii, cs_ir, cs_ri, cs_rr, cs_iir, cs_irr, cs_iii, cs_iri, cs_rii, cs_rir, cs_rri, cs_rrr, cs_iiii, cs_iiir, cs_iiri, cs_iirr, cs_irii, cs_irir, cs_irri, cs_irrr, cs_riii, cs_riir, cs_riri, cs_rirr, cs_rrii, cs_rrir, cs_rrri, cs_rrrr, l4, inb_n, bq4, bq5, n100, not_false_eq_true, isB_0, isB_1, nI_clamp, nI_nneg, Nat.zero_add, Nat.le_refl]; done) | omega | (simp (disch := omega) only [cK_some, ofR_some, ofR_none, Option.toList_some, Option.toList_none, List.cons_append, List.nil_append, isL_i, isL_r, isL_u, isL_2, cs_0, cs_i, cs_r, cs_l, cs_ii, cs_ir, cs_ri, cs_rr, cs_iir, cs_irr, cs_iii, cs_iri, cs_rii, cs_rir, cs_rri, cs_rrr, cs_iiii, cs_iiir, cs_iiri, cs_iirr, cs_irii, cs_irir, cs_irri, cs_irrr, cs_riii, cs_riir, cs_riri, cs_rirr, cs_rrii, cs_rrir, cs_rrri, cs_rrrr, l4, inb_n, bq4, bq5, n100, not_false_eq_true, isB_0, isB_1, nI_clamp, nI_nneg, Nat.zero_add, Nat.le_refl]; omega)) only [xX13_shore_97, xX13_shore_98, xX13_shore_99, cK_some, ofR_some, ofR_none, Option.toList_some, Option.toList_none, List.cons_append, List.nil_append, isL_i, isL_r, isL_u, isL_2, cs_0, cs_i, cs_r, cs_l, cs_ii, cs_ir, cs_ri, cs_rr, cs_iir, cs_irr, cs_iii, cs_iri, cs_rii, cs_rir, cs_rri, cs_rrr, cs_iiii, cs_iiir, cs_iiri, cs_iirr, cs_irii, cs_irir, cs_irri, cs_irrr, cs_riii, cs_riir, cs_riri, cs_rirr, cs_rrii, cs_rrir, cs_rrri, cs_rrrr, s1', Nat.add_sub_cancel, Nat.add_zero, Nat.zero_add, nI_lt, nI_nlt, nI_le, nI_ge, nI_pos, pk_sub, nI_clamp, s2_ne, s2_o, s2_s, nI_add, inb_n, nI_nn, zq0, zq1, ↓reduceIte]
      simp (disch := first | assumption | (simp (disch := omega) only [cK_some, ofR_some, ofR_none, Option.toList_some, Option.toList_none, List.cons_append, List.nil_append, isL_i, isL_r, isL_u, isL_2, cs_0, cs_i, cs_r, cs_l, cs_ii, cs_ir, cs_ri, cs_rr, cs_iir, cs_irr, cs_iii, cs_iri, cs_rii, cs_rir, cs_rri, cs_rrr, cs_iiii, cs_iiir, cs_iiri, cs_iirr, cs_irii, cs_irir, cs_irri, cs_irrr, cs_riii, cs_riir, cs_riri, cs_rirr, cs_rrii, cs_rrir, cs_rrri, cs_rrrr, l4, inb_n, bq4, bq5, n100, not_false_eq_true, isB_0, isB_1, nI_clamp, nI_nneg, Nat.zero_add, Nat.le_refl]; done) | omega | (simp (disch := omega) only [cK_some, ofR_some, ofR_none, Option.toList_some, Option.toList_none, List.cons_append, List.nil_append, isL_i, isL_r, isL_u, isL_2, cs_0, cs_i, cs_r, cs_l, cs_ii, cs_ir, cs_ri, cs_rr, cs_iir, cs_irr, cs_iii, cs_iri, cs_rii, cs_rir, cs_rri, cs_rrr, cs_iiii, cs_iiir, cs_iiri, cs_iirr, cs_irii, cs_irir, cs_irri, cs_irrr, cs_riii, cs_riir, cs_riri, cs_rirr, cs_rrii, cs_rrir, cs_rrri, cs_rrrr, l4, inb_n, bq4, bq5, n100, not_false_eq_true, isB_0, isB_1, nI_clamp, nI_nneg, Nat.zero_add, Nat.le_refl]; omega)) only [xX13_shore_102, xX13_shore_103, xX13_shore_104, xX13_shore_107, xX13_shore_108, xX13_shore_109, cK_some, ofR_some, ofR_none, Option.toList_some, Option.toList_none, List.cons_append, List.nil_append, isL_i, isL_r, isL_u, isL_2, cs_0, cs_i, cs_r, cs_l, cs_ii, cs_ir, cs_ri, cs_rr, cs_iir, cs_irr, cs_iii, cs_iri, cs_rii, cs_rir, cs_rri, cs_rrr, cs_iiii, cs_iiir, cs_iiri, cs_iirr, cs_irii, cs_irir, cs_irri, cs_irrr, cs_riii, cs_riir, cs_riri, cs_rirr, cs_rrii, cs_rrir, cs_rrri, cs_rrrr, hI6, Nat.add_sub_cancel, Nat.add_zero, Nat.zero_add, nI_lt, nI_nlt, nI_le, nI_ge, nI_pos, pk_sub, nI_clamp, s2_ne, s2_o, s2_s, nI_add, inb_n, nI_nn, zq0, zq1, ↓reduceIte]
      simp (disch := first | assumption | (simp (disch := omega) only [cK_some, ofR_some, ofR_none, Option.toList_some, Option.toList_none, List.cons_append, List.nil_append, isL_i, isL_r, isL_u, isL_2, cs_0, cs_i, cs_r, cs_l, cs_ii, cs_ir, cs_ri, cs_rr, cs_iir, cs_irr, cs_iii, cs_iri, cs_rii, cs_rir, cs_rri, cs_rrr, cs_iiii, cs_iiir, cs_iiri, cs_iirr, cs_irii, cs_irir, cs_irri, cs_irrr, cs_riii, cs_riir, cs_riri, cs_rirr, cs_rrii, cs_rrir, cs_rrri, cs_rrrr, l4, lS, inb_n, bq4, bq5, n100, not_false_eq_true, isB_0, isB_1, nI_clamp, nI_nneg, Nat.zero_add, Nat.le_refl]; done) | omega | (simp (disch := omega) only [cK_some, ofR_some, ofR_none, Option.toList_some, Option.toList_none, List.cons_append, List.nil_append, isL_i, isL_r, isL_u, isL_2, cs_0, cs_i, cs_r, cs_l, cs_ii, cs_ir, cs_ri, cs_rr, cs_iir, cs_irr, cs_iii, cs_iri, cs_rii, cs_rir, cs_rri, cs_rrr, cs_iiii, cs_iiir, cs_iiri, cs_iirr, cs_irii, cs_irir, cs_irri, cs_irrr, cs_riii, cs_riir, cs_riri, cs_rirr, cs_rrii, cs_rrir, cs_rrri, cs_rrrr, l4, lS, inb_n, bq4, bq5, n100, not_false_eq_true, isB_0, isB_1, nI_clamp, nI_nneg, Nat.zero_add, Nat.le_refl]; omega)) only [xX13_shore_112, xX13_shore_113, xX13_shore_114, xX13_shore_117, xX13_shore_120, xX13_shore_123, cK_some, ofR_some, ofR_none, Option.toList_some, Option.toList_none, List.cons_append, List.nil_append, isL_i, isL_r, isL_u, isL_2, cs_0, cs_i, cs_r, cs_l, cs_ii, cs_ir, cs_ri, cs_rr, cs_iir, cs_irr, cs_iii, cs_iri, cs_rii, cs_rir, cs_rri, cs_rrr, cs_iiii, cs_iiir, cs_iiri, cs_iirr, cs_irii, cs_irir, cs_irri, cs_irrr, cs_riii, cs_riir, cs_riri, cs_rirr, cs_rrii, cs_rrir, cs_rrri, cs_rrrr, h34, e86, hgd, Nat.add_sub_cancel, Nat.add_zero, Nat.zero_add, nI_lt, nI_nlt, nI_le, nI_ge, nI_pos, pk_sub, nI_clamp, s2_ne, s2_o, s2_s, nI_add, inb_n, nI_nn, zq0, zq1, ↓reduceIte]
    · rw [← hG4, gN_R]; exact kN
    · rw [← hG4]; exact kS
    · rw [m6 0 (by decide) (by decide) (by decide) (by decide), kIm 0 (by omega)]; rfl
    · rw [m6 6 (by decide) (by decide) (by decide) (by decide), kIm 6 (by omega)]; rfl
    · rw [s2_o (by decide), s2_s]
    · rw [m6 13 (by decide) (by decide) (by decide) (by decide)]; exact q1
    · unfold RM NmM at hRM4 ⊢
      rw [eR (gN G) (Nat.le_refl _), eR (gN G + 1) (by omega), eR (gN G + 2) (by omega), eR (gN G + 3) (by omega), eR (gN G + 4) (by omega), eR (gN G + 5) (by omega), eR (gN G + 6) (by omega), eR (gN G + 7) (by omega), eR (gN G + 8) (by omega), eR (gN G + 9) (by omega), eR (gN G + 10) (by omega), eR (gN G + 11) (by omega), eR (gN G + 12) (by omega), eR (gN G + 13) (by omega), eR (gN G + 14) (by omega), eR (gN G + 15) (by omega), eR (gN G + 16) (by omega), eR (gN G + 18) (by omega), eR (gN G + 19) (by omega)]
      exact hRM4
    · rw [s2_o (by decide), s2_o (by decide), ← hI6, s2_o (by decide), s2_s]
    · rw [s2_o (by decide), s2_o (by decide), ← hI6, s2_s]
    · rw [hs] at hs'
      cases hs'
      unfold MqV at hMq ⊢
      rw [o6 (m + 2) (by omega)]
      exact hMq
    · rw [m6 j (by omega) (by omega) h19 h20, kIm j (by omega), if_neg (by omega), if_neg (by omega)]
