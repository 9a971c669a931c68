/-! acts: what is kept, what is forgotten -/
/-- a scene kept, another one now -/
def pushG (g : Gh) (q' : Qp) : Gh := (g.1, g.2.1, q', min (g.2.2.2.1 + 1) 16, psh (gQ g) g.2.2.2.2.1, g.2.2.2.2.2.1, g.2.2.2.2.2.2)
def KF (x : Nat) (I I1 : Im) : Prop := ∀ c, ¬ (x + 171 ≤ c ∧ c ≤ x + 338) → I1 c = I c
theorem KF.tr {x : Nat} {I I1 I2 : Im} (h1 : KF x I I1) (h2 : KF x I1 I2) : KF x I I2 := fun c hc => (h2 c hc).trans (h1 c hc)
theorem KF.rf {x : Nat} {I : Im} : KF x I I := fun _ _ => rfl
def CFa (x : Nat) (I I1 : Im) (tr : Int32) : Prop := I1 (x + 1) = I (x + 1) ∧ I1 (x + 2) = I (x + 2) ∧ (∀ c, x + 339 ≤ c → I1 c = I c) ∧ I1 x 9 = I x 9 ∧ I1 x 11 = tr
theorem CFa.kf {x : Nat} {I I1 : Im} {tr : Int32} (h : KF x I I1) : CFa x I (s2 I1 x 11 tr) tr :=
  ⟨by rw [s2_ne (by omega), h _ (by omega)], by rw [s2_ne (by omega), h _ (by omega)], fun c hc => by rw [s2_ne (by omega), h _ (by omega)], by rw [s2_o (by decide), h _ (by omega)], s2_s⟩
def MFa (m : Nat) (J J2 : Im) (tr : Int32) : Prop := (∀ c, c < m → J2 c = J c) ∧ J2 (m + 1) = J (m + 1) ∧ J2 m 6 = J m 6 ∧ J2 m 13 = J m 13 ∧ J2 m 1 = tr ∧ J2 m 2 = -1
theorem MFa.z {m : Nat} {J K : Im} {tr : Int32} (h : (∀ c, c < m → K c = J c) ∧ K (m + 1) = J (m + 1) ∧ K m 6 = J m 6 ∧ K m 13 = J m 13) : MFa m J (s2 (s2 K m 1 tr) m 2 (-1)) tr := by
  obtain ⟨h1, h2, h3, h4⟩ := h
  refine ⟨fun c hc => ?_, ?_, ?_, ?_, by rw [s2_o (by decide), s2_s], s2_s⟩
  · rw [s2_ne (by omega), s2_ne (by omega)]; exact h1 c hc
  · rw [s2_ne (by omega), s2_ne (by omega)]; exact h2
  · rw [s2_o (by decide), s2_o (by decide)]; exact h3
  · rw [s2_o (by decide), s2_o (by decide)]; exact h4
theorem MFa.s {m : Nat} {J : Im} {tr : Int32} : MFa m J (s2 (s2 (s2 J m 0 (nI 0)) m 1 tr) m 2 (-1)) tr := MFa.z ⟨fun c hc => s2_ne (by omega), s2_ne (by omega), s2_o (by decide), s2_o (by decide)⟩
theorem MoW.tr2 {G : Gm} {I : Im} {m : Nat} {z : Int32} {o : Option Gh} (h : MoW G I m o) : MoW G (s2 (s2 I m 1 z) m 2 (-1)) m o := (h.f (j := 1) (z := z) (by decide) (by decide)).f (j := 2) (z := -1) (by decide) (by decide)
theorem MoW.tr3 {G : Gm} {I : Im} {m : Nat} {z : Int32} {o : Option Gh} (h : MoW G I m o) : MoW G (s2 (s2 (s2 I m 0 (nI 0)) m 1 z) m 2 (-1)) m o := (h.f (j := 0) (z := nI 0) (by decide) (by decide)).tr2
theorem Wd.acts {D x k : Nat} {G : Gm} {I : Im} {mc mm : MD} {as : List Value} (W : Wd G I x k)
    (h : ∀ s u o, Tp G x s u → ClW G I x s o → MoB G (x + 339) → GhOk k o → ∃ z tr I1 o', tr ≠ nI 4 ∧ run D mc (.ref x :: as) G I = some (some (.int z), G, I1) ∧ ClW G I1 x s o' ∧ GhOk (k + 1) o' ∧ CFa x I I1 tr ∧ ∀ J, MoW G J (x + 339) o → ∃ J2, run D mm (.ref (x + 339) :: as) G J = some (some (.int z), G, J2) ∧ MoW G J2 (x + 339) o' ∧ MFa (x + 339) J J2 tr) : Call D x k G I mc mm as := by
  obtain ⟨s, u, n, B, o, hT, hB, hN, hV, hV2, hTr, hC, hM, hk⟩ := W
  obtain ⟨z, tr, I1, o', h4, h1, hC1, hk1, ⟨c1, c2, c3, c4, c5⟩, h2⟩ := h s u o hT hC hB hk
  have hd := hT.2.2.2.2.1
  have hM1 : MoW G I1 (x + 339) o := hM.m (fun c a _ _ => c3 c (by omega)) (fun j _ => by rw [c3 _ (by omega)]) (fun j _ => by rw [c3 _ (by omega)])
  obtain ⟨J2, f2, hM2, ⟨m1, m2, m3, m4, m5, m6⟩⟩ := h2 I1 hM1
  refine ⟨z, G, I1, G, J2, hB.1, h1, f2, s, u, n, B, o', hT, hB, ⟨hN.1, hN.2.1, by omega, by omega⟩, ⟨?_, hV.2.1, fun j hj => ?_⟩, ⟨?_, hV2.2.1, fun j hj => ?_⟩, ⟨?_, ?_, ?_⟩, ?_, hM2, hk1⟩
  · rw [m1 _ (by omega), c1]; exact hV.1
  · rw [m1 _ (by omega), c2]; exact hV.2.2 j hj
  · rw [m3, c3 _ (by omega)]; exact hV2.1
  · rw [show x + 340 = x + 339 + 1 from rfl, m2, c3 _ (by omega)]; exact hV2.2.2 j hj
  · rw [m5, m1 x (by omega), c5]
  · rw [m4, c3 _ (by omega), m1 x (by omega), c4]; exact hTr.2.1
  · rw [m6, m1 x (by omega), c5, if_neg h4]
  · exact hC1.x hT (fun c q1 q0 q2 q3 => m1 c (by omega))
/-- all is forgotten, a scene is kept -/
def ClK (G : Gm) (I : Im) (x s : Nat) (g : Gh) : Prop := SWV G I s g.1 (gRS g) ∧ CT G I (x + 171) s (gH g) (gQ g) ∧ HyV G I (x + 179) s (gH g) (min (g.2.2.2.1 + 1) 16) (psh (gQ g) g.2.2.2.2.1) g.2.2.2.2.2.1 g.2.2.2.2.2.2 ∧ (I (x + 289) 0 = nI 0 ∧ I (x + 289) 1 = nI 0 ∧ I (x + 289) 2 = nI 0) ∧ (∀ n, n ≤ 3 → I (x + 303) n = nI 0) ∧ FiP I (x + 325) (gH g) (rSn (gRS g)) (q0R (gRS g))
theorem ClW.all {G : Gm} {I : Im} {x s : Nat} {g : Gh} (h : ClW G I x s (some g)) : SWV G I s g.1 (gRS g) ∧ CT G I (x + 171) s (gH g) (gQ g) ∧ HyV G I (x + 179) s (gH g) g.2.2.2.1 g.2.2.2.2.1 g.2.2.2.2.2.1 g.2.2.2.2.2.2 ∧ ChP I (x + 289) (gH g) (gQ g) ∧ NxP I (x + 302) (gH g) (gQ g) ∧ FiP I (x + 325) (gH g) (rSn (gRS g)) (q0R (gRS g)) := h
theorem FiP.g {I I1 : Im} {x : Nat} {h : Sp} {sn : Nat → Option Nat} {q : Qp} (H : FiP I (x + 325) h sn q) (hP6 : hP h ≤ 6) (hf : ∀ c, x + 325 ≤ c → c ≤ x + 338 → I1 c = I c) : FiP I1 (x + 325) h sn q := H.fr hP6 (fun c a b => hf c a (by omega))
theorem c_keep {d x s u : Nat} {g : Gh} {G : Gm} {I : Im} (hT : Tp G x s u) (h : ClW G I x s (some g)) : ∃ I1, run (d + 2) mX11_keep [.ref x] G I = some (none, G, I1) ∧ ClK G I1 x s g ∧ KF x I I1 := by
  obtain ⟨⟨t0, t1, t2, t3, t4, t5, t6, t7, t8, t9⟩, hTL, ⟨hS, hPl⟩, -, hd, hSc1, hSc2, hHy, hWk, hCh, hNx, hFi⟩ := id hT
  obtain ⟨hN0, hP0, ho, hqo⟩ := h.pos
  obtain ⟨h1, h2, h3, h4, h5, h6⟩ := h.all
  obtain ⟨I1, f1, f2, f3⟩ := rn_keep (d := d) hHy h3 h2 (by unfold offH; omega) (by omega)
  obtain ⟨I2, g1, g2, g3, g4⟩ := c_forget (d := d) (I := I1) hT
  have hy0 := hHy.1
  have hf : ∀ c, c ≠ x + 289 → c ≠ x + 303 → ¬ (x + 179 ≤ c ∧ c ≤ x + 257) → I2 c = I c := fun c a b e => (g4 c a b).trans (f3 c (by unfold inHy; omega))
  refine ⟨I2, ?_, ⟨h1.fr (fun c a b => hf c (by omega) (by omega) (by omega)), h2.fr (fun c hc => hf c (by unfold inSc at hc; omega) (by unfold inSc at hc; omega) (by unfold inSc at hc; omega)), f2.fr (fun c hc => g4 c (by unfold inHy at hc; omega) (by unfold inHy at hc; omega)), g2, g3, h6.g ho.2.1 (fun c a b => hf c (by omega) (by omega) (by omega))⟩, fun c hc => hf c (by omega) (by omega) (by omega)⟩
  have := True.intro
  simp (disch := first | assumption | (simp (disch := omega) only [cK_some, ofR_some, ofR_none, Option.toList_some, Option.toList_none, List.cons_append, List.nil_append, isL_i, isL_r, isL_u, isL_2, cs_0, cs_i, cs_r, cs_l, cs_ii, cs_ir, cs_ri, cs_rr, cs_iir, cs_irr, cs_iii, cs_iri, cs_rii, cs_rir, cs_rri, cs_rrr, cs_iiii, cs_iiir, cs_iiri, cs_iirr, cs_irii, cs_irir, cs_irri, cs_irrr, cs_riii, cs_riir, cs_riri, cs_rirr, cs_rrii, cs_rrir, cs_rrri, cs_rrrr, t0, hy0, inb_n, bq4, bq5, n100, not_false_eq_true, isB_0, isB_1, nI_clamp, nI_nneg, Nat.zero_add, Nat.le_refl]; done) | omega | (simp (disch := omega) only [cK_some, ofR_some, ofR_none, Option.toList_some, Option.toList_none, List.cons_append, List.nil_append, isL_i, isL_r, isL_u, isL_2, cs_0, cs_i, cs_r, cs_l, cs_ii, cs_ir, cs_ri, cs_rr, cs_iir, cs_irr, cs_iii, cs_iri, cs_rii, cs_rir, cs_rri, cs_rrr, cs_iiii, cs_iiir, cs_iiri, cs_iirr, cs_irii, cs_irir, cs_irri, cs_irrr, cs_riii, cs_riir, cs_riri, cs_rirr, cs_rrii, cs_rrir, cs_rrri, cs_rrrr, t0, hy0, inb_n, bq4, bq5, n100, not_false_eq_true, isB_0, isB_1, nI_clamp, nI_nneg, Nat.zero_add, Nat.le_refl]; omega)) only [xX11_keep_0, xX11_keep_1, xX11_keep_4, xX11_keep_5, xX11_keep_8, xX11_keep_11, xX11_keep_12, xX11_keep_15, cK_some, ofR_some, ofR_none, Option.toList_some, Option.toList_none, List.cons_append, List.nil_append, isL_i, isL_r, isL_u, isL_2, cs_0, cs_i, cs_r, cs_l, cs_ii, cs_ir, cs_ri, cs_rr, cs_iir, cs_irr, cs_iii, cs_iri, cs_rii, cs_rir, cs_rri, cs_rrr, cs_iiii, cs_iiir, cs_iiri, cs_iirr, cs_irii, cs_irir, cs_irri, cs_irrr, cs_riii, cs_riir, cs_riri, cs_rirr, cs_rrii, cs_rrir, cs_rrri, cs_rrrr, rX11_keep, t3, t5, f1, g1, Nat.add_sub_cancel, Nat.add_zero, Nat.zero_add, nI_lt, nI_nlt, nI_le, nI_ge, nI_pos, pk_sub, nI_clamp, s2_ne, s2_o, s2_s, nI_add, inb_n, nI_nn, zq0, zq1, ↓reduceIte]
/-- the scene now changes -/
theorem ClK.done {G : Gm} {I I1 : Im} {x s u : Nat} {g : Gh} {q' : Qp} (hT : Tp G x s u) (h : ClK G I x s g) (hP6 : hP (gH g) ≤ 6) (K : CT G I1 (x + 171) s (gH g) q') (hf : Fr (inSc (x + 171)) I I1) : ClW G I1 x s (some (pushG g q')) ∧ KF x I I1 := by
  have hd := hT.2.2.2.2.1
  obtain ⟨h1, h2, h3, ⟨a0, a1, a2⟩, h5, h6⟩ := h
  have hf' : ∀ c, ¬ (x + 171 ≤ c ∧ c ≤ x + 174) → I1 c = I c := fun c hc => hf c (by unfold inSc; omega)
  have e1 : I1 (x + 289) = I (x + 289) := hf' _ (by omega)
  have e2 : I1 (x + 303) = I (x + 303) := hf' _ (by omega)
  have r1 : SWV G I1 s g.1 (gRS g) := h1.fr (fun c a b => hf' c (by omega))
  have r3 : HyV G I1 (x + 179) s (gH g) (min (g.2.2.2.1 + 1) 16) (psh (gQ g) g.2.2.2.2.1) g.2.2.2.2.2.1 g.2.2.2.2.2.2 := h3.fr (fun c hc => hf' c (by unfold inHy at hc; omega))
  have r4 : ChP I1 (x + 289) (gH g) q' := by
    refine ⟨false, false, false, ?_, ?_, ?_, fun q => ?_, fun q => ?_, fun q => ?_⟩
    · rw [e1]; exact a0
    · rw [e1]; exact a1
    · rw [e1]; exact a2
    · cases q
    · cases q
    · cases q
  have r5 : NxP I1 (x + 302) (gH g) q' := fun n hn => ⟨false, by show I1 (x + 303) n = _; rw [e2]; exact h5 n hn, fun q => by cases q⟩
  exact ⟨⟨r1, K, r3, r4, r5, h6.g hP6 (fun c a b => hf' c (by omega))⟩, fun c hc => hf' c (by omega)⟩
theorem MoW.new {G : Gm} {J J2 : Im} {m S : Nat} {g g' : Gh} (hM : MoW G J m (some g)) (y1 : gR G m 3 = some S) (e1 : g'.1 = g.1) (e2 : g'.2.1 = g.2.1) (K : MT G J2 m S 0 (gH g) (gQ g')) (H : MhV J2 m (gH g) g'.2.2.2.1 g'.2.2.2.2.1 g'.2.2.2.2.2.1 g'.2.2.2.2.2.2) (hf : ∀ c, S ≤ c → J2 c = J c) : MoW G J2 m (some g') := by
  obtain ⟨S', y1', a2, a3, b0, -, ⟨c1, c1'⟩, c2, c3, c4, c5, c6, -⟩ := hM.all
  have e : S' = S := Option.some.inj (y1'.symm.trans y1)
  subst e
  obtain ⟨sh', r', q', c', U', mk', M'⟩ := g'
  dsimp only at e1 e2
  subst e1 e2
  exact ⟨S', y1, a2, a3, b0, K, ⟨c1.fr hf, c1'⟩, c2.fr hf, c3.fr hf, c4.fr hf, fun b hb => by rw [hf _ (by omega)]; exact c5 b hb, by rw [hf _ (Nat.le_refl _)]; exact c6, H⟩
/-- the model keeps a scene; then the scene now changes -/
theorem m_act {d m : Nat} {g : Gh} {G : Gm} {J : Im} (hM : MoW G (s2 J m 0 (nI 0)) m (some g)) : ∃ S J1, gR G m 3 = some S ∧ run d mX13_keeps [.ref m] G (s2 J m 0 (nI 0)) = some (none, G, J1) ∧ MT G J1 m S 0 (gH g) (gQ g) ∧ ∀ q' J2, MT G J2 m S 0 (gH g) q' → MF m 0 J1 J2 → ∀ tr, MoW G (s2 (s2 J2 m 1 tr) m 2 (-1)) m (some (pushG g q')) ∧ MFa m J (s2 (s2 J2 m 1 tr) m 2 (-1)) tr := by
  obtain ⟨S, y1, a2, a3, b0, q2, -, -, -, -, -, -, wH⟩ := hM.all
  obtain ⟨J1, f1, f2, f3, f4, f5⟩ := mo_keeps (d := d) q2 wH
  refine ⟨S, J1, y1, f1, f2, fun q' J2 K hf tr => ?_⟩
  have hH : MhV J2 m (gH g) (min (g.2.2.2.1 + 1) 16) (psh (gQ g) g.2.2.2.2.1) g.2.2.2.2.2.1 g.2.2.2.2.2.2 := f3.fr (by rw [hf.1 _ (by omega)]) (by rw [hf.1 _ (by omega)]) (hf.1 _ (by omega)) (hf.1 _ (by omega))
  have hN : MoW G J2 m (some (pushG g q')) := hM.new (g' := pushG g q') y1 rfl rfl K hH (fun c hc => by rw [hf.1 c (by omega), f4 c (by omega) (by omega)])
  refine ⟨hN.tr2, MFa.z ⟨fun c hc => ?_, ?_, ?_, ?_⟩⟩
  · rw [hf.1 c (by omega), f4 c (by omega) (by omega), s2_ne (by omega)]
  · rw [hf.1 _ (by omega), f4 _ (by omega) (by omega), s2_ne (by omega)]
  · rw [hf.1 _ (by omega), f5 6 (by decide), s2_o (by decide)]
  · rw [hf.1 _ (by omega), f5 13 (by decide), s2_o (by decide)]
theorem QmOk.mono {k : Nat} {h : Sp} {p : Qp} (hp : QmOk k h p) : QmOk (k + 1) h p := ⟨by have := hp.1; omega, fun b hb => by have := hp.2 b hb; omega⟩
theorem GhOk.push {k : Nat} {g : Gh} {q' : Qp} (H : GhOk k (some g)) (hM : qM q' ≤ qM (gQ g) + 99) (hc : ∀ b, b < hN (gH g) → qC q' b ≤ qC (gQ g) b + 1782) : GhOk (k + 1) (some (pushG g q')) := by
  obtain ⟨sh, r, q, c, U, mk, M⟩ := g
  obtain ⟨h1, h2, h3⟩ := H
  refine ⟨h1.act hM hc, fun j hj => ?_, fun i hi => (h3 i hi).mono⟩
  cases j with
  | zero => exact h1.mono
  | succ j => exact (h2 j (by
      have hj' : j + 1 < min (c + 1) 16 := hj
      omega)).mono
theorem c_denied {d x : Nat} {z : Int32} {G : Gm} {I : Im} (l1 : gT G x = (21, 12)) : run d mX11_denied [.ref x, .int z] G I = some (some (.int (nI 0)), G, s2 I x 11 z) := by
  have := True.intro
  simp (disch := first | assumption | (simp (disch := omega) only [cK_some, ofR_some, ofR_none, Option.toList_some, Option.toList_none, List.cons_append, List.nil_append, isL_i, isL_r, isL_u, isL_2, cs_0, cs_i, cs_r, cs_l, cs_ii, cs_ir, cs_ri, cs_rr, cs_iir, cs_irr, cs_iii, cs_iri, cs_rii, cs_rir, cs_rri, cs_rrr, cs_iiii, cs_iiir, cs_iiri, cs_iirr, cs_irii, cs_irir, cs_irri, cs_irrr, cs_riii, cs_riir, cs_riri, cs_rirr, cs_rrii, cs_rrir, cs_rrri, cs_rrrr, l1, inb_n, bq4, bq5, n100, not_false_eq_true, isB_0, isB_1, nI_clamp, nI_nneg, Nat.zero_add, Nat.le_refl]; done) | omega | (simp (disch := omega) only [cK_some, ofR_some, ofR_none, Option.toList_some, Option.toList_none, List.cons_append, List.nil_append, isL_i, isL_r, isL_u, isL_2, cs_0, cs_i, cs_r, cs_l, cs_ii, cs_ir, cs_ri, cs_rr, cs_iir, cs_irr, cs_iii, cs_iri, cs_rii, cs_rir, cs_rri, cs_rrr, cs_iiii, cs_iiir, cs_iiri, cs_iirr, cs_irii, cs_irir, cs_irri, cs_irrr, cs_riii, cs_riir, cs_riri, cs_rirr, cs_rrii, cs_rrir, cs_rrri, cs_rrrr, l1, inb_n, bq4, bq5, n100, not_false_eq_true, isB_0, isB_1, nI_clamp, nI_nneg, Nat.zero_add, Nat.le_refl]; omega)) only [xX11_denied_0, xX11_denied_1, xX11_denied_2, xX11_denied_5, xX11_denied_6, cK_some, ofR_some, ofR_none, Option.toList_some, Option.toList_none, List.cons_append, List.nil_append, isL_i, isL_r, isL_u, isL_2, cs_0, cs_i, cs_r, cs_l, cs_ii, cs_ir, cs_ri, cs_rr, cs_iir, cs_irr, cs_iii, cs_iri, cs_rii, cs_rir, cs_rri, cs_rrr, cs_iiii, cs_iiir, cs_iiri, cs_iirr, cs_irii, cs_irir, cs_irri, cs_irrr, cs_riii, cs_riir, cs_riri, cs_rirr, cs_rrii, cs_rrir, cs_rrri, cs_rrrr, rX11_denied, Nat.add_sub_cancel, Nat.add_zero, Nat.zero_add, nI_lt, nI_nlt, nI_le, nI_ge, nI_pos, pk_sub, nI_clamp, s2_ne, s2_o, s2_s, nI_add, inb_n, nI_nn, zq0, zq1, ↓reduceIte]
theorem c_granted {d x : Nat} {G : Gm} {I : Im} (l1 : gT G x = (21, 12)) : run d mX11_granted [.ref x] G I = some (some (.int (nI 1)), G, s2 I x 11 (nI 0)) := by
  have := True.intro
  simp (disch := first | assumption | (simp (disch := omega) only [cK_some, ofR_some, ofR_none, Option.toList_some, Option.toList_none, List.cons_append, List.nil_append, isL_i, isL_r, isL_u, isL_2, cs_0, cs_i, cs_r, cs_l, cs_ii, cs_ir, cs_ri, cs_rr, cs_iir, cs_irr, cs_iii, cs_iri, cs_rii, cs_rir, cs_rri, cs_rrr, cs_iiii, cs_iiir, cs_iiri, cs_iirr, cs_irii, cs_irir, cs_irri, cs_irrr, cs_riii, cs_riir, cs_riri, cs_rirr, cs_rrii, cs_rrir, cs_rrri, cs_rrrr, l1, inb_n, bq4, bq5, n100, not_false_eq_true, isB_0, isB_1, nI_clamp, nI_nneg, Nat.zero_add, Nat.le_refl]; done) | omega | (simp (disch := omega) only [cK_some, ofR_some, ofR_none, Option.toList_some, Option.toList_none, List.cons_append, List.nil_append, isL_i, isL_r, isL_u, isL_2, cs_0, cs_i, cs_r, cs_l, cs_ii, cs_ir, cs_ri, cs_rr, cs_iir, cs_irr, cs_iii, cs_iri, cs_rii, cs_rir, cs_rri, cs_rrr, cs_iiii, cs_iiir, cs_iiri, cs_iirr, cs_irii, cs_irir, cs_irri, cs_irrr, cs_riii, cs_riir, cs_riri, cs_rirr, cs_rrii, cs_rrir, cs_rrri, cs_rrrr, l1, inb_n, bq4, bq5, n100, not_false_eq_true, isB_0, isB_1, nI_clamp, nI_nneg, Nat.zero_add, Nat.le_refl]; omega)) only [xX11_granted_0, xX11_granted_1, xX11_granted_2, xX11_granted_5, xX11_granted_6, cK_some, ofR_some, ofR_none, Option.toList_some, Option.toList_none, List.cons_append, List.nil_append, isL_i, isL_r, isL_u, isL_2, cs_0, cs_i, cs_r, cs_l, cs_ii, cs_ir, cs_ri, cs_rr, cs_iir, cs_irr, cs_iii, cs_iri, cs_rii, cs_rir, cs_rri, cs_rrr, cs_iiii, cs_iiir, cs_iiri, cs_iirr, cs_irii, cs_irir, cs_irri, cs_irrr, cs_riii, cs_riir, cs_riri, cs_rirr, cs_rrii, cs_rrir, cs_rrri, cs_rrrr, rX11_granted, Nat.add_sub_cancel, Nat.add_zero, Nat.zero_add, nI_lt, nI_nlt, nI_le, nI_ge, nI_pos, pk_sub, nI_clamp, s2_ne, s2_o, s2_s, nI_add, inb_n, nI_nn, zq0, zq1, ↓reduceIte]
theorem m_denied {d m : Nat} {z : Int32} {G : Gm} {I : Im} (l1 : gT G m = (23, 32)) : run (d + 1) mX13_denied [.ref m, .int z] G I = some (some (.int (nI 0)), G, s2 (s2 I m 1 z) m 2 (-1)) := by
  have h := m_refused (d := d) (z := z) (G := G) (I := I) l1
  have := True.intro
  simp (disch := first | assumption | (simp (disch := omega) only [cK_some, ofR_some, ofR_none, Option.toList_some, Option.toList_none, List.cons_append, List.nil_append, isL_i, isL_r, isL_u, isL_2, cs_0, cs_i, cs_r, cs_l, cs_ii, cs_ir, cs_ri, cs_rr, cs_iir, cs_irr, cs_iii, cs_iri, cs_rii, cs_rir, cs_rri, cs_rrr, cs_iiii, cs_iiir, cs_iiri, cs_iirr, cs_irii, cs_irir, cs_irri, cs_irrr, cs_riii, cs_riir, cs_riri, cs_rirr, cs_rrii, cs_rrir, cs_rrri, cs_rrrr, l1, inb_n, bq4, bq5, n100, not_false_eq_true, isB_0, isB_1, nI_clamp, nI_nneg, Nat.zero_add, Nat.le_refl]; done) | omega | (simp (disch := omega) only [cK_some, ofR_some, ofR_none, Option.toList_some, Option.toList_none, List.cons_append, List.nil_append, isL_i, isL_r, isL_u, isL_2, cs_0, cs_i, cs_r, cs_l, cs_ii, cs_ir, cs_ri, cs_rr, cs_iir, cs_irr, cs_iii, cs_iri, cs_rii, cs_rir, cs_rri, cs_rrr, cs_iiii, cs_iiir, cs_iiri, cs_iirr, cs_irii, cs_irir, cs_irri, cs_irrr, cs_riii, cs_riir, cs_riri, cs_rirr, cs_rrii, cs_rrir, cs_rrri, cs_rrrr, l1, inb_n, bq4, bq5, n100, not_false_eq_true, isB_0, isB_1, nI_clamp, nI_nneg, Nat.zero_add, Nat.le_refl]; omega)) only [xX13_denied_0, xX13_denied_1, xX13_denied_2, xX13_denied_5i, xX13_denied_5r, xX13_denied_6, xX13_denied_7, cK_some, ofR_some, ofR_none, Option.toList_some, Option.toList_none, List.cons_append, List.nil_append, isL_i, isL_r, isL_u, isL_2, cs_0, cs_i, cs_r, cs_l, cs_ii, cs_ir, cs_ri, cs_rr, cs_iir, cs_irr, cs_iii, cs_iri, cs_rii, cs_rir, cs_rri, cs_rrr, cs_iiii, cs_iiir, cs_iiri, cs_iirr, cs_irii, cs_irir, cs_irri, cs_irrr, cs_riii, cs_riir, cs_riri, cs_rirr, cs_rrii, cs_rrir, cs_rrri, cs_rrrr, rX13_denied, h, Nat.add_sub_cancel, Nat.add_zero, Nat.zero_add, nI_lt, nI_nlt, nI_le, nI_ge, nI_pos, pk_sub, nI_clamp, s2_ne, s2_o, s2_s, nI_add, inb_n, nI_nn, zq0, zq1, ↓reduceIte]
theorem m_granted {d m : Nat} {G : Gm} {I : Im} (l1 : gT G m = (23, 32)) : run (d + 1) mX13_granted [.ref m] G I = some (some (.int (nI 1)), G, s2 (s2 I m 1 (nI 0)) m 2 (-1)) := by
  have h := m_good (d := d) (z := nI 0) (G := G) (I := I) l1
  have := True.intro
  simp (disch := first | assumption | (simp (disch := omega) only [cK_some, ofR_some, ofR_none, Option.toList_some, Option.toList_none, List.cons_append, List.nil_append, isL_i, isL_r, isL_u, isL_2, cs_0, cs_i, cs_r, cs_l, cs_ii, cs_ir, cs_ri, cs_rr, cs_iir, cs_irr, cs_iii, cs_iri, cs_rii, cs_rir, cs_rri, cs_rrr, cs_iiii, cs_iiir, cs_iiri, cs_iirr, cs_irii, cs_irir, cs_irri, cs_irrr, cs_riii, cs_riir, cs_riri, cs_rirr, cs_rrii, cs_rrir, cs_rrri, cs_rrrr, l1, inb_n, bq4, bq5, n100, not_false_eq_true, isB_0, isB_1, nI_clamp, nI_nneg, Nat.zero_add, Nat.le_refl]; done) | omega | (simp (disch := omega) only [cK_some, ofR_some, ofR_none, Option.toList_some, Option.toList_none, List.cons_append, List.nil_append, isL_i, isL_r, isL_u, isL_2, cs_0, cs_i, cs_r, cs_l, cs_ii, cs_ir, cs_ri, cs_rr, cs_iir, cs_irr, cs_iii, cs_iri, cs_rii, cs_rir, cs_rri, cs_rrr, cs_iiii, cs_iiir, cs_iiri, cs_iirr, cs_irii, cs_irir, cs_irri, cs_irrr, cs_riii, cs_riir, cs_riri, cs_rirr, cs_rrii, cs_rrir, cs_rrri, cs_rrrr, l1, inb_n, bq4, bq5, n100, not_false_eq_true, isB_0, isB_1, nI_clamp, nI_nneg, Nat.zero_add, Nat.le_refl]; omega)) only [xX13_granted_0, xX13_granted_1, xX13_granted_2, xX13_granted_5i, xX13_granted_5r, xX13_granted_6, xX13_granted_7, cK_some, ofR_some, ofR_none, Option.toList_some, Option.toList_none, List.cons_append, List.nil_append, isL_i, isL_r, isL_u, isL_2, cs_0, cs_i, cs_r, cs_l, cs_ii, cs_ir, cs_ri, cs_rr, cs_iir, cs_irr, cs_iii, cs_iri, cs_rii, cs_rir, cs_rri, cs_rrr, cs_iiii, cs_iiir, cs_iiri, cs_iirr, cs_irii, cs_irir, cs_irri, cs_irrr, cs_riii, cs_riir, cs_riri, cs_rirr, cs_rrii, cs_rrir, cs_rrri, cs_rrrr, rX13_granted, h, Nat.add_sub_cancel, Nat.add_zero, Nat.zero_add, nI_lt, nI_nlt, nI_le, nI_ge, nI_pos, pk_sub, nI_clamp, s2_ne, s2_o, s2_s, nI_add, inb_n, nI_nn, zq0, zq1, ↓reduceIte]
theorem in1_ok {z : Int32} {n : Nat} (hn : n < 2 ^ 31) (h : decide (¬ z < nI 1 ∧ z ≤ nI n) = true) : ∃ b, 0 < b ∧ b ≤ n ∧ z = nI b := by
  obtain ⟨h1, h2⟩ := of_decide_eq_true h
  rcases rng (z := z) (n := n) hn with ⟨b, hb, rfl, -⟩ | ⟨q, -⟩
  · refine ⟨b, ?_, hb, rfl⟩
    by_cases e : b = 0
    · subst e; exact absurd (nI_lt (by decide) (by decide)) h1
    · omega
  · rcases q with q | q
    · exact absurd (Int32.lt_iff_toInt_lt.mpr (by rw [nI_toInt (by decide)]; omega)) h1
    · have h3 := Int32.le_iff_toInt_le.mp h2
      rw [nI_toInt hn] at h3
      omega
