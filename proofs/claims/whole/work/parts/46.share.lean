/-! patches shared out -/
theorem nI_all (x : Int32) : ∃ n : Nat, x = nI n := ⟨x.toBitVec.toNat, by
  show x = Int32.ofNat _
  apply Int32.toBitVec_inj.mp
  show x.toBitVec = BitVec.ofNat 32 x.toBitVec.toNat
  rw [BitVec.ofNat_toNat]
  simp⟩
def shr (h : Sp) (q : Qp) : Nat → Nat → (Nat → Nat) → (Nat → Nat) → Nat → Nat × (Nat → Nat) → Nat × (Nat → Nat)
  | 0, _, _, T, wt, _ => (wt, T)
  | m + 1, b, P, T, wt, st => fo st (fun st p =>
    if mx wt (aft h (m + 1) (aft h b (qD q b) - passP h b (aft h b (qD q b)) p (P p))) < st.1 then
      shr h q m (b + 1) (up P p (P p + passP h b (aft h b (qD q b)) p (P p))) (up T b p) (mx wt (aft h (m + 1) (aft h b (qD q b) - passP h b (aft h b (qD q b)) p (P p)))) st else st) (hP h)
theorem fo_inv {α : Type} {a0 : α} {f : α → Nat → α} {Q : α → Prop} (h0 : Q a0) {n : Nat} (h : ∀ a k, k < n → Q a → Q (f a k)) : ∀ k, k ≤ n → Q (fo a0 f k)
  | 0, _ => h0
  | k + 1, hk => h _ k hk (fo_inv h0 h k (Nat.le_of_succ_le hk))
theorem shr_lt {h : Sp} {q : Qp} : ∀ m b P T wt st, wt < 2 ^ 31 → st.1 < 2 ^ 31 → (∀ j, b ≤ j → j < b + m → qD q j ≤ 99) → (shr h q m b P T wt st).1 < 2 ^ 31
  | 0, _, _, _, _, _, h1, _, _ => h1
  | m + 1, b, P, T, wt, st, h1, h2, h3 => by
    refine fo_inv (Q := fun (z : Nat × (Nat → Nat)) => z.1 < 2 ^ 31) (n := hP h) h2 (fun z p hp hz => ?_) (hP h) (Nat.le_refl _)
    try dsimp only
    split
    · refine shr_lt m (b + 1) _ _ _ _ ?_ hz (fun j h4 h5 => h3 j (by omega) (by omega))
      have h4 := aft_le (h := h) (k := b) (D := qD q b)
      have h5 := aft_le (h := h) (k := m + 1) (D := aft h b (qD q b) - passP h b (aft h b (qD q b)) p (P p))
      have h6 := h3 b (by omega) (by omega)
      unfold mx
      split <;> omega
    · exact hz
theorem AW.fr {I I' : Im} {s : Nat} {h : Sp} (A : AW I s h) (hf : ∀ c, s + 74 ≤ c → c ≤ s + 81 → I' c = I c) : AW I' s h := by
  refine ⟨fun D hD => ?_, fun k hk D hD => ?_⟩
  · rw [hf _ (by omega) (by omega)]; exact A.1 D hD
  · rw [hf _ (by omega) (by omega)]; exact A.2 k hk D hD
def inShr (e b c : Nat) : Prop := c = e ∨ c = e + 3 ∨ c = e + 4 ∨ (e + 6 + b < c ∧ c ≤ e + 12)
theorem rn_shareOut {a s e : Nat} {h : Sp} {q : Qp} {G : Gm} (he : Ch G e) (hes : e + 12 < s ∨ s + 81 < e) (hea : e + 12 < a ∨ a + 3 < e) : ∀ (m d b : Nat) (P T : Nat → Nat) (wt : Nat) (st : Nat × (Nat → Nat)) (I : Im), b + m = hN h → CT G I a s h q → AW I s h → (∀ p, p < hP h → I (e + 6 + b) p = nI (P p) ∧ P p ≤ hHold h (hOwn h p)) → (∀ k, k < b → I (e + 4) k = nI (T k)) → I e 5 = nI st.1 → st.1 < 2 ^ 31 → (∀ k, k < hN h → I (e + 3) k = nI (st.2 k)) → wt ≤ 99 →
    ∃ I', run (d + m + 1) mX1_shareOut [.ref e, .ref s, .ref a, .int (nI b), .int (nI wt)] G I = some (none, G, I') ∧ I' e 5 = nI (shr h q m b P T wt st).1 ∧ (∀ k, k < hN h → I' (e + 3) k = nI ((shr h q m b P T wt st).2 k)) ∧ Fr (inShr e b) I I' ∧ (∀ j, j ≠ 5 → I' e j = I e j) ∧ (∀ k, k < b → I' (e + 4) k = I (e + 4) k) := by
  have he' := he
  obtain ⟨e1, e2, e3, e4, e5, e6, e7, e8, e9, e10, e11, e12⟩ := he'
  intro m
  induction m with
  | zero =>
    intro d b P T wt st I hbm K A hPv hT hL hLb hB hwt
    obtain ⟨ha, hs, hd, hv, ho, hq, hqo⟩ := id K
    have hN6 := ho.1
    have en := hv.1.1
    have ha_1 := ha.1; have ha_2 := ha.2.1; have ha_3 := ha.2.2.1; have ha_4 := ha.2.2.2.1; have ha_5 := ha.2.2.2.2.1; have ha_6 := ha.2.2.2.2.2.1; have ha_7 := ha.2.2.2.2.2.2; have hs_1 := hs.1; have hs_2 := hs.2.1; have hs_3 := hs.2.2.1; have hs_4 := hs.2.2.2.1; have hs_5 := hs.2.2.2.2.1; have hs_6 := hs.2.2.2.2.2.1; have hs_7 := (hs.2.2.2.2.2.2.1).1; have hs_8 := (hs.2.2.2.2.2.2.1).2.1; have hs_9 := (hs.2.2.2.2.2.2.1).2.2.1; have hs_10 := (hs.2.2.2.2.2.2.1).2.2.2.1; have hs_11 := (hs.2.2.2.2.2.2.1).2.2.2.2.1; have hs_12 := (hs.2.2.2.2.2.2.1).2.2.2.2.2.1; have hs_13 := (hs.2.2.2.2.2.2.1).2.2.2.2.2.2.1; have hs_14 := (hs.2.2.2.2.2.2.1).2.2.2.2.2.2.2.1; have hs_15 := (hs.2.2.2.2.2.2.1).2.2.2.2.2.2.2.2.1; have hs_16 := (hs.2.2.2.2.2.2.1).2.2.2.2.2.2.2.2.2.1; have hs_17 := (hs.2.2.2.2.2.2.1).2.2.2.2.2.2.2.2.2.2.1; have hs_18 := (hs.2.2.2.2.2.2.1).2.2.2.2.2.2.2.2.2.2.2.1; have hs_19 := (hs.2.2.2.2.2.2.1).2.2.2.2.2.2.2.2.2.2.2.2; have hs_20 := (hs.2.2.2.2.2.2.2.1).1; have hs_21 := (hs.2.2.2.2.2.2.2.1).2.1; have hs_22 := (hs.2.2.2.2.2.2.2.1).2.2.1; have hs_23 := (hs.2.2.2.2.2.2.2.1).2.2.2.1; have hs_24 := (hs.2.2.2.2.2.2.2.1).2.2.2.2.1; have hs_25 := (hs.2.2.2.2.2.2.2.1).2.2.2.2.2.1; have hs_26 := (hs.2.2.2.2.2.2.2.1).2.2.2.2.2.2.1; have hs_27 := (hs.2.2.2.2.2.2.2.1).2.2.2.2.2.2.2.1; have hs_28 := (hs.2.2.2.2.2.2.2.1).2.2.2.2.2.2.2.2.1; have hs_29 := (hs.2.2.2.2.2.2.2.1).2.2.2.2.2.2.2.2.2.1; have hs_30 := (hs.2.2.2.2.2.2.2.1).2.2.2.2.2.2.2.2.2.2.1; have hs_31 := (hs.2.2.2.2.2.2.2.1).2.2.2.2.2.2.2.2.2.2.2.1; have hs_32 := (hs.2.2.2.2.2.2.2.1).2.2.2.2.2.2.2.2.2.2.2.2; have hs_33 := hs.2.2.2.2.2.2.2.2.1; have hs_34 := hs.2.2.2.2.2.2.2.2.2.2
    refine ⟨s1 (s2 I e 5 (nI wt)) (e + 3) (va_cpy (I (e + 4)) (I (e + 3)) (nI 0).toNatClampNeg (nI 0).toNatClampNeg (nI 6).toNatClampNeg), ?_, ?_, fun k hk => ?_, (Fr.rf.s2 (Or.inl rfl)).s1 (Or.inr (Or.inl rfl)), fun j hj => ?_, fun k hk => ?_⟩
    · simp (disch := first | assumption | (simp (disch := omega) only [cK_some, ofR_some, ofR_none, Option.toList_some, Option.toList_none, List.cons_append, List.nil_append, isL_i, isL_r, isL_u, isL_2, cs_0, cs_i, cs_r, cs_l, cs_ii, cs_ir, cs_ri, cs_rr, cs_iir, cs_irr, ha_1, ha_2, ha_3, ha_4, ha_5, ha_6, ha_7, hs_1, hs_2, hs_3, hs_4, hs_5, hs_6, hs_7, hs_8, hs_9, hs_10, hs_11, hs_12, hs_13, hs_14, hs_15, hs_16, hs_17, hs_18, hs_19, hs_20, hs_21, hs_22, hs_23, hs_24, hs_25, hs_26, hs_27, hs_28, hs_29, hs_30, hs_31, hs_32, hs_33, hs_34, e1, e9, e10, inb_n, bq4, bq5, n100, not_false_eq_true, isB_0, isB_1, nI_clamp, nI_nneg, Nat.zero_add, Nat.le_refl]; done) | omega) only [xX1_shareOut_0, xX1_shareOut_1, xX1_shareOut_4, xX1_shareOut_7, xX1_shareOut_9, xX1_shareOut_10, xX1_shareOut_12, xX1_shareOut_15, xX1_shareOut_16, xX1_shareOut_18, xX1_shareOut_21, xX1_shareOut_22, xX1_shareOut_24, xX1_shareOut_27, xX1_shareOut_28, xX1_shareOut_31, xX1_shareOut_32, xX1_shareOut_33, xX1_shareOut_36, xX1_shareOut_37, xX1_shareOut_39, xX1_shareOut_42, xX1_shareOut_43, xX1_shareOut_44, xX1_shareOut_47, xX1_shareOut_48, xX1_shareOut_49, xX1_shareOut_50, xX1_shareOut_53, xX1_shareOut_54, xX1_shareOut_55, xX1_shareOut_56, xX1_shareOut_58, xX1_shareOut_59, xX1_shareOut_61, xX1_shareOut_63, xX1_shareOut_64, xX1_shareOut_67, xX1_shareOut_70, xX1_shareOut_73, xX1_shareOut_74, xX1_shareOut_75, xX1_shareOut_77, xX1_shareOut_79, xX1_shareOut_80, xX1_shareOut_83, xX1_shareOut_84, xX1_shareOut_85, xX1_shareOut_87, xX1_shareOut_88, xX1_shareOut_91, xX1_shareOut_93, xX1_shareOut_95, xX1_shareOut_96, xX1_shareOut_99, xX1_shareOut_101, xX1_shareOut_102, xX1_shareOut_103, xX1_shareOut_104, xX1_shareOut_106, xX1_shareOut_108, xX1_shareOut_109, xX1_shareOut_110, xX1_shareOut_113, xX1_shareOut_115, xX1_shareOut_117, xX1_shareOut_118, xX1_shareOut_121, xX1_shareOut_124, xX1_shareOut_125, xX1_shareOut_128, xX1_shareOut_129, xX1_shareOut_131, xX1_shareOut_132, xX1_shareOut_133, xX1_shareOut_136, xX1_shareOut_137, xX1_shareOut_138, xX1_shareOut_139, xX1_shareOut_140, xX1_shareOut_143, xX1_shareOut_144, xX1_shareOut_145, xX1_shareOut_146, xX1_shareOut_147, xX1_shareOut_148, xX1_shareOut_150, xX1_shareOut_153, xX1_shareOut_154, xX1_shareOut_157, xX1_shareOut_158, xX1_shareOut_159, xX1_shareOut_160, xX1_shareOut_161, xX1_shareOut_163, xX1_shareOut_164, xX1_shareOut_165, xX1_shareOut_167, xX1_shareOut_168, xX1_shareOut_169, xX1_shareOut_170, xX1_shareOut_171, xX1_shareOut_172, xX1_shareOut_173, xX1_shareOut_174, xX1_shareOut_175, xX1_shareOut_177, xX1_shareOut_180, xX1_shareOut_183, xX1_shareOut_186, cK_some, ofR_some, ofR_none, Option.toList_some, Option.toList_none, List.cons_append, List.nil_append, isL_i, isL_r, isL_u, isL_2, cs_0, cs_i, cs_r, cs_l, cs_ii, cs_ir, cs_ri, cs_rr, cs_iir, cs_irr, ha_1, ha_2, ha_3, ha_4, ha_5, ha_6, ha_7, hs_1, hs_2, hs_3, hs_4, hs_5, hs_6, hs_7, hs_8, hs_9, hs_10, hs_11, hs_12, hs_13, hs_14, hs_15, hs_16, hs_17, hs_18, hs_19, hs_20, hs_21, hs_22, hs_23, hs_24, hs_25, hs_26, hs_27, hs_28, hs_29, hs_30, hs_31, hs_32, hs_33, hs_34, rX1_shareOut, en, e5, e4, s1_o, Nat.add_sub_cancel, nI_lt, nI_nlt, nI_le, nI_ge, nI_pos, pk_sub, nI_clamp, s2_ne, s2_o, s2_s, nI_add, inb_n, nI_nn, zq0, zq1, ↓reduceIte]
    · rw [s1_o (by omega), s2_s]; rfl
    · rw [s1_s, cpy6 (by omega)]; exact hT k (by omega)
    · rw [s1_o (by omega), s2_o hj]
    · rw [s1_o (by omega), s2_ne (by omega)]
  | succ m ih =>
    intro d b P T wt st I hbm K A hPv hT hL hLb hB hwt
    obtain ⟨ha, hs, hd, hv, ho, hq, hqo⟩ := id K
    have hN6 := ho.1
    have hP6 := ho.2.1
    have hb : b < hN h := by omega
    have en := hv.1.1
    have eD := (hq.1 b hb).1
    have hD := hqo.1 b hb
    have hrow := hs.2.2.2.2.2.2.2.2.2.1
    obtain ⟨r1, r2⟩ := hrow b (by omega)
    obtain ⟨r3, r4⟩ := hrow (hN h - b) (by omega)
    obtain ⟨c1, c2⟩ := e12 b (by omega)
    obtain ⟨c3, c4⟩ := e12 (b + 1) (by omega)
    have ha_1 := ha.1; have ha_2 := ha.2.1; have ha_3 := ha.2.2.1; have ha_4 := ha.2.2.2.1; have ha_5 := ha.2.2.2.2.1; have ha_6 := ha.2.2.2.2.2.1; have ha_7 := ha.2.2.2.2.2.2; have hs_1 := hs.1; have hs_2 := hs.2.1; have hs_3 := hs.2.2.1; have hs_4 := hs.2.2.2.1; have hs_5 := hs.2.2.2.2.1; have hs_6 := hs.2.2.2.2.2.1; have hs_7 := (hs.2.2.2.2.2.2.1).1; have hs_8 := (hs.2.2.2.2.2.2.1).2.1; have hs_9 := (hs.2.2.2.2.2.2.1).2.2.1; have hs_10 := (hs.2.2.2.2.2.2.1).2.2.2.1; have hs_11 := (hs.2.2.2.2.2.2.1).2.2.2.2.1; have hs_12 := (hs.2.2.2.2.2.2.1).2.2.2.2.2.1; have hs_13 := (hs.2.2.2.2.2.2.1).2.2.2.2.2.2.1; have hs_14 := (hs.2.2.2.2.2.2.1).2.2.2.2.2.2.2.1; have hs_15 := (hs.2.2.2.2.2.2.1).2.2.2.2.2.2.2.2.1; have hs_16 := (hs.2.2.2.2.2.2.1).2.2.2.2.2.2.2.2.2.1; have hs_17 := (hs.2.2.2.2.2.2.1).2.2.2.2.2.2.2.2.2.2.1; have hs_18 := (hs.2.2.2.2.2.2.1).2.2.2.2.2.2.2.2.2.2.2.1; have hs_19 := (hs.2.2.2.2.2.2.1).2.2.2.2.2.2.2.2.2.2.2.2; have hs_20 := (hs.2.2.2.2.2.2.2.1).1; have hs_21 := (hs.2.2.2.2.2.2.2.1).2.1; have hs_22 := (hs.2.2.2.2.2.2.2.1).2.2.1; have hs_23 := (hs.2.2.2.2.2.2.2.1).2.2.2.1; have hs_24 := (hs.2.2.2.2.2.2.2.1).2.2.2.2.1; have hs_25 := (hs.2.2.2.2.2.2.2.1).2.2.2.2.2.1; have hs_26 := (hs.2.2.2.2.2.2.2.1).2.2.2.2.2.2.1; have hs_27 := (hs.2.2.2.2.2.2.2.1).2.2.2.2.2.2.2.1; have hs_28 := (hs.2.2.2.2.2.2.2.1).2.2.2.2.2.2.2.2.1; have hs_29 := (hs.2.2.2.2.2.2.2.1).2.2.2.2.2.2.2.2.2.1; have hs_30 := (hs.2.2.2.2.2.2.2.1).2.2.2.2.2.2.2.2.2.2.1; have hs_31 := (hs.2.2.2.2.2.2.2.1).2.2.2.2.2.2.2.2.2.2.2.1; have hs_32 := (hs.2.2.2.2.2.2.2.1).2.2.2.2.2.2.2.2.2.2.2.2; have hs_33 := hs.2.2.2.2.2.2.2.2.1; have hs_34 := hs.2.2.2.2.2.2.2.2.2.2
    have ewt := A.2 b (by omega) (qD q b) (by omega)
    have hwet := aft_le (h := h) (k := b) (D := qD q b)
    generalize hW : aft h b (qD q b) = W at ewt hwet
    have eshr : shr h q (m + 1) b P T wt st = fo st (fun st p => if mx wt (aft h (m + 1) (W - passP h b W p (P p))) < st.1 then shr h q m (b + 1) (up P p (P p + passP h b W p (P p))) (up T b p) (mx wt (aft h (m + 1) (W - passP h b W p (P p)))) st else st) (hP h) := by
      rw [← hW]; rfl
    rw [eshr]
    generalize hF : (fun (st : Nat × (Nat → Nat)) (p : Nat) => if mx wt (aft h (m + 1) (W - passP h b W p (P p))) < st.1 then shr h q m (b + 1) (up P p (P p + passP h b W p (P p))) (up T b p) (mx wt (aft h (m + 1) (W - passP h b W p (P p)))) st else st) = F
    have hlt : ∀ p, p ≤ hP h → (fo st F p).1 < 2 ^ 31 := by
      refine fo_inv (Q := fun (z : Nat × (Nat → Nat)) => z.1 < 2 ^ 31) hLb (fun z p hp hz => ?_)
      rw [← hF]
      try dsimp only
      split
      · refine shr_lt m (b + 1) _ _ _ _ ?_ hz (fun j h4 h5 => hqo.1 j (by omega))
        have h5 := aft_le (h := h) (k := m + 1) (D := W - passP h b W p (P p))
        unfold mx
        split <;> omega
      · exact hz
    obtain ⟨⟨z, z8, z9⟩, f1, p1, p2, p3, p4, p5⟩ := chainE (fun p (z : Im × Slot × Slot) => ex (d + (m + 1) + 1) mX1_shareOut 61 [.val (.ref e), .val (.ref s), .val (.ref a), .val (.int (nI b)), .val (.int (nI wt)), .val (.int (nI (hN h))), .val (.int (nI W)), .val (.int (nI p)), z.2.1, z.2.2] [] G z.1) (fun p z => z.1 e 5 = nI (fo st F p).1 ∧ (∀ k, k < hN h → z.1 (e + 3) k = nI ((fo st F p).2 k)) ∧ Fr (inShr e b) I z.1 ∧ (∀ j, j ≠ 5 → z.1 e j = I e j) ∧ (∀ k, k < b → z.1 (e + 4) k = I (e + 4) k)) (hP h) (fun p hp z hz => by
      obtain ⟨z, z8, z9⟩ := z
      obtain ⟨p1, p2, p3, p4, p5⟩ := hz
      try dsimp only at p1 p2 p3 p4 p5 ⊢
      have Kz : CT G z a s h q := K.fr (fun c hc => p3 c (by unfold inSc at hc; unfold inShr; omega))
      have Az : AW z s h := A.fr (fun c h1 h2 => p3 c (by unfold inShr; omega))
      have hvz := Kz.2.2.2.1
      have enP := hvz.1.2.1
      obtain ⟨q1, q2⟩ := hPv p hp
      have q1' : z (e + 6 + b) p = nI (P p) := by rw [p3 _ (by unfold inShr; omega)]; exact q1
      have hpas := rn_passing (d := d + (m + 1)) hs hvz ho hb hp (show W ≤ 99 by omega) q2
      have hple := passP_le (h := h) (b := b) (d := W) (p := p) (w := P p) (by have := ho.2.2.2.1; omega)
      have hal := aft_le (h := h) (k := m + 1) (D := W - passP h b W p (P p))
      have eaw := Az.2 (hN h - b) (by omega) (W - passP h b W p (P p)) (by omega)
      rw [show hN h - b = m + 1 by omega] at eaw
      have hsub := pk_sub (show b ≤ hN h by omega)
      rw [show hN h - b = m + 1 by omega] at hsub
      have r3' : gR G (s + 73) (m + 1) = some (s + 74 + (m + 1)) := by rw [← show hN h - b = m + 1 by omega]; exact r3
      have r4' : gT G (s + 74 + (m + 1)) = (0, 100) := by rw [← show hN h - b = m + 1 by omega]; exact r4
      have hsw := pk_sub (show passP h b W p (P p) ≤ W by omega)
      have hmx := nI_mx (m := wt) (x := aft h (m + 1) (W - passP h b W p (P p))) (by omega) (by omega)
      have hmle : mx wt (aft h (m + 1) (W - passP h b W p (P p))) ≤ 99 := mx_le hwt (by omega)
      have hcmp := nI_ltI (a := mx wt (aft h (m + 1) (W - passP h b W p (P p)))) (b := (fo st F p).1) (by omega) (hlt p (by omega))
      have eF : fo st F (p + 1) = if mx wt (aft h (m + 1) (W - passP h b W p (P p))) < (fo st F p).1 then shr h q m (b + 1) (up P p (P p + passP h b W p (P p))) (up T b p) (mx wt (aft h (m + 1) (W - passP h b W p (P p)))) (fo st F p) else fo st F p := by
        rw [fo_s]
        generalize fo st F p = z0
        rw [← hF]
      rw [eF]
      generalize hpass : passP h b W p (P p) = pass at *
      generalize hworst : mx wt (aft h (m + 1) (W - pass)) = worst at *
      by_cases c : worst < (fo st F p).1
      · rw [if_pos c]
        obtain ⟨y, g1, g2, g3, g4, g5, g6⟩ := ih d (b + 1) (up P p (P p + pass)) (up T b p) worst (fo st F p) (s2 (s1 (s2 z (e + 4) b (nI p)) (e + 6 + (b + 1)) (va_cpy (z (e + 6 + b)) (z (e + 6 + (b + 1))) (nI 0).toNatClampNeg (nI 0).toNatClampNeg (nI 6).toNatClampNeg)) (e + 6 + (b + 1)) p (nI (P p + pass))) (by omega) (Kz.fr (fun c hc => by rw [s2_ne (by unfold inSc at hc; omega), s1_o (by unfold inSc at hc; omega), s2_ne (by unfold inSc at hc; omega)])) (Az.fr (fun c h1 h2 => by rw [s2_ne (by omega), s1_o (by omega), s2_ne (by omega)])) (fun p' hp' => by
            unfold up
            obtain ⟨u1, u2⟩ := hPv p' hp'
            by_cases e0 : p' = p
            · rw [e0, s2_s, if_pos rfl]
              exact ⟨rfl, by omega⟩
            · rw [s2_o e0, if_neg e0, s1_s, cpy6 (by omega), p3 _ (by unfold inShr; omega)]
              exact ⟨u1, u2⟩) (fun k hk => by
            rw [s2_ne (by omega), s1_o (by omega)]
            unfold up
            by_cases e0 : k = b
            · rw [e0, s2_s, if_pos rfl]
            · rw [s2_o e0, if_neg e0, p5 k (by omega)]
              exact hT k (by omega)) (by rw [s2_ne (by omega), s1_o (by omega), s2_ne (by omega)]; exact p1) (hlt p (by omega)) (fun k hk => by
            rw [s2_ne (by omega), s1_o (by omega), s2_ne (by omega)]
            exact p2 k hk) hmle
        refine ⟨(y, .val (.int (nI pass)), .val (.int (nI worst))), ?_, g2, g3, ?_, fun j hj => ?_, fun k hk => ?_⟩
        · have hcp : ∀ f g : Nat → Int32, va_cpy f g (nI 0).toNatClampNeg (nI 0).toNatClampNeg (nI 6).toNatClampNeg p = f p := fun f g => cpy6 (by omega)
          rw [nI_clamp (by omega), nI_clamp (by omega), Nat.add_assoc d m 1] at g1
          have hcp2 : ∀ f g : Nat → Int32, va_cpy f g 0 0 6 p = f p := fun f g => by have := hcp f g; rw [nI_clamp (by omega), nI_clamp (by omega)] at this; exact this
          have c' : (nI worst < nI (fo st F p).1) = True := eq_true (hcmp.mpr c)
          rw [xX1_shareOut_61]
          simp (disch := first | assumption | (simp (disch := omega) only [cK_some, ofR_some, ofR_none, Option.toList_some, Option.toList_none, List.cons_append, List.nil_append, isL_i, isL_r, isL_u, isL_2, cs_0, cs_i, cs_r, cs_l, cs_ii, cs_ir, cs_ri, cs_rr, cs_iir, cs_irr, ha_1, ha_2, ha_3, ha_4, ha_5, ha_6, ha_7, hs_1, hs_2, hs_3, hs_4, hs_5, hs_6, hs_7, hs_8, hs_9, hs_10, hs_11, hs_12, hs_13, hs_14, hs_15, hs_16, hs_17, hs_18, hs_19, hs_20, hs_21, hs_22, hs_23, hs_24, hs_25, hs_26, hs_27, hs_28, hs_29, hs_30, hs_31, hs_32, hs_33, hs_34, e1, e10, e11, c2, c4, r4', inb_n, bq4, bq5, n100, not_false_eq_true, isB_0, isB_1, nI_clamp, nI_nneg, Nat.zero_add, Nat.le_refl]; done) | omega) only [xX1_shareOut_63, xX1_shareOut_64, xX1_shareOut_67, xX1_shareOut_70, xX1_shareOut_73, xX1_shareOut_74, xX1_shareOut_75, xX1_shareOut_77, xX1_shareOut_79, xX1_shareOut_80, xX1_shareOut_83, xX1_shareOut_84, xX1_shareOut_85, xX1_shareOut_87, xX1_shareOut_88, xX1_shareOut_91, xX1_shareOut_93, xX1_shareOut_95, xX1_shareOut_96, xX1_shareOut_99, xX1_shareOut_101, xX1_shareOut_102, xX1_shareOut_103, xX1_shareOut_104, xX1_shareOut_106, xX1_shareOut_108, xX1_shareOut_109, xX1_shareOut_110, xX1_shareOut_113, xX1_shareOut_115, xX1_shareOut_117, xX1_shareOut_118, xX1_shareOut_121, xX1_shareOut_124, xX1_shareOut_125, xX1_shareOut_128, xX1_shareOut_129, xX1_shareOut_131, xX1_shareOut_132, xX1_shareOut_133, xX1_shareOut_136, xX1_shareOut_137, xX1_shareOut_138, xX1_shareOut_139, xX1_shareOut_140, xX1_shareOut_143, xX1_shareOut_144, xX1_shareOut_145, xX1_shareOut_146, xX1_shareOut_147, xX1_shareOut_148, xX1_shareOut_150, xX1_shareOut_153, xX1_shareOut_154, xX1_shareOut_157, xX1_shareOut_158, xX1_shareOut_159, xX1_shareOut_160, xX1_shareOut_161, xX1_shareOut_163, xX1_shareOut_164, xX1_shareOut_165, xX1_shareOut_167, xX1_shareOut_168, xX1_shareOut_169, xX1_shareOut_170, xX1_shareOut_171, xX1_shareOut_172, xX1_shareOut_173, xX1_shareOut_174, xX1_shareOut_175, xX1_shareOut_177, xX1_shareOut_180, xX1_shareOut_183, cK_some, ofR_some, ofR_none, Option.toList_some, Option.toList_none, List.cons_append, List.nil_append, isL_i, isL_r, isL_u, isL_2, cs_0, cs_i, cs_r, cs_l, cs_ii, cs_ir, cs_ri, cs_rr, cs_iir, cs_irr, ha_1, ha_2, ha_3, ha_4, ha_5, ha_6, ha_7, hs_1, hs_2, hs_3, hs_4, hs_5, hs_6, hs_7, hs_8, hs_9, hs_10, hs_11, hs_12, hs_13, hs_14, hs_15, hs_16, hs_17, hs_18, hs_19, hs_20, hs_21, hs_22, hs_23, hs_24, hs_25, hs_26, hs_27, hs_28, hs_29, hs_30, hs_31, hs_32, hs_33, hs_34, enP, e6, c1, c3, q1', hpas, hsub, r3', hsw, eaw, hmx, p1, c', e5, hcp2, s1_o, s1_s, g1, Nat.add_sub_cancel, nI_lt, nI_nlt, nI_le, nI_ge, nI_pos, pk_sub, nI_clamp, s2_ne, s2_o, s2_s, nI_add, inb_n, nI_nn, zq0, zq1, ↓reduceIte]
        · refine p3.tr ?_
          intro x hx
          show y x = z x
          rw [g4 x (by unfold inShr at hx ⊢; omega), s2_ne (by unfold inShr at hx; omega), s1_o (by unfold inShr at hx; omega), s2_ne (by unfold inShr at hx; omega)]
        · show y e j = I e j
          rw [g5 j hj, s2_ne (by omega), s1_o (by omega), s2_ne (by omega)]; exact p4 j hj
        · show y (e + 4) k = I (e + 4) k
          rw [g6 k (by omega), s2_ne (by omega), s1_o (by omega), s2_o (by omega)]; exact p5 k hk
      · rw [if_neg c]
        refine ⟨(z, .val (.int (nI pass)), .val (.int (nI worst))), ?_, p1, p2, p3, p4, p5⟩
        have c' : (nI worst < nI (fo st F p).1) = False := eq_false (fun x => c (hcmp.mp x))
        rw [xX1_shareOut_61]
        simp (disch := first | assumption | (simp (disch := omega) only [cK_some, ofR_some, ofR_none, Option.toList_some, Option.toList_none, List.cons_append, List.nil_append, isL_i, isL_r, isL_u, isL_2, cs_0, cs_i, cs_r, cs_l, cs_ii, cs_ir, cs_ri, cs_rr, cs_iir, cs_irr, ha_1, ha_2, ha_3, ha_4, ha_5, ha_6, ha_7, hs_1, hs_2, hs_3, hs_4, hs_5, hs_6, hs_7, hs_8, hs_9, hs_10, hs_11, hs_12, hs_13, hs_14, hs_15, hs_16, hs_17, hs_18, hs_19, hs_20, hs_21, hs_22, hs_23, hs_24, hs_25, hs_26, hs_27, hs_28, hs_29, hs_30, hs_31, hs_32, hs_33, hs_34, e1, e10, e11, c2, c4, r4', inb_n, bq4, bq5, n100, not_false_eq_true, isB_0, isB_1, nI_clamp, nI_nneg, Nat.zero_add, Nat.le_refl]; done) | omega) only [xX1_shareOut_63, xX1_shareOut_64, xX1_shareOut_67, xX1_shareOut_70, xX1_shareOut_73, xX1_shareOut_74, xX1_shareOut_75, xX1_shareOut_77, xX1_shareOut_79, xX1_shareOut_80, xX1_shareOut_83, xX1_shareOut_84, xX1_shareOut_85, xX1_shareOut_87, xX1_shareOut_88, xX1_shareOut_91, xX1_shareOut_93, xX1_shareOut_95, xX1_shareOut_96, xX1_shareOut_99, xX1_shareOut_101, xX1_shareOut_102, xX1_shareOut_103, xX1_shareOut_104, xX1_shareOut_106, xX1_shareOut_108, xX1_shareOut_109, xX1_shareOut_110, xX1_shareOut_113, xX1_shareOut_115, xX1_shareOut_117, xX1_shareOut_118, xX1_shareOut_121, xX1_shareOut_124, xX1_shareOut_125, xX1_shareOut_128, xX1_shareOut_129, xX1_shareOut_131, xX1_shareOut_132, xX1_shareOut_133, xX1_shareOut_136, xX1_shareOut_137, xX1_shareOut_138, xX1_shareOut_139, xX1_shareOut_140, xX1_shareOut_143, xX1_shareOut_144, xX1_shareOut_145, xX1_shareOut_146, xX1_shareOut_147, xX1_shareOut_148, xX1_shareOut_150, xX1_shareOut_153, xX1_shareOut_154, xX1_shareOut_157, xX1_shareOut_158, xX1_shareOut_159, xX1_shareOut_160, xX1_shareOut_161, xX1_shareOut_163, xX1_shareOut_164, xX1_shareOut_165, xX1_shareOut_167, xX1_shareOut_168, xX1_shareOut_169, xX1_shareOut_170, xX1_shareOut_171, xX1_shareOut_172, xX1_shareOut_173, xX1_shareOut_174, xX1_shareOut_175, xX1_shareOut_177, xX1_shareOut_180, xX1_shareOut_183, cK_some, ofR_some, ofR_none, Option.toList_some, Option.toList_none, List.cons_append, List.nil_append, isL_i, isL_r, isL_u, isL_2, cs_0, cs_i, cs_r, cs_l, cs_ii, cs_ir, cs_ri, cs_rr, cs_iir, cs_irr, ha_1, ha_2, ha_3, ha_4, ha_5, ha_6, ha_7, hs_1, hs_2, hs_3, hs_4, hs_5, hs_6, hs_7, hs_8, hs_9, hs_10, hs_11, hs_12, hs_13, hs_14, hs_15, hs_16, hs_17, hs_18, hs_19, hs_20, hs_21, hs_22, hs_23, hs_24, hs_25, hs_26, hs_27, hs_28, hs_29, hs_30, hs_31, hs_32, hs_33, hs_34, enP, e6, c1, c3, q1', hpas, hsub, r3', hsw, eaw, hmx, p1, c', Nat.add_sub_cancel, nI_lt, nI_nlt, nI_le, nI_ge, nI_pos, pk_sub, nI_clamp, s2_ne, s2_o, s2_s, nI_add, inb_n, nI_nn, zq0, zq1, ↓reduceIte]) (I := (I, .unset, .unset)) ⟨hL, hB, Fr.rf, fun _ _ => rfl, fun _ _ => rfl⟩
    try dsimp only at f1 p1 p2 p3 p4 p5
    refine ⟨z, ?_, p1, p2, p3, p4, p5⟩
    simp (disch := first | assumption | (simp (disch := omega) only [cK_some, ofR_some, ofR_none, Option.toList_some, Option.toList_none, List.cons_append, List.nil_append, isL_i, isL_r, isL_u, isL_2, cs_0, cs_i, cs_r, cs_l, cs_ii, cs_ir, cs_ri, cs_rr, cs_iir, cs_irr, ha_1, ha_2, ha_3, ha_4, ha_5, ha_6, ha_7, hs_1, hs_2, hs_3, hs_4, hs_5, hs_6, hs_7, hs_8, hs_9, hs_10, hs_11, hs_12, hs_13, hs_14, hs_15, hs_16, hs_17, hs_18, hs_19, hs_20, hs_21, hs_22, hs_23, hs_24, hs_25, hs_26, hs_27, hs_28, hs_29, hs_30, hs_31, hs_32, hs_33, hs_34, r2, inb_n, bq4, bq5, n100, not_false_eq_true, isB_0, isB_1, nI_clamp, nI_nneg, Nat.zero_add, Nat.le_refl]; done) | omega) only [xX1_shareOut_0, xX1_shareOut_1, xX1_shareOut_4, xX1_shareOut_7, xX1_shareOut_9, xX1_shareOut_10, xX1_shareOut_12, xX1_shareOut_15, xX1_shareOut_16, xX1_shareOut_18, xX1_shareOut_21, xX1_shareOut_22, xX1_shareOut_24, xX1_shareOut_27, xX1_shareOut_28, xX1_shareOut_31, xX1_shareOut_32, xX1_shareOut_33, xX1_shareOut_36, xX1_shareOut_37, xX1_shareOut_39, xX1_shareOut_42, xX1_shareOut_43, xX1_shareOut_44, xX1_shareOut_47, xX1_shareOut_48, xX1_shareOut_49, xX1_shareOut_50, xX1_shareOut_53, xX1_shareOut_54, xX1_shareOut_55, xX1_shareOut_56, xX1_shareOut_58, xX1_shareOut_59, cK_some, ofR_some, ofR_none, Option.toList_some, Option.toList_none, List.cons_append, List.nil_append, isL_i, isL_r, isL_u, isL_2, cs_0, cs_i, cs_r, cs_l, cs_ii, cs_ir, cs_ri, cs_rr, cs_iir, cs_irr, ha_1, ha_2, ha_3, ha_4, ha_5, ha_6, ha_7, hs_1, hs_2, hs_3, hs_4, hs_5, hs_6, hs_7, hs_8, hs_9, hs_10, hs_11, hs_12, hs_13, hs_14, hs_15, hs_16, hs_17, hs_18, hs_19, hs_20, hs_21, hs_22, hs_23, hs_24, hs_25, hs_26, hs_27, hs_28, hs_29, hs_30, hs_31, hs_32, hs_33, hs_34, rX1_shareOut, en, r1, eD, ewt, Nat.add_sub_cancel, nI_lt, nI_nlt, nI_le, nI_ge, nI_pos, pk_sub, nI_clamp, s2_ne, s2_o, s2_s, nI_add, inb_n, nI_nn, zq0, zq1, ↓reduceIte]
    refine Eq.trans f1 ?_
    have enP : z (s + 1) 1 = nI (hP h) := by rw [p3 _ (by unfold inShr; omega)]; exact hv.1.2.1
    rw [xX1_shareOut_61]
    simp (disch := first | assumption | (simp (disch := omega) only [cK_some, ofR_some, ofR_none, Option.toList_some, Option.toList_none, List.cons_append, List.nil_append, isL_i, isL_r, isL_u, isL_2, cs_0, cs_i, cs_r, cs_l, cs_ii, cs_ir, cs_ri, cs_rr, cs_iir, cs_irr, ha_1, ha_2, ha_3, ha_4, ha_5, ha_6, ha_7, hs_1, hs_2, hs_3, hs_4, hs_5, hs_6, hs_7, hs_8, hs_9, hs_10, hs_11, hs_12, hs_13, hs_14, hs_15, hs_16, hs_17, hs_18, hs_19, hs_20, hs_21, hs_22, hs_23, hs_24, hs_25, hs_26, hs_27, hs_28, hs_29, hs_30, hs_31, hs_32, hs_33, hs_34, inb_n, bq4, bq5, n100, not_false_eq_true, isB_0, isB_1, nI_clamp, nI_nneg, Nat.zero_add, Nat.le_refl]; done) | omega) only [xX1_shareOut_63, xX1_shareOut_64, xX1_shareOut_67, xX1_shareOut_70, xX1_shareOut_186, cK_some, ofR_some, ofR_none, Option.toList_some, Option.toList_none, List.cons_append, List.nil_append, isL_i, isL_r, isL_u, isL_2, cs_0, cs_i, cs_r, cs_l, cs_ii, cs_ir, cs_ri, cs_rr, cs_iir, cs_irr, ha_1, ha_2, ha_3, ha_4, ha_5, ha_6, ha_7, hs_1, hs_2, hs_3, hs_4, hs_5, hs_6, hs_7, hs_8, hs_9, hs_10, hs_11, hs_12, hs_13, hs_14, hs_15, hs_16, hs_17, hs_18, hs_19, hs_20, hs_21, hs_22, hs_23, hs_24, hs_25, hs_26, hs_27, hs_28, hs_29, hs_30, hs_31, hs_32, hs_33, hs_34, enP, Nat.add_sub_cancel, nI_lt, nI_nlt, nI_le, nI_ge, nI_pos, pk_sub, nI_clamp, s2_ne, s2_o, s2_s, nI_add, inb_n, nI_nn, zq0, zq1, ↓reduceIte]
