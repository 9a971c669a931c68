/-! the least of all orders -/
def Ch (G : Gm) (e : Nat) : Prop := gT G e = (11, 13) ∧ gR G e 8 = some (e + 1) ∧ gR G e 9 = some (e + 2) ∧ gR G e 10 = some (e + 3) ∧ gR G e 11 = some (e + 4) ∧ gR G e 12 = some (e + 5) ∧ gT G (e + 1) = (0, 6) ∧ gT G (e + 2) = (0, 6) ∧ gT G (e + 3) = (0, 6) ∧ gT G (e + 4) = (0, 6) ∧ gT G (e + 5) = (5, 7) ∧ (∀ k, k < 7 → gR G (e + 5) k = some (e + 6 + k) ∧ gT G (e + 6 + k) = (0, 6))
/-- the first least of n -/
def amin (f : Nat → Nat) (n : Nat) : Nat := fo 0 (fun m i => if f i < f m then i else m) n
theorem amin_s {f : Nat → Nat} {n : Nat} : amin f (n + 1) = if f n < f (amin f n) then n else amin f n := rfl
theorem amin_lt {f : Nat → Nat} : ∀ n, 0 < n → amin f n < n
  | 1, _ => by
    rw [amin_s]
    split
    · omega
    · show 0 < 1; omega
  | n + 2, _ => by
    have ih := amin_lt (f := f) (n + 1) (by omega)
    rw [amin_s]
    split
    · omega
    · omega
def endO (h : Sp) (q : Qp) (i : Nat) : Qp := wk h q (prm (hN h) i) (hN h)
def wvO (h : Sp) (q : Qp) (i : Nat) : Nat := mostD (endO h q i) (hN h)
def cvO (h : Sp) (q : Qp) (i : Nat) : Nat := sumC (endO h q i) (hN h)
def ABV : Nat := 1000000000
/-- a best of orders: its value in slot j, the order in cell c -/
def BoV (I : Im) (e j c N : Nat) (f : Nat → Nat) (i : Nat) : Prop := (i = 0 → I e j = nI ABV) ∧ (0 < i → I e j = nI (f (amin f i)) ∧ ∀ k, k < N → I c k = nI (prm N (amin f i) k))
theorem BoV.step {I I' : Im} {e j c N v lv : Nat} {f : Nat → Nat} {i : Nat} (h : BoV I e j c N f i) (hf : ∀ i, f i < ABV) (hv : v = f i) (hl : I e j = nI lv) (hlb : lv < 2 ^ 31) (h1 : I' e j = nI (if v < lv then v else lv)) (h2 : v < lv → ∀ k, k < N → I' c k = nI (prm N i k)) (h3 : ¬ v < lv → I' c = I c) : BoV I' e j c N f (i + 1) := by
  refine ⟨fun c => by omega, fun _ => ?_⟩
  have hb : ABV < 2 ^ 31 := by decide
  by_cases e0 : i = 0
  · subst e0
    have e1 := h.1 rfl
    rw [hl] at e1
    have e2 := (nI_eq hlb hb).mp e1
    have hlt : v < lv := by rw [e2, hv]; exact hf 0
    have ea : amin f (0 + 1) = 0 := by
      rw [amin_s]
      split
      · rfl
      · rfl
    rw [ea, h1, if_pos hlt, hv]
    exact ⟨rfl, h2 hlt⟩
  · obtain ⟨g1, g2⟩ := h.2 (by omega)
    rw [hl] at g1
    have e2 := (nI_eq hlb (by have := hf (amin f i); omega)).mp g1
    rw [amin_s, h1, ← e2, ← hv]
    by_cases c : v < lv
    · rw [if_pos c, if_pos c, hv]
      exact ⟨rfl, h2 c⟩
    · rw [if_neg c, if_neg c, e2]
      refine ⟨rfl, fun k hk => ?_⟩
      rw [h3 c]
      exact g2 k hk
theorem rn_chWeigh {d a s w e lw lc N : Nat} {h : Sp} {q : Qp} {o : Nat → Nat} {G : Gm} {I : Im} (he : Ch G e) (hw : Wk G w) (K : CT G I a s h q) (hN6 : N ≤ 6) (ho : OrV I w N o) (h3 : I e 3 = nI lw) (h4 : I e 4 = nI lc) (hlw : lw < 2 ^ 31) (hlc : lc < 2 ^ 31) (hC : sumC q (hN h) < 2 ^ 31) (hew : e + 12 < w ∨ w + 30 < e) (hes : e + 12 < s ∨ s + 81 < e) (hea : e + 12 < a ∨ a + 3 < e) :
    ∃ I', run (d + 1) mX1_weigh [.ref e, .ref s, .ref a, .ref (w + 1)] G I = some (none, G, I') ∧ I' e 3 = nI (if mostD q (hN h) < lw then mostD q (hN h) else lw) ∧ (mostD q (hN h) < lw → ∀ k, k < N → I' (e + 1) k = nI (o k)) ∧ (¬ mostD q (hN h) < lw → I' (e + 1) = I (e + 1)) ∧
      I' e 4 = nI (if sumC q (hN h) < lc then sumC q (hN h) else lc) ∧ (sumC q (hN h) < lc → ∀ k, k < N → I' (e + 2) k = nI (o k)) ∧ (¬ sumC q (hN h) < lc → I' (e + 2) = I (e + 2)) ∧ Fr (fun c => e ≤ c ∧ c ≤ e + 2) I I' ∧ (∀ j, j ≠ 3 → j ≠ 4 → I' e j = I e j) := by
  obtain ⟨e1, e2, e3, e4, e5, e6, e7, e8, -⟩ := he
  obtain ⟨w1, w2, w3, w4, -⟩ := hw
  obtain ⟨ha, hs, hd, hv, hsp, hq, hqo⟩ := id K
  have hmd := mostD_le hqo (hN h) (Nat.le_refl _)
  have r1 := rn_mostDrops (d := d) K
  have ha_1 := ha.1; have ha_2 := ha.2.1; have ha_3 := ha.2.2.1; have ha_4 := ha.2.2.2.1; have ha_5 := ha.2.2.2.2.1; have ha_6 := ha.2.2.2.2.2.1; have ha_7 := ha.2.2.2.2.2.2; have hs_1 := hs.1; have hs_2 := hs.2.1; have hs_3 := hs.2.2.1; have hs_4 := hs.2.2.2.1; have hs_5 := hs.2.2.2.2.1; have hs_6 := hs.2.2.2.2.2.1; have hs_7 := (hs.2.2.2.2.2.2.1).1; have hs_8 := (hs.2.2.2.2.2.2.1).2.1; have hs_9 := (hs.2.2.2.2.2.2.1).2.2.1; have hs_10 := (hs.2.2.2.2.2.2.1).2.2.2.1; have hs_11 := (hs.2.2.2.2.2.2.1).2.2.2.2.1; have hs_12 := (hs.2.2.2.2.2.2.1).2.2.2.2.2.1; have hs_13 := (hs.2.2.2.2.2.2.1).2.2.2.2.2.2.1; have hs_14 := (hs.2.2.2.2.2.2.1).2.2.2.2.2.2.2.1; have hs_15 := (hs.2.2.2.2.2.2.1).2.2.2.2.2.2.2.2.1; have hs_16 := (hs.2.2.2.2.2.2.1).2.2.2.2.2.2.2.2.2.1; have hs_17 := (hs.2.2.2.2.2.2.1).2.2.2.2.2.2.2.2.2.2.1; have hs_18 := (hs.2.2.2.2.2.2.1).2.2.2.2.2.2.2.2.2.2.2.1; have hs_19 := (hs.2.2.2.2.2.2.1).2.2.2.2.2.2.2.2.2.2.2.2; have hs_20 := (hs.2.2.2.2.2.2.2.1).1; have hs_21 := (hs.2.2.2.2.2.2.2.1).2.1; have hs_22 := (hs.2.2.2.2.2.2.2.1).2.2.1; have hs_23 := (hs.2.2.2.2.2.2.2.1).2.2.2.1; have hs_24 := (hs.2.2.2.2.2.2.2.1).2.2.2.2.1; have hs_25 := (hs.2.2.2.2.2.2.2.1).2.2.2.2.2.1; have hs_26 := (hs.2.2.2.2.2.2.2.1).2.2.2.2.2.2.1; have hs_27 := (hs.2.2.2.2.2.2.2.1).2.2.2.2.2.2.2.1; have hs_28 := (hs.2.2.2.2.2.2.2.1).2.2.2.2.2.2.2.2.1; have hs_29 := (hs.2.2.2.2.2.2.2.1).2.2.2.2.2.2.2.2.2.1; have hs_30 := (hs.2.2.2.2.2.2.2.1).2.2.2.2.2.2.2.2.2.2.1; have hs_31 := (hs.2.2.2.2.2.2.2.1).2.2.2.2.2.2.2.2.2.2.2.1; have hs_32 := (hs.2.2.2.2.2.2.2.1).2.2.2.2.2.2.2.2.2.2.2.2; have hs_33 := hs.2.2.2.2.2.2.2.2.1; have hs_34 := hs.2.2.2.2.2.2.2.2.2.2
  -- the second half
  have half : ∀ (z : Im) (x4 : Int32) (w5 : Slot), Fr (fun c => e ≤ c ∧ c ≤ e + 2) I z → z e 4 = nI lc → ∃ I', ex (d + 1) mX1_weigh 34 [.val (.ref e), .val (.ref s), .val (.ref a), .val (.ref (w + 1)), .val (.int x4), w5] [] G z = some (none, G, I') ∧
      I' e 4 = nI (if sumC q (hN h) < lc then sumC q (hN h) else lc) ∧ (sumC q (hN h) < lc → ∀ k, k < N → I' (e + 2) k = nI (o k)) ∧ (¬ sumC q (hN h) < lc → I' (e + 2) = z (e + 2)) ∧ I' (e + 1) = z (e + 1) ∧ Fr (fun c => e ≤ c ∧ c ≤ e + 2) I I' ∧ (∀ j, j ≠ 4 → I' e j = z e j) := by
    intro z w4' w5' hz h4
    have Kz : CT G z a s h q := K.fr (fun c hc => hz c (by unfold inSc at hc; omega))
    have r2 := rn_coldOfAll (d := d) Kz
    have hoz : OrV z w N o := fun k hk => by rw [hz _ (by omega)]; exact ho k hk
    by_cases c : sumC q (hN h) < lc
    · refine ⟨s1 (s2 z e 4 (nI (sumC q (hN h)))) (e + 2) (va_cpy (z (w + 1)) (z (e + 2)) (nI 0).toNatClampNeg (nI 0).toNatClampNeg (nI 6).toNatClampNeg), ?_, ?_, fun _ k hk => ?_, fun x => absurd c x, ?_, (hz.s2 ⟨by omega, by omega⟩).s1 ⟨by omega, by omega⟩, fun j hj => ?_⟩
      · simp (disch := first | assumption | (simp (disch := omega) only [cK_some, ofR_some, ofR_none, Option.toList_some, Option.toList_none, List.cons_append, List.nil_append, isL_i, isL_r, isL_u, isL_2, cs_0, cs_i, cs_r, cs_l, cs_ii, cs_ir, cs_ri, cs_rr, cs_iir, cs_irr, ha_1, ha_2, ha_3, ha_4, ha_5, ha_6, ha_7, hs_1, hs_2, hs_3, hs_4, hs_5, hs_6, hs_7, hs_8, hs_9, hs_10, hs_11, hs_12, hs_13, hs_14, hs_15, hs_16, hs_17, hs_18, hs_19, hs_20, hs_21, hs_22, hs_23, hs_24, hs_25, hs_26, hs_27, hs_28, hs_29, hs_30, hs_31, hs_32, hs_33, hs_34, e1, w4, e8, inb_n, bq4, bq5, n100, not_false_eq_true, isB_0, isB_1, nI_clamp, nI_nneg, Nat.zero_add, Nat.le_refl]; done) | omega) only [xX1_weigh_34, xX1_weigh_35, xX1_weigh_36, xX1_weigh_39, xX1_weigh_41, xX1_weigh_43, xX1_weigh_44, xX1_weigh_47, xX1_weigh_50, xX1_weigh_51, xX1_weigh_53, xX1_weigh_56, xX1_weigh_57, xX1_weigh_58, xX1_weigh_59, xX1_weigh_62, xX1_weigh_63, xX1_weigh_65, xX1_weigh_68, cK_some, ofR_some, ofR_none, Option.toList_some, Option.toList_none, List.cons_append, List.nil_append, isL_i, isL_r, isL_u, isL_2, cs_0, cs_i, cs_r, cs_l, cs_ii, cs_ir, cs_ri, cs_rr, cs_iir, cs_irr, ha_1, ha_2, ha_3, ha_4, ha_5, ha_6, ha_7, hs_1, hs_2, hs_3, hs_4, hs_5, hs_6, hs_7, hs_8, hs_9, hs_10, hs_11, hs_12, hs_13, hs_14, hs_15, hs_16, hs_17, hs_18, hs_19, hs_20, hs_21, hs_22, hs_23, hs_24, hs_25, hs_26, hs_27, hs_28, hs_29, hs_30, hs_31, hs_32, hs_33, hs_34, r2, h4, e3, s1_o, Nat.add_sub_cancel, nI_lt, nI_nlt, nI_le, nI_ge, nI_pos, pk_sub, nI_clamp, s2_ne, s2_o, s2_s, nI_add, inb_n, nI_nn, zq0, zq1, ↓reduceIte]
      · rw [if_pos c, s1_o (by omega), s2_s]
      · rw [s1_s, cpy6 (by omega)]; exact hoz k hk
      · rw [s1_o (by omega), s2_ne (by omega)]
      · rw [s1_o (by omega), s2_o hj]
    · refine ⟨z, ?_, by rw [if_neg c]; exact h4, fun x => absurd x c, fun _ => rfl, rfl, hz, fun _ _ => rfl⟩
      simp (disch := first | assumption | (simp (disch := omega) only [cK_some, ofR_some, ofR_none, Option.toList_some, Option.toList_none, List.cons_append, List.nil_append, isL_i, isL_r, isL_u, isL_2, cs_0, cs_i, cs_r, cs_l, cs_ii, cs_ir, cs_ri, cs_rr, cs_iir, cs_irr, ha_1, ha_2, ha_3, ha_4, ha_5, ha_6, ha_7, hs_1, hs_2, hs_3, hs_4, hs_5, hs_6, hs_7, hs_8, hs_9, hs_10, hs_11, hs_12, hs_13, hs_14, hs_15, hs_16, hs_17, hs_18, hs_19, hs_20, hs_21, hs_22, hs_23, hs_24, hs_25, hs_26, hs_27, hs_28, hs_29, hs_30, hs_31, hs_32, hs_33, hs_34, e1, inb_n, bq4, bq5, n100, not_false_eq_true, isB_0, isB_1, nI_clamp, nI_nneg, Nat.zero_add, Nat.le_refl]; done) | omega) only [xX1_weigh_34, xX1_weigh_35, xX1_weigh_36, xX1_weigh_39, xX1_weigh_41, xX1_weigh_43, xX1_weigh_44, xX1_weigh_47, xX1_weigh_50, xX1_weigh_51, xX1_weigh_53, xX1_weigh_56, xX1_weigh_57, xX1_weigh_58, xX1_weigh_59, xX1_weigh_62, xX1_weigh_63, xX1_weigh_65, xX1_weigh_68, cK_some, ofR_some, ofR_none, Option.toList_some, Option.toList_none, List.cons_append, List.nil_append, isL_i, isL_r, isL_u, isL_2, cs_0, cs_i, cs_r, cs_l, cs_ii, cs_ir, cs_ri, cs_rr, cs_iir, cs_irr, ha_1, ha_2, ha_3, ha_4, ha_5, ha_6, ha_7, hs_1, hs_2, hs_3, hs_4, hs_5, hs_6, hs_7, hs_8, hs_9, hs_10, hs_11, hs_12, hs_13, hs_14, hs_15, hs_16, hs_17, hs_18, hs_19, hs_20, hs_21, hs_22, hs_23, hs_24, hs_25, hs_26, hs_27, hs_28, hs_29, hs_30, hs_31, hs_32, hs_33, hs_34, r2, h4, Nat.add_sub_cancel, nI_lt, nI_nlt, nI_le, nI_ge, nI_pos, pk_sub, nI_clamp, s2_ne, s2_o, s2_s, nI_add, inb_n, nI_nn, zq0, zq1, ↓reduceIte]
  by_cases c : mostD q (hN h) < lw
  · have hf : Fr (fun c => e ≤ c ∧ c ≤ e + 2) I (s1 (s2 I e 3 (nI (mostD q (hN h)))) (e + 1) (va_cpy (I (w + 1)) (I (e + 1)) (nI 0).toNatClampNeg (nI 0).toNatClampNeg (nI 6).toNatClampNeg)) := (Fr.rf.s2 ⟨by omega, by omega⟩).s1 ⟨by omega, by omega⟩
    obtain ⟨I', f1, f2, f3, f4, f5, f6, f7⟩ := half _ (nI (mostD q (hN h))) .unset hf (by rw [s1_o (by omega), s2_o (by decide)]; exact h4)
    refine ⟨I', ?_, ?_, fun _ k hk => ?_, fun x => absurd c x, f2, f3, fun x => ?_, f6, fun j h1 h2 => ?_⟩
    · simp (disch := first | assumption | (simp (disch := omega) only [cK_some, ofR_some, ofR_none, Option.toList_some, Option.toList_none, List.cons_append, List.nil_append, isL_i, isL_r, isL_u, isL_2, cs_0, cs_i, cs_r, cs_l, cs_ii, cs_ir, cs_ri, cs_rr, cs_iir, cs_irr, ha_1, ha_2, ha_3, ha_4, ha_5, ha_6, ha_7, hs_1, hs_2, hs_3, hs_4, hs_5, hs_6, hs_7, hs_8, hs_9, hs_10, hs_11, hs_12, hs_13, hs_14, hs_15, hs_16, hs_17, hs_18, hs_19, hs_20, hs_21, hs_22, hs_23, hs_24, hs_25, hs_26, hs_27, hs_28, hs_29, hs_30, hs_31, hs_32, hs_33, hs_34, e1, w4, e7, inb_n, bq4, bq5, n100, not_false_eq_true, isB_0, isB_1, nI_clamp, nI_nneg, Nat.zero_add, Nat.le_refl]; done) | omega) only [xX1_weigh_0, xX1_weigh_1, xX1_weigh_2, xX1_weigh_5, xX1_weigh_7, xX1_weigh_9, xX1_weigh_10, xX1_weigh_13, xX1_weigh_16, xX1_weigh_17, xX1_weigh_19, xX1_weigh_22, xX1_weigh_23, xX1_weigh_24, xX1_weigh_25, xX1_weigh_28, xX1_weigh_29, xX1_weigh_31, cK_some, ofR_some, ofR_none, Option.toList_some, Option.toList_none, List.cons_append, List.nil_append, isL_i, isL_r, isL_u, isL_2, cs_0, cs_i, cs_r, cs_l, cs_ii, cs_ir, cs_ri, cs_rr, cs_iir, cs_irr, ha_1, ha_2, ha_3, ha_4, ha_5, ha_6, ha_7, hs_1, hs_2, hs_3, hs_4, hs_5, hs_6, hs_7, hs_8, hs_9, hs_10, hs_11, hs_12, hs_13, hs_14, hs_15, hs_16, hs_17, hs_18, hs_19, hs_20, hs_21, hs_22, hs_23, hs_24, hs_25, hs_26, hs_27, hs_28, hs_29, hs_30, hs_31, hs_32, hs_33, hs_34, rX1_weigh, r1, h3, e2, s1_o, Nat.add_sub_cancel, nI_lt, nI_nlt, nI_le, nI_ge, nI_pos, pk_sub, nI_clamp, s2_ne, s2_o, s2_s, nI_add, inb_n, nI_nn, zq0, zq1, ↓reduceIte]
      rw [nI_clamp (by omega), nI_clamp (by omega)] at f1
      exact f1
    · rw [f7 3 (by decide), if_pos c, s1_o (by omega), s2_s]
    · rw [f5, s1_s, cpy6 (by omega)]; exact ho k hk
    · rw [f4 x, s1_o (by omega), s2_ne (by omega)]
    · rw [f7 j h2, s1_o (by omega), s2_o h1]
  · obtain ⟨I', f1, f2, f3, f4, f5, f6, f7⟩ := half I (nI (mostD q (hN h))) .unset Fr.rf h4
    refine ⟨I', ?_, ?_, fun x => absurd x c, fun _ => f5, f2, f3, f4, f6, fun j h1 h2 => f7 j h2⟩
    · simp (disch := first | assumption | (simp (disch := omega) only [cK_some, ofR_some, ofR_none, Option.toList_some, Option.toList_none, List.cons_append, List.nil_append, isL_i, isL_r, isL_u, isL_2, cs_0, cs_i, cs_r, cs_l, cs_ii, cs_ir, cs_ri, cs_rr, cs_iir, cs_irr, ha_1, ha_2, ha_3, ha_4, ha_5, ha_6, ha_7, hs_1, hs_2, hs_3, hs_4, hs_5, hs_6, hs_7, hs_8, hs_9, hs_10, hs_11, hs_12, hs_13, hs_14, hs_15, hs_16, hs_17, hs_18, hs_19, hs_20, hs_21, hs_22, hs_23, hs_24, hs_25, hs_26, hs_27, hs_28, hs_29, hs_30, hs_31, hs_32, hs_33, hs_34, e1, inb_n, bq4, bq5, n100, not_false_eq_true, isB_0, isB_1, nI_clamp, nI_nneg, Nat.zero_add, Nat.le_refl]; done) | omega) only [xX1_weigh_0, xX1_weigh_1, xX1_weigh_2, xX1_weigh_5, xX1_weigh_7, xX1_weigh_9, xX1_weigh_10, xX1_weigh_13, xX1_weigh_16, xX1_weigh_17, xX1_weigh_19, xX1_weigh_22, xX1_weigh_23, xX1_weigh_24, xX1_weigh_25, xX1_weigh_28, xX1_weigh_29, xX1_weigh_31, cK_some, ofR_some, ofR_none, Option.toList_some, Option.toList_none, List.cons_append, List.nil_append, isL_i, isL_r, isL_u, isL_2, cs_0, cs_i, cs_r, cs_l, cs_ii, cs_ir, cs_ri, cs_rr, cs_iir, cs_irr, ha_1, ha_2, ha_3, ha_4, ha_5, ha_6, ha_7, hs_1, hs_2, hs_3, hs_4, hs_5, hs_6, hs_7, hs_8, hs_9, hs_10, hs_11, hs_12, hs_13, hs_14, hs_15, hs_16, hs_17, hs_18, hs_19, hs_20, hs_21, hs_22, hs_23, hs_24, hs_25, hs_26, hs_27, hs_28, hs_29, hs_30, hs_31, hs_32, hs_33, hs_34, rX1_weigh, r1, h3, Nat.add_sub_cancel, nI_lt, nI_nlt, nI_le, nI_ge, nI_pos, pk_sub, nI_clamp, s2_ne, s2_o, s2_s, nI_add, inb_n, nI_nn, zq0, zq1, ↓reduceIte]
      exact f1
    · rw [f7 3 (by decide), if_neg c]; exact h3

theorem arrO_id {f : Nat → Nat} (hf : ∀ a b, f a = f b) : ∀ n k, k < n → arrO f n k = k
  | 0, k, h => absurd h (by omega)
  | n + 1, k, h => by
    show insO (arrO f n) n (plc f (arrO f n) n n) k = k
    have hp : ∀ o m, plc f o n m = m := by
      intro o m
      cases m with
      | zero => rfl
      | succ m =>
        show (if f n < f (o m) then plc f o n m else m + 1) = m + 1
        rw [if_neg (by rw [hf n (o m)]; exact Nat.lt_irrefl _)]
    rw [hp]
    unfold insO
    by_cases c : k < n
    · rw [if_pos c]; exact arrO_id hf n k c
    · rw [if_neg c, if_pos (by omega)]; omega
theorem wk_congr {h : Sp} {q : Qp} {o o' : Nat → Nat} : ∀ k, (∀ j, j < k → o j = o' j) → wk h q o k = wk h q o' k
  | 0, _ => rfl
  | k + 1, he => by
    show wipeP h (wk h q o k) (o k) (leastP (wk h q o k) (hP h - 1)) = wipeP h (wk h q o' k) (o' k) (leastP (wk h q o' k) (hP h - 1))
    rw [wk_congr k (fun j hj => he j (by omega)), he k (by omega)]
theorem WkV.congr {G : Gm} {I : Im} {w s m : Nat} {h : Sp} {q : Qp} {o o' : Nat → Nat} (H : WkV G I w s h q o m) (he : ∀ j, j < m → o j = o' j) : WkV G I w s h q o' m := fun k hk => by
  rw [← wk_congr k (fun j hj => he j (by omega))]
  exact H k hk
theorem WkV.fr {G : Gm} {I I' : Im} {w s m : Nat} {h : Sp} {q : Qp} {o : Nat → Nat} (H : WkV G I w s h q o m) (hm : m ≤ 6) (hf : ∀ c, (s ≤ c ∧ c ≤ s + 14) ∨ inWk w c → I' c = I c) : WkV G I' w s h q o m := fun k hk =>
  (H k hk).fr (fun c hc => hf c (by unfold inSc at hc; unfold inWk; omega))
/-- what passes in all orders -/
def OrdOk (h : Sp) (q : Qp) : Prop := ∀ i, cvO h q i < ABV
def inCh (e c : Nat) : Prop := e ≤ c ∧ c ≤ e + 12
/-- the least of all orders, known -/
def ChO (I : Im) (e : Nat) (h : Sp) (q : Qp) : Prop := BoV I e 3 (e + 1) (hN h) (wvO h q) (prN (hN h)) ∧ BoV I e 4 (e + 2) (hN h) (cvO h q) (prN (hN h))
theorem minB_D {h : Sp} {q : Qp} {b : Nat} : ∀ j, qD (minB h q b) j ≤ qD q j := by
  intro j
  show up (qD q) b _ j ≤ _
  unfold up
  split
  · rename_i e; rw [e]; exact Nat.sub_le _ _
  · exact Nat.le_refl _
theorem wk_ok {h : Sp} {q : Qp} {o : Nat → Nat} (ho : SpOk h) (hP0 : 0 < hP h) (hq : QpOk h q) (hol : ∀ k, k < hN h → o k < hN h) : ∀ k, k ≤ hN h → QpOk h (wk h q o k)
  | 0, _ => hq
  | k + 1, hk => wipeP_ok ho (wk_ok ho hP0 hq hol k (by omega)) (hol k (by omega)) (leastP_lt hP0 _ (Nat.le_refl _))
theorem prm_in {n i k : Nat} (h0 : 0 < n) (hn : n ≤ 6) (hk : k < n) : prm n i k < n := by
  by_cases c : i < prN n
  · exact prm_lt hn c hk
  · have e : (TT n).getD i 0 = 0 := by
      rw [List.getD_eq_getElem?_getD, List.getElem?_eq_none (by unfold prN at c; omega)]
      rfl
    unfold prm oc
    rw [e, Nat.zero_div]
    omega
theorem wvO_le {h : Sp} {q : Qp} (ho : SpOk h) (hN0 : 0 < hN h) (hP0 : 0 < hP h) (hq : QpOk h q) (i : Nat) : wvO h q i ≤ 99 :=
  mostD_le (wk_ok ho hP0 hq (fun k hk => prm_in hN0 ho.1 hk) (hN h) (Nat.le_refl _)) (hN h) (Nat.le_refl _)
theorem rn_learnOrders0 {d a s w e : Nat} {G : Gm} {I : Im} (he : Ch G e) (h1 : I e 0 = nI 1) : run d mX1_learnOrders [.ref e, .ref s, .ref a, .ref w] G I = some (none, G, I) := by
  obtain ⟨e1, -⟩ := he
  have := True.intro
  simp (disch := first | assumption | (simp (disch := omega) only [cK_some, ofR_some, ofR_none, Option.toList_some, Option.toList_none, List.cons_append, List.nil_append, isL_i, isL_r, isL_u, isL_2, cs_0, cs_i, cs_r, cs_l, cs_ii, cs_ir, cs_ri, cs_rr, cs_iir, cs_irr, e1, inb_n, bq4, bq5, n100, not_false_eq_true, isB_0, isB_1, nI_clamp, nI_nneg, Nat.zero_add, Nat.le_refl]; done) | omega) only [xX1_learnOrders_0, xX1_learnOrders_1, xX1_learnOrders_4, xX1_learnOrders_7, xX1_learnOrders_8, xX1_learnOrders_9, xX1_learnOrders_10, xX1_learnOrders_13, xX1_learnOrders_14, xX1_learnOrders_16, xX1_learnOrders_19, xX1_learnOrders_20, xX1_learnOrders_22, xX1_learnOrders_25, xX1_learnOrders_26, xX1_learnOrders_27, xX1_learnOrders_28, xX1_learnOrders_29, xX1_learnOrders_32, xX1_learnOrders_33, xX1_learnOrders_34, xX1_learnOrders_37, xX1_learnOrders_38, xX1_learnOrders_39, xX1_learnOrders_40, xX1_learnOrders_43, xX1_learnOrders_45, xX1_learnOrders_46, xX1_learnOrders_48, xX1_learnOrders_49, xX1_learnOrders_51, xX1_learnOrders_53, xX1_learnOrders_56, xX1_learnOrders_59, xX1_learnOrders_61, xX1_learnOrders_62, xX1_learnOrders_65, xX1_learnOrders_66, xX1_learnOrders_67, xX1_learnOrders_69, xX1_learnOrders_70, xX1_learnOrders_73, xX1_learnOrders_76, xX1_learnOrders_77, xX1_learnOrders_78, xX1_learnOrders_81, xX1_learnOrders_84, xX1_learnOrders_87, xX1_learnOrders_89, xX1_learnOrders_91, xX1_learnOrders_92, xX1_learnOrders_95, xX1_learnOrders_96, xX1_learnOrders_97, xX1_learnOrders_99, xX1_learnOrders_102, xX1_learnOrders_104, xX1_learnOrders_107, xX1_learnOrders_110, cK_some, ofR_some, ofR_none, Option.toList_some, Option.toList_none, List.cons_append, List.nil_append, isL_i, isL_r, isL_u, isL_2, cs_0, cs_i, cs_r, cs_l, cs_ii, cs_ir, cs_ri, cs_rr, cs_iir, cs_irr, rX1_learnOrders, h1, Nat.add_sub_cancel, nI_lt, nI_nlt, nI_le, nI_ge, nI_pos, pk_sub, nI_clamp, s2_ne, s2_o, s2_s, nI_add, inb_n, nI_nn, zq0, zq1, ↓reduceIte]
theorem rn_learnOrders {d a s w e : Nat} {h : Sp} {q : Qp} {bz : Nat → Nat} {G : Gm} {I : Im} (he : Ch G e) (hw : Wk G w) (K : CT G I a s h q) (hz : SzV I s h bz) (hN0 : 0 < hN h) (hP0 : 0 < hP h) (hok : OrdOk h q) (h0 : I e 0 = nI 0)
    (hew : e + 12 < w ∨ w + 30 < e) (hes : e + 12 < s ∨ s + 81 < e) (hea : e + 12 < a ∨ a + 3 < e) (hws : offW w s) (hwa : w + 30 < a ∨ a + 3 < w) :
    ∃ I', run (d + 4) mX1_learnOrders [.ref e, .ref s, .ref a, .ref w] G I = some (none, G, I') ∧ I' e 0 = nI 1 ∧ ChO I' e h q ∧ (∀ j, j ≠ 0 → j ≠ 3 → j ≠ 4 → I' e j = I e j) ∧ Fr (fun c => (e ≤ c ∧ c ≤ e + 2) ∨ (w ≤ c ∧ c ≤ w + 30)) I I' := by
  have he' := he
  have hw' := hw
  obtain ⟨e1, e2, e3, e4, e5, e6, e7, e8, -⟩ := he'
  obtain ⟨w1, w2, w3, w4, w5, w6⟩ := hw'
  obtain ⟨ha, hs, hd, hv, hsp, hq, hqo⟩ := id K
  have hN6 := hsp.1
  obtain ⟨hM0, hM⟩ := prN_pos hN0 hN6
  unfold offW at hws
  have ha_1 := ha.1; have ha_2 := ha.2.1; have ha_3 := ha.2.2.1; have ha_4 := ha.2.2.2.1; have ha_5 := ha.2.2.2.2.1; have ha_6 := ha.2.2.2.2.2.1; have ha_7 := ha.2.2.2.2.2.2; have hs_1 := hs.1; have hs_2 := hs.2.1; have hs_3 := hs.2.2.1; have hs_4 := hs.2.2.2.1; have hs_5 := hs.2.2.2.2.1; have hs_6 := hs.2.2.2.2.2.1; have hs_7 := (hs.2.2.2.2.2.2.1).1; have hs_8 := (hs.2.2.2.2.2.2.1).2.1; have hs_9 := (hs.2.2.2.2.2.2.1).2.2.1; have hs_10 := (hs.2.2.2.2.2.2.1).2.2.2.1; have hs_11 := (hs.2.2.2.2.2.2.1).2.2.2.2.1; have hs_12 := (hs.2.2.2.2.2.2.1).2.2.2.2.2.1; have hs_13 := (hs.2.2.2.2.2.2.1).2.2.2.2.2.2.1; have hs_14 := (hs.2.2.2.2.2.2.1).2.2.2.2.2.2.2.1; have hs_15 := (hs.2.2.2.2.2.2.1).2.2.2.2.2.2.2.2.1; have hs_16 := (hs.2.2.2.2.2.2.1).2.2.2.2.2.2.2.2.2.1; have hs_17 := (hs.2.2.2.2.2.2.1).2.2.2.2.2.2.2.2.2.2.1; have hs_18 := (hs.2.2.2.2.2.2.1).2.2.2.2.2.2.2.2.2.2.2.1; have hs_19 := (hs.2.2.2.2.2.2.1).2.2.2.2.2.2.2.2.2.2.2.2; have hs_20 := (hs.2.2.2.2.2.2.2.1).1; have hs_21 := (hs.2.2.2.2.2.2.2.1).2.1; have hs_22 := (hs.2.2.2.2.2.2.2.1).2.2.1; have hs_23 := (hs.2.2.2.2.2.2.2.1).2.2.2.1; have hs_24 := (hs.2.2.2.2.2.2.2.1).2.2.2.2.1; have hs_25 := (hs.2.2.2.2.2.2.2.1).2.2.2.2.2.1; have hs_26 := (hs.2.2.2.2.2.2.2.1).2.2.2.2.2.2.1; have hs_27 := (hs.2.2.2.2.2.2.2.1).2.2.2.2.2.2.2.1; have hs_28 := (hs.2.2.2.2.2.2.2.1).2.2.2.2.2.2.2.2.1; have hs_29 := (hs.2.2.2.2.2.2.2.1).2.2.2.2.2.2.2.2.2.1; have hs_30 := (hs.2.2.2.2.2.2.2.1).2.2.2.2.2.2.2.2.2.2.1; have hs_31 := (hs.2.2.2.2.2.2.2.1).2.2.2.2.2.2.2.2.2.2.2.1; have hs_32 := (hs.2.2.2.2.2.2.2.1).2.2.2.2.2.2.2.2.2.2.2.2; have hs_33 := hs.2.2.2.2.2.2.2.2.1; have hs_34 := hs.2.2.2.2.2.2.2.2.2.2
  have hl5 : ∀ x : Int32, isLong (some (.val (.int x))) = false := fun _ => rfl
  -- ahead of the loop
  have hf0 : Fr (fun c => (e ≤ c ∧ c ≤ e + 2) ∨ (w ≤ c ∧ c ≤ w + 30)) I (s2 (s2 (s2 I e 0 (nI 1)) e 3 (nI 1000000000)) e 4 (nI 1000000000)) := ((Fr.rf.s2 (Or.inl ⟨by omega, by omega⟩)).s2 (Or.inl ⟨by omega, by omega⟩)).s2 (Or.inl ⟨by omega, by omega⟩)
  have K0 : CT G (s2 (s2 (s2 I e 0 (nI 1)) e 3 (nI 1000000000)) e 4 (nI 1000000000)) a s h q := K.fr (fun c hc => hf0 c (by unfold inSc at hc; omega))
  have hz0 : SzV (s2 (s2 (s2 I e 0 (nI 1)) e 3 (nI 1000000000)) e 4 (nI 1000000000)) s h bz := by unfold SzV; rw [hf0 _ (by omega)]; exact hz
  obtain ⟨x1, a1, a2, a3⟩ := rn_arrange (d := d + 2) (r := 0) hw K0 hz0 (by omega) (by omega) (by omega)
  have K1 : CT G x1 a s h q := K0.fr (fun c hc => a3 c (by unfold inSc at hc; omega))
  obtain ⟨x2, b1, b2, b3⟩ := rn_leave (d := d + 2) hw K1 hws (by unfold offSc; omega)
  have hid := arrO_id (f := rk h bz q 0) (fun _ _ => rfl)
  have ho2 : OrV x2 w (hN h) (prm (hN h) 0) := fun k hk => by
    rw [b3 _ (by unfold inSc; omega), a2 k hk, hid _ k hk, prm_0 hN6 hk]
  have hW0 : WkV G x2 w s h q (prm (hN h) 0) 0 := fun k hk => by
    rw [show k = 0 by omega]
    exact b2
  obtain ⟨x3, c1, c2, c3⟩ := rn_goOn (d := d) (p := 0) hw hws hP0 ho2 (fun k hk => prm_lt hN6 hM0 hk) (by omega) hW0
  have ho3 : OrV x3 w (hN h) (prm (hN h) 0) := fun k hk => by rw [c3 _ (by unfold inWk; omega)]; exact ho2 k hk
  have hf3 : Fr (fun c => (e ≤ c ∧ c ≤ e + 2) ∨ (w ≤ c ∧ c ≤ w + 30)) I x3 := (hf0.tr (a3.mono (fun c hc => by omega))).tr ((b3.mono (fun c hc => by unfold inSc at hc; omega)).tr (c3.mono (fun c hc => by unfold inWk at hc; omega)))
  have hx3 : ∀ j, x3 e j = s2 (s2 (s2 I e 0 (nI 1)) e 3 (nI 1000000000)) e 4 (nI 1000000000) e j := fun j => by rw [c3 _ (by unfold inWk; omega), b3 _ (by unfold inSc; omega), a3 _ (by omega)]
  -- one order weighed
  have one : ∀ i (z : Im), i < prN (hN h) → OrV z w (hN h) (prm (hN h) i) → WkV G z w s h q (prm (hN h) i) (hN h) → BoV z e 3 (e + 1) (hN h) (wvO h q) i → BoV z e 4 (e + 2) (hN h) (cvO h q) i → ∃ I', run (d + 3) mX1_weigh [.ref e, .ref s, .ref (w + 3 + 4 * hN h), .ref (w + 1)] G z = some (none, G, I') ∧ OrV I' w (hN h) (prm (hN h) i) ∧ WkV G I' w s h q (prm (hN h) i) (hN h) ∧ BoV I' e 3 (e + 1) (hN h) (wvO h q) (i + 1) ∧ BoV I' e 4 (e + 2) (hN h) (cvO h q) (i + 1) ∧ Fr (fun c => e ≤ c ∧ c ≤ e + 2) z I' ∧ (∀ j, j ≠ 3 → j ≠ 4 → I' e j = z e j) := by
    intro i z hi h1 h2 h3 h4
    have KE := h2 (hN h) (Nat.le_refl _)
    have hw99 : ∀ i, i < prN (hN h) → wvO h q i ≤ 99 := fun i hi => mostD_le (wk_ok hsp hP0 hqo (fun k hk => prm_lt hN6 hi hk) (hN h) (Nat.le_refl _)) (hN h) (Nat.le_refl _)
    have ex3 : ∃ lw, z e 3 = nI lw ∧ lw < 2 ^ 31 := by
      by_cases c : i = 0
      · exact ⟨ABV, h3.1 c, by decide⟩
      · refine ⟨_, (h3.2 (by omega)).1, ?_⟩
        have := hw99 (amin (wvO h q) i) (Nat.lt_trans (amin_lt i (by omega)) hi)
        omega
    have ex4 : ∃ lc, z e 4 = nI lc ∧ lc < 2 ^ 31 := by
      by_cases c : i = 0
      · exact ⟨ABV, h4.1 c, by decide⟩
      · refine ⟨_, (h4.2 (by omega)).1, ?_⟩
        have := hok (amin (cvO h q) i)
        have hb : ABV < 2 ^ 31 := by decide
        omega
    obtain ⟨lw, l1, l2⟩ := ex3
    obtain ⟨lc, l3, l4⟩ := ex4
    have hci := hok i
    have hb : ABV < 2 ^ 31 := by decide
    obtain ⟨I', g1, g2, g3, g4, g5, g6, g7, g8, g9⟩ := rn_chWeigh (d := d + 2) (N := hN h) he hw KE hN6 h1 l1 l3 l2 l4 (Nat.lt_trans hci hb) hew hes (by omega)
    refine ⟨I', g1, fun k hk => by rw [g8 _ (by omega)]; exact h1 k hk, h2.fr hN6 (fun c hc => g8 c (by unfold inWk at hc; omega)), ?_, ?_, g8, g9⟩
    · exact h3.step (fun i => Nat.lt_of_le_of_lt (wvO_le hsp hN0 hP0 hqo i) (by decide)) rfl l1 l2 g2 g3 g4
    · exact h4.step hok rfl l3 l4 g5 g6 g7
  -- the loop
  obtain ⟨⟨z, pl⟩, f1, p1, p2, p3, p4, p5, p6, p7⟩ := chainE (fun i (z : Im × Nat) => ex (d + 4) mX1_learnOrders 51 [.val (.ref e), .val (.ref s), .val (.ref a), .val (.ref w), .val (.ref (w + 3 + 4 * hN h)), .val (.int (nI z.2)), .val (.int (nI i))] [] G z.1) (fun i z => OrV z.1 w (hN h) (prm (hN h) i) ∧ WkV G z.1 w s h q (prm (hN h) i) (hN h) ∧ BoV z.1 e 3 (e + 1) (hN h) (wvO h q) i ∧ BoV z.1 e 4 (e + 2) (hN h) (cvO h q) i ∧ Fr (fun c => (e ≤ c ∧ c ≤ e + 2) ∨ (w ≤ c ∧ c ≤ w + 30)) I z.1 ∧ (∀ j, j ≠ 3 → j ≠ 4 → z.1 e j = x3 e j) ∧ z.2 < 7) (prN (hN h) - 1) (fun i hi z hz => by
    obtain ⟨z, pl⟩ := z
    obtain ⟨p1, p2, p3, p4, p5, p6, p7⟩ := hz
    try dsimp only at p1 p2 p3 p4 p5 p6 p7 ⊢
    obtain ⟨y, g1, g2, g3, g4, g5, g6, g7⟩ := one i z (by omega) p1 p2 p3 p4
    obtain ⟨p, o, n1, n2, n3, n4⟩ := prm_nx (n := hN h) (i := i) hN6 (by omega)
    obtain ⟨u, k1, k2, -, k3⟩ := rn_change (d := d + 2) hw hN0 hN6 g2 (fun k hk => prm_in hN0 hN6 hk)
    rw [n1] at k1
    have hou : OrV u w (hN h) (prm (hN h) (i + 1)) := fun k hk => by rw [(k2 p o n1).1 k hk, n3 k hk]
    have hWu : WkV G u w s h q (prm (hN h) (i + 1)) p := by
      have h1 : WkV G u w s h q (prm (hN h) i) (hN h) := g3.fr hN6 (fun c hc => k3 c (by unfold inWk at hc; omega))
      exact WkV.congr (fun k hk => h1 k (by omega)) (fun j hj => (n4 j hj).symm)
    obtain ⟨v, m1, m2, m3⟩ := rn_goOn (d := d) (p := p) hw hws hP0 hou (fun k hk => prm_in hN0 hN6 hk) (by omega) hWu
    have huy : ∀ c, c ≠ w + 1 → u c = y c := fun c hc => k3 c hc
    have hev : ∀ c, e ≤ c → c ≤ e + 2 → v c = y c := fun c h1 h2 => by rw [m3 c (by unfold inWk; omega), huy c (by omega)]
    have eny : y (s + 8) 0 = nI (hN h) := (g3 0 (by omega)).2.2.2.1.1.1
    have enp : ¬ nI pl = -1 := by
      intro z
      have h1 := nI_toInt (show pl < 2 ^ 31 by omega)
      rw [z] at h1
      have h2 : (-1 : Int32).toInt = -1 := by decide
      omega
    have enp2 : ¬ nI p = -1 := by
      intro z
      have h1 := nI_toInt (show p < 2 ^ 31 by omega)
      rw [z] at h1
      have h2 : (-1 : Int32).toInt = -1 := by decide
      omega
    have k1' : run (d + 3) mX10_change [.ref w, .int (nI (hN h))] G y = some (some (.int (nI p)), G, u) := k1
    refine ⟨(v, p), ?_, fun k hk => by show v (w + 1) k = _; rw [m3 _ (by unfold inWk; omega)]; exact hou k hk, m2, ?_, ?_, ?_, fun j h1 h2 => ?_, by omega⟩
    · rw [xX1_learnOrders_51]
      simp (disch := first | assumption | (simp (disch := omega) only [cK_some, ofR_some, ofR_none, Option.toList_some, Option.toList_none, List.cons_append, List.nil_append, isL_i, isL_r, isL_u, isL_2, cs_0, cs_i, cs_r, cs_l, cs_ii, cs_ir, cs_ri, cs_rr, cs_iir, cs_irr, ha_1, ha_2, ha_3, ha_4, ha_5, ha_6, ha_7, hs_1, hs_2, hs_3, hs_4, hs_5, hs_6, hs_7, hs_8, hs_9, hs_10, hs_11, hs_12, hs_13, hs_14, hs_15, hs_16, hs_17, hs_18, hs_19, hs_20, hs_21, hs_22, hs_23, hs_24, hs_25, hs_26, hs_27, hs_28, hs_29, hs_30, hs_31, hs_32, hs_33, hs_34, w1, e1, inb_n, bq4, bq5, n100, not_false_eq_true, isB_0, isB_1, nI_clamp, nI_nneg, Nat.zero_add, Nat.le_refl]; done) | omega) only [xX1_learnOrders_53, xX1_learnOrders_56, xX1_learnOrders_59, xX1_learnOrders_61, xX1_learnOrders_62, xX1_learnOrders_65, xX1_learnOrders_66, xX1_learnOrders_67, xX1_learnOrders_69, xX1_learnOrders_70, xX1_learnOrders_73, xX1_learnOrders_76, xX1_learnOrders_77, xX1_learnOrders_78, xX1_learnOrders_81, xX1_learnOrders_84, xX1_learnOrders_87, xX1_learnOrders_89, xX1_learnOrders_91, xX1_learnOrders_92, xX1_learnOrders_95, xX1_learnOrders_96, xX1_learnOrders_97, xX1_learnOrders_99, xX1_learnOrders_102, xX1_learnOrders_104, xX1_learnOrders_107, cK_some, ofR_some, ofR_none, Option.toList_some, Option.toList_none, List.cons_append, List.nil_append, isL_i, isL_r, isL_u, isL_2, cs_0, cs_i, cs_r, cs_l, cs_ii, cs_ir, cs_ri, cs_rr, cs_iir, cs_irr, ha_1, ha_2, ha_3, ha_4, ha_5, ha_6, ha_7, hs_1, hs_2, hs_3, hs_4, hs_5, hs_6, hs_7, hs_8, hs_9, hs_10, hs_11, hs_12, hs_13, hs_14, hs_15, hs_16, hs_17, hs_18, hs_19, hs_20, hs_21, hs_22, hs_23, hs_24, hs_25, hs_26, hs_27, hs_28, hs_29, hs_30, hs_31, hs_32, hs_33, hs_34, enp, w2, g1, eny, k1', enp2, m1, hl5, Nat.add_sub_cancel, nI_lt, nI_nlt, nI_le, nI_ge, nI_pos, pk_sub, nI_clamp, s2_ne, s2_o, s2_s, nI_add, inb_n, nI_nn, zq0, zq1, ↓reduceIte]
    · unfold BoV; try dsimp only
      rw [hev e (by omega) (by omega), hev (e + 1) (by omega) (by omega)]; exact g4
    · unfold BoV; try dsimp only
      rw [hev e (by omega) (by omega), hev (e + 2) (by omega) (by omega)]; exact g5
    · exact p5.tr ((g6.mono (fun c hc => Or.inl hc)).tr ((k3.mono (fun c hc => by omega)).tr (m3.mono (fun c hc => by unfold inWk at hc; omega))))
    · show v e j = x3 e j
      rw [hev e (by omega) (by omega), g7 j h1 h2]; exact p6 j h1 h2) (I := (x3, 0)) ⟨ho3, c2, ⟨fun _ => by show x3 e 3 = _; rw [hx3, s2_o (by decide), s2_s]; rfl, fun h => absurd h (by omega)⟩, ⟨fun _ => by show x3 e 4 = _; rw [hx3, s2_s]; rfl, fun h => absurd h (by omega)⟩, hf3, fun _ _ _ => rfl, by omega⟩
  try dsimp only at f1 p1 p2 p3 p4 p5 p6 p7
  obtain ⟨y, g1, g2, g3, g4, g5, g6, g7⟩ := one (prN (hN h) - 1) z (by omega) p1 p2 p3 p4
  obtain ⟨u, k1, -, k2, k3⟩ := rn_change (d := d + 2) hw hN0 hN6 g2 (fun k hk => prm_in hN0 hN6 hk)
  have hend := prm_end hN0 hN6
  rw [hend] at k1
  have hu := k2 hend
  subst hu
  rw [show prN (hN h) - 1 + 1 = prN (hN h) by omega] at g4 g5
  have eny : u (s + 8) 0 = nI (hN h) := (g3 0 (by omega)).2.2.2.1.1.1
  have enp : ¬ nI pl = -1 := by
    intro z
    have h1 := nI_toInt (show pl < 2 ^ 31 by omega)
    rw [z] at h1
    have h2 : (-1 : Int32).toInt = -1 := by decide
    omega
  have k1' : run (d + 3) mX10_change [.ref w, .int (nI (hN h))] G u = some (some (.int (-1)), G, u) := k1
  have hue : ∀ j, j ≠ 3 → j ≠ 4 → u e j = x3 e j := fun j h1 h2 => by rw [g7 j h1 h2]; exact p6 j h1 h2
  refine ⟨u, ?_, ?_, ⟨g4, g5⟩, fun j h1 h2 h3 => ?_, p5.tr (g6.mono (fun c hc => Or.inl hc))⟩
  · simp (disch := first | assumption | (simp (disch := omega) only [cK_some, ofR_some, ofR_none, Option.toList_some, Option.toList_none, List.cons_append, List.nil_append, isL_i, isL_r, isL_u, isL_2, cs_0, cs_i, cs_r, cs_l, cs_ii, cs_ir, cs_ri, cs_rr, cs_iir, cs_irr, ha_1, ha_2, ha_3, ha_4, ha_5, ha_6, ha_7, hs_1, hs_2, hs_3, hs_4, hs_5, hs_6, hs_7, hs_8, hs_9, hs_10, hs_11, hs_12, hs_13, hs_14, hs_15, hs_16, hs_17, hs_18, hs_19, hs_20, hs_21, hs_22, hs_23, hs_24, hs_25, hs_26, hs_27, hs_28, hs_29, hs_30, hs_31, hs_32, hs_33, hs_34, w1, e1, inb_n, bq4, bq5, n100, not_false_eq_true, isB_0, isB_1, nI_clamp, nI_nneg, Nat.zero_add, Nat.le_refl]; done) | omega) only [xX1_learnOrders_0, xX1_learnOrders_1, xX1_learnOrders_4, xX1_learnOrders_7, xX1_learnOrders_8, xX1_learnOrders_9, xX1_learnOrders_10, xX1_learnOrders_13, xX1_learnOrders_14, xX1_learnOrders_16, xX1_learnOrders_19, xX1_learnOrders_20, xX1_learnOrders_22, xX1_learnOrders_25, xX1_learnOrders_26, xX1_learnOrders_27, xX1_learnOrders_28, xX1_learnOrders_29, xX1_learnOrders_32, xX1_learnOrders_33, xX1_learnOrders_34, xX1_learnOrders_37, xX1_learnOrders_38, xX1_learnOrders_39, xX1_learnOrders_40, xX1_learnOrders_43, xX1_learnOrders_45, xX1_learnOrders_46, xX1_learnOrders_48, xX1_learnOrders_49, cK_some, ofR_some, ofR_none, Option.toList_some, Option.toList_none, List.cons_append, List.nil_append, isL_i, isL_r, isL_u, isL_2, cs_0, cs_i, cs_r, cs_l, cs_ii, cs_ir, cs_ri, cs_rr, cs_iir, cs_irr, ha_1, ha_2, ha_3, ha_4, ha_5, ha_6, ha_7, hs_1, hs_2, hs_3, hs_4, hs_5, hs_6, hs_7, hs_8, hs_9, hs_10, hs_11, hs_12, hs_13, hs_14, hs_15, hs_16, hs_17, hs_18, hs_19, hs_20, hs_21, hs_22, hs_23, hs_24, hs_25, hs_26, hs_27, hs_28, hs_29, hs_30, hs_31, hs_32, hs_33, hs_34, rX1_learnOrders, h0, a1, b1, c1, Nat.add_sub_cancel, nI_lt, nI_nlt, nI_le, nI_ge, nI_pos, pk_sub, nI_clamp, s2_ne, s2_o, s2_s, nI_add, inb_n, nI_nn, zq0, zq1, ↓reduceIte]
    refine Eq.trans f1 ?_
    rw [xX1_learnOrders_51]
    simp (disch := first | assumption | (simp (disch := omega) only [cK_some, ofR_some, ofR_none, Option.toList_some, Option.toList_none, List.cons_append, List.nil_append, isL_i, isL_r, isL_u, isL_2, cs_0, cs_i, cs_r, cs_l, cs_ii, cs_ir, cs_ri, cs_rr, cs_iir, cs_irr, ha_1, ha_2, ha_3, ha_4, ha_5, ha_6, ha_7, hs_1, hs_2, hs_3, hs_4, hs_5, hs_6, hs_7, hs_8, hs_9, hs_10, hs_11, hs_12, hs_13, hs_14, hs_15, hs_16, hs_17, hs_18, hs_19, hs_20, hs_21, hs_22, hs_23, hs_24, hs_25, hs_26, hs_27, hs_28, hs_29, hs_30, hs_31, hs_32, hs_33, hs_34, w1, e1, inb_n, bq4, bq5, n100, not_false_eq_true, isB_0, isB_1, nI_clamp, nI_nneg, Nat.zero_add, Nat.le_refl]; done) | omega) only [xX1_learnOrders_53, xX1_learnOrders_56, xX1_learnOrders_59, xX1_learnOrders_61, xX1_learnOrders_62, xX1_learnOrders_65, xX1_learnOrders_66, xX1_learnOrders_67, xX1_learnOrders_69, xX1_learnOrders_70, xX1_learnOrders_73, xX1_learnOrders_76, xX1_learnOrders_77, xX1_learnOrders_78, xX1_learnOrders_81, xX1_learnOrders_84, xX1_learnOrders_87, xX1_learnOrders_89, xX1_learnOrders_91, xX1_learnOrders_92, xX1_learnOrders_95, xX1_learnOrders_96, xX1_learnOrders_97, xX1_learnOrders_99, xX1_learnOrders_102, xX1_learnOrders_104, xX1_learnOrders_107, cK_some, ofR_some, ofR_none, Option.toList_some, Option.toList_none, List.cons_append, List.nil_append, isL_i, isL_r, isL_u, isL_2, cs_0, cs_i, cs_r, cs_l, cs_ii, cs_ir, cs_ri, cs_rr, cs_iir, cs_irr, ha_1, ha_2, ha_3, ha_4, ha_5, ha_6, ha_7, hs_1, hs_2, hs_3, hs_4, hs_5, hs_6, hs_7, hs_8, hs_9, hs_10, hs_11, hs_12, hs_13, hs_14, hs_15, hs_16, hs_17, hs_18, hs_19, hs_20, hs_21, hs_22, hs_23, hs_24, hs_25, hs_26, hs_27, hs_28, hs_29, hs_30, hs_31, hs_32, hs_33, hs_34, enp, w2, g1, eny, k1', hl5, Nat.add_sub_cancel, nI_lt, nI_nlt, nI_le, nI_ge, nI_pos, pk_sub, nI_clamp, s2_ne, s2_o, s2_s, nI_add, inb_n, nI_nn, zq0, zq1, ↓reduceIte]
    rw [xX1_learnOrders_51]
    simp (disch := first | assumption | (simp (disch := omega) only [cK_some, ofR_some, ofR_none, Option.toList_some, Option.toList_none, List.cons_append, List.nil_append, isL_i, isL_r, isL_u, isL_2, cs_0, cs_i, cs_r, cs_l, cs_ii, cs_ir, cs_ri, cs_rr, cs_iir, cs_irr, ha_1, ha_2, ha_3, ha_4, ha_5, ha_6, ha_7, hs_1, hs_2, hs_3, hs_4, hs_5, hs_6, hs_7, hs_8, hs_9, hs_10, hs_11, hs_12, hs_13, hs_14, hs_15, hs_16, hs_17, hs_18, hs_19, hs_20, hs_21, hs_22, hs_23, hs_24, hs_25, hs_26, hs_27, hs_28, hs_29, hs_30, hs_31, hs_32, hs_33, hs_34, inb_n, bq4, bq5, n100, not_false_eq_true, isB_0, isB_1, nI_clamp, nI_nneg, Nat.zero_add, Nat.le_refl]; done) | omega) only [xX1_learnOrders_53, xX1_learnOrders_56, xX1_learnOrders_59, xX1_learnOrders_61, xX1_learnOrders_62, xX1_learnOrders_65, xX1_learnOrders_66, xX1_learnOrders_67, xX1_learnOrders_69, xX1_learnOrders_70, xX1_learnOrders_73, xX1_learnOrders_76, xX1_learnOrders_77, xX1_learnOrders_78, xX1_learnOrders_81, xX1_learnOrders_84, xX1_learnOrders_87, xX1_learnOrders_89, xX1_learnOrders_91, xX1_learnOrders_92, xX1_learnOrders_95, xX1_learnOrders_96, xX1_learnOrders_97, xX1_learnOrders_99, xX1_learnOrders_102, xX1_learnOrders_104, xX1_learnOrders_107, xX1_learnOrders_110, cK_some, ofR_some, ofR_none, Option.toList_some, Option.toList_none, List.cons_append, List.nil_append, isL_i, isL_r, isL_u, isL_2, cs_0, cs_i, cs_r, cs_l, cs_ii, cs_ir, cs_ri, cs_rr, cs_iir, cs_irr, ha_1, ha_2, ha_3, ha_4, ha_5, ha_6, ha_7, hs_1, hs_2, hs_3, hs_4, hs_5, hs_6, hs_7, hs_8, hs_9, hs_10, hs_11, hs_12, hs_13, hs_14, hs_15, hs_16, hs_17, hs_18, hs_19, hs_20, hs_21, hs_22, hs_23, hs_24, hs_25, hs_26, hs_27, hs_28, hs_29, hs_30, hs_31, hs_32, hs_33, hs_34, ite_self, Nat.add_sub_cancel, nI_lt, nI_nlt, nI_le, nI_ge, nI_pos, pk_sub, nI_clamp, s2_ne, s2_o, s2_s, nI_add, inb_n, nI_nn, zq0, zq1, ↓reduceIte]
  · rw [hue 0 (by decide) (by decide), hx3, s2_o (by decide), s2_o (by decide), s2_s]
  · rw [hue j h2 h3, hx3, s2_o h3, s2_o h2, s2_o h1]
