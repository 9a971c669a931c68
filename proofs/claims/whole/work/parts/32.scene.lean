/-! the class' scenes -/
theorem ShV.fr {I I' : Im} {s : Nat} {h : Sp} (hv : ShV I s h) (hf : ∀ c, s ≤ c → c ≤ s + 14 → I' c = I c) : ShV I' s h := by
  unfold ShV at hv ⊢
  rw [hf s (by omega) (by omega), hf (s + 8) (by omega) (by omega), hf (s + 1) (by omega) (by omega), hf (s + 8 + 1) (by omega) (by omega), hf (s + 8 + 3) (by omega) (by omega), hf (s + 8 + 6) (by omega) (by omega), hf (s + 1 + 1) (by omega) (by omega), hf (s + 1 + 2) (by omega) (by omega), hf (s + 1 + 3) (by omega) (by omega), hf (s + 1 + 4) (by omega) (by omega)]
  exact hv
theorem ShV.sc {I I' : Im} {a s : Nat} {h : Sp} (hv : ShV I s h) (hf : Fr (inSc a) I I') (hd : offS a s) : ShV I' s h :=
  hv.fr (fun c h1 h2 => hf c (fun q => by unfold inSc at q; unfold offS at hd; omega))
theorem n100 : ¬ nI 100 = 0 := by decide
theorem frac {D w : Nat} (hD : D ≤ 99) (hw : w ≤ 100) : nI D * nI w / nI 100 = nI (D * w / 100) := by
  have : D * w ≤ 99 * 100 := Nat.mul_le_mul hD hw
  rw [pk_mul, pk_div (by omega) (by omega) (by omega)]
theorem frac_le {D w : Nat} (hw : w ≤ 100) : D * w / 100 ≤ D := by
  have : D * w ≤ D * 100 := Nat.mul_le_mul_left D hw
  omega
theorem rn_blown {d s D : Nat} {h : Sp} {G : Gm} {I : Im} (hs : Sh G s) (hv : ShV I s h) (ho : SpOk h) (hD : D ≤ 99) : run d mX7_blown [.ref s, .int (nI D)] G I = some (some (.int (nI (D * hWind h / 100))), G, I) := by
  have e1 := hv.2.1.2.2.2.2.2
  have e2 := frac hD (show hWind h ≤ 100 by have := ho.2.2.2.2.2.2.2.2.1; omega)
  simp only [rX7_blown, xX7_blown_0, xX7_blown_1, xX7_blown_2, xX7_blown_5, xX7_blown_6, xX7_blown_8, xX7_blown_9, cK_some, ofR_some, ofR_none, Option.toList_some, Option.toList_none, List.cons_append, List.nil_append, isL_i, isL_r, isL_u, isL_2, cs_0, cs_i, cs_r, cs_l, cs_ii, cs_ir, cs_ri, cs_rr, cs_iir, cs_irr, hs.1, hs.2.1, hs.2.2.1, hs.2.2.2.1, hs.2.2.2.2.1, hs.2.2.2.2.2.1, (hs.2.2.2.2.2.2.1).1, (hs.2.2.2.2.2.2.1).2.1, (hs.2.2.2.2.2.2.1).2.2.1, (hs.2.2.2.2.2.2.1).2.2.2.1, (hs.2.2.2.2.2.2.1).2.2.2.2.1, (hs.2.2.2.2.2.2.1).2.2.2.2.2.1, (hs.2.2.2.2.2.2.1).2.2.2.2.2.2.1, (hs.2.2.2.2.2.2.1).2.2.2.2.2.2.2.1, (hs.2.2.2.2.2.2.1).2.2.2.2.2.2.2.2.1, (hs.2.2.2.2.2.2.1).2.2.2.2.2.2.2.2.2.1, (hs.2.2.2.2.2.2.1).2.2.2.2.2.2.2.2.2.2.1, (hs.2.2.2.2.2.2.1).2.2.2.2.2.2.2.2.2.2.2.1, (hs.2.2.2.2.2.2.1).2.2.2.2.2.2.2.2.2.2.2.2, (hs.2.2.2.2.2.2.2.1).1, (hs.2.2.2.2.2.2.2.1).2.1, (hs.2.2.2.2.2.2.2.1).2.2.1, (hs.2.2.2.2.2.2.2.1).2.2.2.1, (hs.2.2.2.2.2.2.2.1).2.2.2.2.1, (hs.2.2.2.2.2.2.2.1).2.2.2.2.2.1, (hs.2.2.2.2.2.2.2.1).2.2.2.2.2.2.1, (hs.2.2.2.2.2.2.2.1).2.2.2.2.2.2.2.1, (hs.2.2.2.2.2.2.2.1).2.2.2.2.2.2.2.2.1, (hs.2.2.2.2.2.2.2.1).2.2.2.2.2.2.2.2.2.1, (hs.2.2.2.2.2.2.2.1).2.2.2.2.2.2.2.2.2.2.1, (hs.2.2.2.2.2.2.2.1).2.2.2.2.2.2.2.2.2.2.2.1, (hs.2.2.2.2.2.2.2.1).2.2.2.2.2.2.2.2.2.2.2.2, hs.2.2.2.2.2.2.2.2.1, hs.2.2.2.2.2.2.2.2.2.2, e1, e2, n100, not_false_eq_true]
theorem rn_isDry {d a s b : Nat} {h : Sp} {q : Qp} {G : Gm} {I : Im} (ha : Sc G a) (hs : Sh G s) (hv : ShV I s h) (ho : SpOk h) (hq : ScV I a h q) (hqo : QpOk h q) (hb : b < hN h) : run d mX6_isDry [.ref a, .ref s, .int (nI b)] G I = some (some (.int (if qD q b ≤ hWant h b then nI 1 else nI 0)), G, I) := by
  have hN6 := ho.1
  have hi := inb_n (show b < 6 by omega) (by omega)
  have hc := nI_clamp (show b < 2 ^ 31 by omega)
  have e1 := (hq.1 b hb).1
  have e2 := (hv.2.2.1 b hb).2.1
  have b1 := hqo.1 b hb
  have b2 := (ho.2.2.2.2.2.2.2.2.2.1 b hb).2.1
  have e3 := nI_leI (show qD q b < 2 ^ 31 by omega) (show hWant h b < 2 ^ 31 by omega)
  simp only [rX6_isDry, xX6_isDry_0, xX6_isDry_1, xX6_isDry_4, xX6_isDry_5, xX6_isDry_6, xX6_isDry_7, xX6_isDry_10, xX6_isDry_13, xX6_isDry_14, xX6_isDry_15, xX6_isDry_18, xX6_isDry_19, xX6_isDry_22, xX6_isDry_23, cK_some, ofR_some, ofR_none, Option.toList_some, Option.toList_none, List.cons_append, List.nil_append, isL_i, isL_r, isL_u, isL_2, cs_0, cs_i, cs_r, cs_l, cs_ii, cs_ir, cs_ri, cs_rr, cs_iir, cs_irr, ha.1, ha.2.1, ha.2.2.1, ha.2.2.2.1, ha.2.2.2.2.1, ha.2.2.2.2.2.1, ha.2.2.2.2.2.2, hs.1, hs.2.1, hs.2.2.1, hs.2.2.2.1, hs.2.2.2.2.1, hs.2.2.2.2.2.1, (hs.2.2.2.2.2.2.1).1, (hs.2.2.2.2.2.2.1).2.1, (hs.2.2.2.2.2.2.1).2.2.1, (hs.2.2.2.2.2.2.1).2.2.2.1, (hs.2.2.2.2.2.2.1).2.2.2.2.1, (hs.2.2.2.2.2.2.1).2.2.2.2.2.1, (hs.2.2.2.2.2.2.1).2.2.2.2.2.2.1, (hs.2.2.2.2.2.2.1).2.2.2.2.2.2.2.1, (hs.2.2.2.2.2.2.1).2.2.2.2.2.2.2.2.1, (hs.2.2.2.2.2.2.1).2.2.2.2.2.2.2.2.2.1, (hs.2.2.2.2.2.2.1).2.2.2.2.2.2.2.2.2.2.1, (hs.2.2.2.2.2.2.1).2.2.2.2.2.2.2.2.2.2.2.1, (hs.2.2.2.2.2.2.1).2.2.2.2.2.2.2.2.2.2.2.2, (hs.2.2.2.2.2.2.2.1).1, (hs.2.2.2.2.2.2.2.1).2.1, (hs.2.2.2.2.2.2.2.1).2.2.1, (hs.2.2.2.2.2.2.2.1).2.2.2.1, (hs.2.2.2.2.2.2.2.1).2.2.2.2.1, (hs.2.2.2.2.2.2.2.1).2.2.2.2.2.1, (hs.2.2.2.2.2.2.2.1).2.2.2.2.2.2.1, (hs.2.2.2.2.2.2.2.1).2.2.2.2.2.2.2.1, (hs.2.2.2.2.2.2.2.1).2.2.2.2.2.2.2.2.1, (hs.2.2.2.2.2.2.2.1).2.2.2.2.2.2.2.2.2.1, (hs.2.2.2.2.2.2.2.1).2.2.2.2.2.2.2.2.2.2.1, (hs.2.2.2.2.2.2.2.1).2.2.2.2.2.2.2.2.2.2.2.1, (hs.2.2.2.2.2.2.2.1).2.2.2.2.2.2.2.2.2.2.2.2, hs.2.2.2.2.2.2.2.2.1, hs.2.2.2.2.2.2.2.2.2.2, hi, hc, e1, e2, e3]
  split <;> simp only [xX6_isDry_0, xX6_isDry_1, xX6_isDry_4, xX6_isDry_5, xX6_isDry_6, xX6_isDry_7, xX6_isDry_10, xX6_isDry_13, xX6_isDry_14, xX6_isDry_15, xX6_isDry_18, xX6_isDry_19, xX6_isDry_22, xX6_isDry_23, isB_0, isB_1]
/-- a bather in a minute: what the scene holds behind it -/
theorem minB_V {I I' : Im} {a b : Nat} {h : Sp} {q : Qp} (hq : ScV I a h q) (hw : hWind h ≤ 100) (hb : b < hN h)
    (e1 : ∀ j, I' (a + 1) j = if j = b then nI (qD q b - qD q b * hWind h / 100) else I (a + 1) j) (e2 : ∀ j, I' (a + 2) j = if j = b ∧ ¬ qD q b - qD q b * hWind h / 100 ≤ hWant h b then nI (qC q b + hChill h b) else I (a + 2) j) (e3 : I' (a + 3) = I (a + 3)) (e4 : ∀ j, I' a j = if j = 5 then qL q + nI (qD q b * hWind h / 100) else I a j) : ScV I' a h (minB h q b) := by
  refine ⟨fun j hj => ⟨?_, ?_⟩, fun p hp => ?_, ?_, ?_, ?_⟩
  · rw [e1]
    show _ = nI (up (qD q) b _ j)
    unfold up
    by_cases e : j = b
    · rw [if_pos e, if_pos e]
    · rw [if_neg e, if_neg e]; exact (hq.1 j hj).1
  · rw [e2]
    show _ = nI ((if qD q b - qD q b * hWind h / 100 ≤ hWant h b then qC q else up (qC q) b (qC q b + hChill h b)) j)
    by_cases c : qD q b - qD q b * hWind h / 100 ≤ hWant h b
    · rw [if_neg (fun z => z.2 c), if_pos c]; exact (hq.1 j hj).2
    · rw [if_neg c]
      unfold up
      by_cases e : j = b
      · rw [if_pos ⟨e, c⟩, if_pos e]
      · rw [if_neg (fun z => e z.1), if_neg e]; exact (hq.1 j hj).2
  · rw [e3]; exact hq.2.1 p hp
  · rw [e4, if_neg (by decide)]; exact hq.2.2.1
  · rw [e4, if_neg (by decide)]; exact hq.2.2.2.1
  · rw [e4, if_pos rfl]; rfl
theorem minB_ok {h : Sp} {q : Qp} {b : Nat} (hq : QpOk h q) (hb : b < hN h) : QpOk h (minB h q b) := by
  refine ⟨fun j hj => ?_, hq.2.1, hq.2.2⟩
  show up (qD q) b _ j ≤ 99
  unfold up
  have := hq.1 b hb
  by_cases e : j = b
  · rw [if_pos e]; omega
  · rw [if_neg e]; exact hq.1 j hj
theorem fo_ok {h : Sp} {f : Qp → Nat → Qp} {n : Nat} {q : Qp} (hq : QpOk h q) (hf : ∀ q k, k < n → QpOk h q → QpOk h (f q k)) : ∀ k, k ≤ n → QpOk h (fo q f k)
  | 0, _ => hq
  | k + 1, hk => hf _ k hk (fo_ok hq hf k (Nat.le_of_succ_le hk))
theorem minA_ok {h : Sp} {q : Qp} (hq : QpOk h q) : QpOk h (minA h q) := fo_ok (n := hN h) hq (fun q k hk hq => minB_ok hq hk) _ (Nat.le_refl _)
theorem mins_ok {h : Sp} {q : Qp} (n : Nat) (hq : QpOk h q) : QpOk h (mins h q n) := fo_ok (n := n) hq (fun q k hk hq => minA_ok hq) _ (Nat.le_refl _)
theorem rn_letPass {d a s n : Nat} {h : Sp} {q : Qp} {G : Gm} {I : Im} (ha : Sc G a) (hs : Sh G s) (hd : offS a s) (hv : ShV I s h) (ho : SpOk h) (hq : ScV I a h q) (hqo : QpOk h q) (hn : n < 2 ^ 31) :
    ∃ I', run (d + 1) mX6_letPass [.ref a, .ref s, .int (nI n)] G I = some (none, G, I') ∧ ScV I' a h (mins h q n) ∧ Fr (inSc a) I I' := by
  have hN6 := ho.1
  have hw : hWind h ≤ 100 := by have := ho.2.2.2.2.2.2.2.2.1; omega
  -- the bathers of one minute
  have inner : ∀ (j : Nat) (w5 : Slot) (q0 : Qp) (I0 : Im), ShV I0 s h → ScV I0 a h q0 → QpOk h q0 → ∃ z : Im × Slot, ex (d + 1) mX6_letPass 10 [.val (.ref a), .val (.ref s), .val (.int (nI n)), .val (.int (nI j)), .val (.int (nI 0)), w5] [] G I0 = ex (d + 1) mX6_letPass 94 [.val (.ref a), .val (.ref s), .val (.int (nI n)), .val (.int (nI j)), .val (.int (nI (hN h))), z.2] [] G z.1 ∧ ScV z.1 a h (minA h q0) ∧ Fr (inSc a) I0 z.1 := by
    intro j w5 q0 I0 hv0 hq0 hqo0
    obtain ⟨z, e1, p2, p3, p4⟩ := chainE (fun k (z : Im × Slot) => ex (d + 1) mX6_letPass 10 [.val (.ref a), .val (.ref s), .val (.int (nI n)), .val (.int (nI j)), .val (.int (nI k)), z.2] [] G z.1) (fun k z => ScV z.1 a h (fo q0 (fun q b => minB h q b) k) ∧ QpOk h (fo q0 (fun q b => minB h q b) k) ∧ Fr (inSc a) I0 z.1) (hN h) (fun b hb z hz => by
      obtain ⟨z1, z2⟩ := z
      obtain ⟨p2, p3, p4⟩ := hz
      generalize hq1 : fo q0 (fun q b => minB h q b) b = q1 at p2 p3
      dsimp only at p2 p4 ⊢
      have hv1 : ShV z1 s h := hv0.sc p4 hd
      have hi := inb_n (show b < 6 by omega) (by omega)
      have hc := nI_clamp (show b < 2 ^ 31 by omega)
      have hlt := nI_lt hb (show hN h < 2 ^ 31 by omega)
      have en := hv1.1.1
      have eD := (p2.1 b hb).1
      have eC := (p2.1 b hb).2
      have eK := (hv1.2.2.1 b hb).2.2
      have hD := p3.1 b hb
      have hbl := rn_blown (d := d) hs hv1 ho hD
      have hsub := pk_sub (show qD q1 b * hWind h / 100 ≤ qD q1 b from frac_le hw)
      have hoff : s + 8 + 6 ≠ a + 1 ∧ s + 8 + 6 ≠ a + 2 ∧ s + 8 + 6 ≠ a := by unfold offS at hd; omega
      -- the scene ahead of the test
      have hqm : ScV (s2 (s2 z1 (a + 1) b (nI (qD q1 b - qD q1 b * hWind h / 100))) a 5 (z1 a 5 + nI (qD q1 b * hWind h / 100))) a h (up (qD q1) b (qD q1 b - qD q1 b * hWind h / 100), qC q1, qP q1, qS q1, qM q1, qL q1 + nI (qD q1 b * hWind h / 100)) := by
        refine ⟨fun i hi2 => ⟨?_, ?_⟩, fun p hp => ?_, ?_, ?_, ?_⟩
        · rw [s2_ne (show a + 1 ≠ a by omega), s2_eq]
          show _ = nI (up (qD q1) b _ i)
          unfold up
          by_cases e : i = b
          · rw [if_pos e, if_pos e]
          · rw [if_neg e, if_neg e]; exact (p2.1 i hi2).1
        · rw [s2_ne (show a + 2 ≠ a by omega), s2_ne (show a + 2 ≠ a + 1 by omega)]; exact (p2.1 i hi2).2
        · rw [s2_ne (show a + 3 ≠ a by omega), s2_ne (show a + 3 ≠ a + 1 by omega)]; exact p2.2.1 p hp
        · rw [s2_o (by decide), s2_ne (show a ≠ a + 1 by omega)]; exact p2.2.2.1
        · rw [s2_o (by decide), s2_ne (show a ≠ a + 1 by omega)]; exact p2.2.2.2.1
        · rw [s2_s, p2.2.2.2.2]; rfl
      have hfm : Fr (inSc a) z1 (s2 (s2 z1 (a + 1) b (nI (qD q1 b - qD q1 b * hWind h / 100))) a 5 (z1 a 5 + nI (qD q1 b * hWind h / 100))) := (Fr.rf.s2 (show inSc a (a + 1) from ⟨by omega, by omega⟩)).s2 (show inSc a a from ⟨by omega, by omega⟩)
      have hdry := rn_isDry (d := d) ha hs (hv1.sc hfm hd) ho hqm (by
        refine ⟨fun i hi2 => ?_, p3.2.1, p3.2.2⟩
        show up (qD q1) b _ i ≤ 99
        unfold up
        by_cases e : i = b
        · rw [if_pos e]; omega
        · rw [if_neg e]; exact p3.1 i hi2) hb
      have hupb : qD (up (qD q1) b (qD q1 b - qD q1 b * hWind h / 100), qC q1, qP q1, qS q1, qM q1, qL q1 + nI (qD q1 b * hWind h / 100)) b = qD q1 b - qD q1 b * hWind h / 100 := by
        show up (qD q1) b _ b = _
        unfold up
        rw [if_pos rfl]
      rw [hupb] at hdry
      rw [xX6_letPass_10]
      by_cases hwt : qD q1 b - qD q1 b * hWind h / 100 ≤ hWant h b
      · refine ⟨(s2 (s2 z1 (a + 1) b (nI (qD q1 b - qD q1 b * hWind h / 100))) a 5 (z1 a 5 + nI (qD q1 b * hWind h / 100)), .val (.int (nI (qD q1 b * hWind h / 100)))), ?_, ?_, ?_, p4.tr hfm⟩
        · rw [if_pos hwt] at hdry
          simp only [xX6_letPass_0, xX6_letPass_1, xX6_letPass_2, xX6_letPass_3, xX6_letPass_4, xX6_letPass_7, xX6_letPass_8, xX6_letPass_12, xX6_letPass_13, xX6_letPass_16, xX6_letPass_19, xX6_letPass_22, xX6_letPass_23, xX6_letPass_24, xX6_letPass_27, xX6_letPass_29, xX6_letPass_30, xX6_letPass_33, xX6_letPass_35, xX6_letPass_36, xX6_letPass_39, xX6_letPass_41, xX6_letPass_42, xX6_letPass_43, xX6_letPass_45, xX6_letPass_46, xX6_letPass_47, xX6_letPass_48i, xX6_letPass_48r, xX6_letPass_49, xX6_letPass_52, xX6_letPass_54, xX6_letPass_55, xX6_letPass_58, xX6_letPass_59, xX6_letPass_60, xX6_letPass_62, xX6_letPass_65, xX6_letPass_68, xX6_letPass_69, xX6_letPass_72, xX6_letPass_74, xX6_letPass_75, xX6_letPass_76, xX6_letPass_77, xX6_letPass_80, xX6_letPass_83, xX6_letPass_85, xX6_letPass_86, xX6_letPass_87, xX6_letPass_88, xX6_letPass_91, xX6_letPass_97, xX6_letPass_100, xX6_letPass_101i, xX6_letPass_101r, xX6_letPass_102, xX6_letPass_105, xX6_letPass_106, xX6_letPass_107, xX6_letPass_110, cK_some, ofR_some, ofR_none, Option.toList_some, Option.toList_none, List.cons_append, List.nil_append, isL_i, isL_r, isL_u, isL_2, cs_0, cs_i, cs_r, cs_l, cs_ii, cs_ir, cs_ri, cs_rr, cs_iir, cs_irr, ha.1, ha.2.1, ha.2.2.1, ha.2.2.2.1, ha.2.2.2.2.1, ha.2.2.2.2.2.1, ha.2.2.2.2.2.2, hs.1, hs.2.1, hs.2.2.1, hs.2.2.2.1, hs.2.2.2.2.1, hs.2.2.2.2.2.1, (hs.2.2.2.2.2.2.1).1, (hs.2.2.2.2.2.2.1).2.1, (hs.2.2.2.2.2.2.1).2.2.1, (hs.2.2.2.2.2.2.1).2.2.2.1, (hs.2.2.2.2.2.2.1).2.2.2.2.1, (hs.2.2.2.2.2.2.1).2.2.2.2.2.1, (hs.2.2.2.2.2.2.1).2.2.2.2.2.2.1, (hs.2.2.2.2.2.2.1).2.2.2.2.2.2.2.1, (hs.2.2.2.2.2.2.1).2.2.2.2.2.2.2.2.1, (hs.2.2.2.2.2.2.1).2.2.2.2.2.2.2.2.2.1, (hs.2.2.2.2.2.2.1).2.2.2.2.2.2.2.2.2.2.1, (hs.2.2.2.2.2.2.1).2.2.2.2.2.2.2.2.2.2.2.1, (hs.2.2.2.2.2.2.1).2.2.2.2.2.2.2.2.2.2.2.2, (hs.2.2.2.2.2.2.2.1).1, (hs.2.2.2.2.2.2.2.1).2.1, (hs.2.2.2.2.2.2.2.1).2.2.1, (hs.2.2.2.2.2.2.2.1).2.2.2.1, (hs.2.2.2.2.2.2.2.1).2.2.2.2.1, (hs.2.2.2.2.2.2.2.1).2.2.2.2.2.1, (hs.2.2.2.2.2.2.2.1).2.2.2.2.2.2.1, (hs.2.2.2.2.2.2.2.1).2.2.2.2.2.2.2.1, (hs.2.2.2.2.2.2.2.1).2.2.2.2.2.2.2.2.1, (hs.2.2.2.2.2.2.2.1).2.2.2.2.2.2.2.2.2.1, (hs.2.2.2.2.2.2.2.1).2.2.2.2.2.2.2.2.2.2.1, (hs.2.2.2.2.2.2.2.1).2.2.2.2.2.2.2.2.2.2.2.1, (hs.2.2.2.2.2.2.2.1).2.2.2.2.2.2.2.2.2.2.2.2, hs.2.2.2.2.2.2.2.2.1, hs.2.2.2.2.2.2.2.2.2.2, en, hlt, hi, hc, eD, hbl, hsub, hdry, s2_ne (show a ≠ a + 1 by omega), nI_add, ↓reduceIte, show ¬ nI 1 = 0 by decide]
        · rw [fo_s]
          have e : minB h q1 b = (up (qD q1) b (qD q1 b - qD q1 b * hWind h / 100), qC q1, qP q1, qS q1, qM q1, qL q1 + nI (qD q1 b * hWind h / 100)) := by unfold minB; rw [if_pos hwt]
          rw [hq1, e]
          exact hqm
        · rw [fo_s, hq1]
          exact minB_ok p3 hb
      · refine ⟨(s2 (s2 (s2 z1 (a + 1) b (nI (qD q1 b - qD q1 b * hWind h / 100))) a 5 (z1 a 5 + nI (qD q1 b * hWind h / 100))) (a + 2) b (nI (qC q1 b + hChill h b)), .val (.int (nI (qD q1 b * hWind h / 100)))), ?_, ?_, ?_, (p4.tr hfm).s2 (show inSc a (a + 2) from ⟨by omega, by omega⟩)⟩
        · rw [if_neg hwt] at hdry
          simp only [xX6_letPass_0, xX6_letPass_1, xX6_letPass_2, xX6_letPass_3, xX6_letPass_4, xX6_letPass_7, xX6_letPass_8, xX6_letPass_12, xX6_letPass_13, xX6_letPass_16, xX6_letPass_19, xX6_letPass_22, xX6_letPass_23, xX6_letPass_24, xX6_letPass_27, xX6_letPass_29, xX6_letPass_30, xX6_letPass_33, xX6_letPass_35, xX6_letPass_36, xX6_letPass_39, xX6_letPass_41, xX6_letPass_42, xX6_letPass_43, xX6_letPass_45, xX6_letPass_46, xX6_letPass_47, xX6_letPass_48i, xX6_letPass_48r, xX6_letPass_49, xX6_letPass_52, xX6_letPass_54, xX6_letPass_55, xX6_letPass_58, xX6_letPass_59, xX6_letPass_60, xX6_letPass_62, xX6_letPass_65, xX6_letPass_68, xX6_letPass_69, xX6_letPass_72, xX6_letPass_74, xX6_letPass_75, xX6_letPass_76, xX6_letPass_77, xX6_letPass_80, xX6_letPass_83, xX6_letPass_85, xX6_letPass_86, xX6_letPass_87, xX6_letPass_88, xX6_letPass_91, xX6_letPass_97, xX6_letPass_100, xX6_letPass_101i, xX6_letPass_101r, xX6_letPass_102, xX6_letPass_105, xX6_letPass_106, xX6_letPass_107, xX6_letPass_110, cK_some, ofR_some, ofR_none, Option.toList_some, Option.toList_none, List.cons_append, List.nil_append, isL_i, isL_r, isL_u, isL_2, cs_0, cs_i, cs_r, cs_l, cs_ii, cs_ir, cs_ri, cs_rr, cs_iir, cs_irr, ha.1, ha.2.1, ha.2.2.1, ha.2.2.2.1, ha.2.2.2.2.1, ha.2.2.2.2.2.1, ha.2.2.2.2.2.2, hs.1, hs.2.1, hs.2.2.1, hs.2.2.2.1, hs.2.2.2.2.1, hs.2.2.2.2.2.1, (hs.2.2.2.2.2.2.1).1, (hs.2.2.2.2.2.2.1).2.1, (hs.2.2.2.2.2.2.1).2.2.1, (hs.2.2.2.2.2.2.1).2.2.2.1, (hs.2.2.2.2.2.2.1).2.2.2.2.1, (hs.2.2.2.2.2.2.1).2.2.2.2.2.1, (hs.2.2.2.2.2.2.1).2.2.2.2.2.2.1, (hs.2.2.2.2.2.2.1).2.2.2.2.2.2.2.1, (hs.2.2.2.2.2.2.1).2.2.2.2.2.2.2.2.1, (hs.2.2.2.2.2.2.1).2.2.2.2.2.2.2.2.2.1, (hs.2.2.2.2.2.2.1).2.2.2.2.2.2.2.2.2.2.1, (hs.2.2.2.2.2.2.1).2.2.2.2.2.2.2.2.2.2.2.1, (hs.2.2.2.2.2.2.1).2.2.2.2.2.2.2.2.2.2.2.2, (hs.2.2.2.2.2.2.2.1).1, (hs.2.2.2.2.2.2.2.1).2.1, (hs.2.2.2.2.2.2.2.1).2.2.1, (hs.2.2.2.2.2.2.2.1).2.2.2.1, (hs.2.2.2.2.2.2.2.1).2.2.2.2.1, (hs.2.2.2.2.2.2.2.1).2.2.2.2.2.1, (hs.2.2.2.2.2.2.2.1).2.2.2.2.2.2.1, (hs.2.2.2.2.2.2.2.1).2.2.2.2.2.2.2.1, (hs.2.2.2.2.2.2.2.1).2.2.2.2.2.2.2.2.1, (hs.2.2.2.2.2.2.2.1).2.2.2.2.2.2.2.2.2.1, (hs.2.2.2.2.2.2.2.1).2.2.2.2.2.2.2.2.2.2.1, (hs.2.2.2.2.2.2.2.1).2.2.2.2.2.2.2.2.2.2.2.1, (hs.2.2.2.2.2.2.2.1).2.2.2.2.2.2.2.2.2.2.2.2, hs.2.2.2.2.2.2.2.2.1, hs.2.2.2.2.2.2.2.2.2.2, en, hlt, hi, hc, eD, eC, eK, hbl, hsub, hdry, s2_ne (show a ≠ a + 1 by omega), s2_ne (show a + 2 ≠ a + 1 by omega), s2_ne (show a + 2 ≠ a by omega), s2_ne hoff.1, s2_ne hoff.2.2, nI_add, ↓reduceIte, show nI 0 = 0 by decide]
        · rw [fo_s, hq1]
          have e : minB h q1 b = (up (qD q1) b (qD q1 b - qD q1 b * hWind h / 100), up (qC q1) b (qC q1 b + hChill h b), qP q1, qS q1, qM q1, qL q1 + nI (qD q1 b * hWind h / 100)) := by unfold minB; rw [if_neg hwt]
          rw [e]
          dsimp only
          refine ⟨fun i hi2 => ⟨?_, ?_⟩, fun p hp => ?_, ?_, ?_, ?_⟩
          · rw [s2_ne (show a + 1 ≠ a + 2 by omega)]; exact (hqm.1 i hi2).1
          · rw [s2_eq]
            show _ = nI (up (qC q1) b _ i)
            unfold up
            by_cases e : i = b
            · rw [if_pos e, if_pos e]
            · rw [if_neg e, if_neg e]; exact (hqm.1 i hi2).2
          · rw [s2_ne (show a + 3 ≠ a + 2 by omega)]; exact hqm.2.1 p hp
          · rw [s2_ne (show a ≠ a + 2 by omega)]; exact hqm.2.2.1
          · rw [s2_ne (show a ≠ a + 2 by omega)]; exact hqm.2.2.2.1
          · rw [s2_ne (show a ≠ a + 2 by omega)]; exact hqm.2.2.2.2
        · rw [fo_s, hq1]
          exact minB_ok p3 hb) (I := (I0, w5)) ⟨hq0, hqo0, Fr.rf⟩
    refine ⟨z, ?_, p2, p4⟩
    dsimp only at e1
    rw [e1, xX6_letPass_10]
    have en := (hv0.sc p4 hd).1.1
    simp only [xX6_letPass_12, xX6_letPass_13, xX6_letPass_16, xX6_letPass_19, cK_some, ofR_some, ofR_none, Option.toList_some, Option.toList_none, List.cons_append, List.nil_append, isL_i, isL_r, isL_u, isL_2, cs_0, cs_i, cs_r, cs_l, cs_ii, cs_ir, cs_ri, cs_rr, cs_iir, cs_irr, hs.1, hs.2.1, hs.2.2.1, hs.2.2.2.1, hs.2.2.2.2.1, hs.2.2.2.2.2.1, (hs.2.2.2.2.2.2.1).1, (hs.2.2.2.2.2.2.1).2.1, (hs.2.2.2.2.2.2.1).2.2.1, (hs.2.2.2.2.2.2.1).2.2.2.1, (hs.2.2.2.2.2.2.1).2.2.2.2.1, (hs.2.2.2.2.2.2.1).2.2.2.2.2.1, (hs.2.2.2.2.2.2.1).2.2.2.2.2.2.1, (hs.2.2.2.2.2.2.1).2.2.2.2.2.2.2.1, (hs.2.2.2.2.2.2.1).2.2.2.2.2.2.2.2.1, (hs.2.2.2.2.2.2.1).2.2.2.2.2.2.2.2.2.1, (hs.2.2.2.2.2.2.1).2.2.2.2.2.2.2.2.2.2.1, (hs.2.2.2.2.2.2.1).2.2.2.2.2.2.2.2.2.2.2.1, (hs.2.2.2.2.2.2.1).2.2.2.2.2.2.2.2.2.2.2.2, (hs.2.2.2.2.2.2.2.1).1, (hs.2.2.2.2.2.2.2.1).2.1, (hs.2.2.2.2.2.2.2.1).2.2.1, (hs.2.2.2.2.2.2.2.1).2.2.2.1, (hs.2.2.2.2.2.2.2.1).2.2.2.2.1, (hs.2.2.2.2.2.2.2.1).2.2.2.2.2.1, (hs.2.2.2.2.2.2.2.1).2.2.2.2.2.2.1, (hs.2.2.2.2.2.2.2.1).2.2.2.2.2.2.2.1, (hs.2.2.2.2.2.2.2.1).2.2.2.2.2.2.2.2.1, (hs.2.2.2.2.2.2.2.1).2.2.2.2.2.2.2.2.2.1, (hs.2.2.2.2.2.2.2.1).2.2.2.2.2.2.2.2.2.2.1, (hs.2.2.2.2.2.2.2.1).2.2.2.2.2.2.2.2.2.2.2.1, (hs.2.2.2.2.2.2.2.1).2.2.2.2.2.2.2.2.2.2.2.2, hs.2.2.2.2.2.2.2.2.1, hs.2.2.2.2.2.2.2.2.2.2, en, nI_nn, ↓reduceIte]
  -- the minutes
  obtain ⟨z, e1, p2, p3, p4⟩ := chainE (fun k (z : Im × Slot × Slot) => ex (d + 1) mX6_letPass 2 [.val (.ref a), .val (.ref s), .val (.int (nI n)), .val (.int (nI k)), z.2.1, z.2.2] [] G z.1) (fun k z => ScV z.1 a h (fo q (fun q _ => minA h q) k) ∧ QpOk h (fo q (fun q _ => minA h q) k) ∧ Fr (inSc a) I z.1) n (fun j hj z hz => by
    obtain ⟨z1, z4, z5⟩ := z
    obtain ⟨p2, p3, p4⟩ := hz
    dsimp only at p2 p4 ⊢
    obtain ⟨y, f1, f2, f3⟩ := inner j z5 _ z1 (hv.sc p4 hd) p2 p3
    have hlt := nI_lt hj hn
    refine ⟨(y.1, .val (.int (nI (hN h))), y.2), ?_, ?_, ?_, p4.tr f3⟩
    · rw [xX6_letPass_2]
      simp only [xX6_letPass_3, xX6_letPass_4, xX6_letPass_7, xX6_letPass_8, cK_some, ofR_some, ofR_none, Option.toList_some, Option.toList_none, List.cons_append, List.nil_append, isL_i, isL_r, isL_u, isL_2, cs_0, cs_i, cs_r, cs_l, cs_ii, cs_ir, cs_ri, cs_rr, cs_iir, cs_irr, hlt, ↓reduceIte]
      rw [f1]
      simp only [xX6_letPass_94, xX6_letPass_97, cK_some, ofR_some, ofR_none, Option.toList_some, Option.toList_none, List.cons_append, List.nil_append, isL_i, isL_r, isL_u, isL_2, cs_0, cs_i, cs_r, cs_l, cs_ii, cs_ir, cs_ri, cs_rr, cs_iir, cs_irr, nI_add]
    · rw [fo_s]; exact f2
    · rw [fo_s]; exact minA_ok p3) (I := (I, .unset, .unset)) ⟨hq, hqo, Fr.rf⟩
  dsimp only at e1
  refine ⟨s2 z.1 a 4 (nI (qM (fo q (fun q _ => minA h q) n) + n)), ?_, ?_, p4.s2 (show inSc a a from ⟨by omega, by omega⟩)⟩
  · simp only [rX6_letPass, xX6_letPass_0, xX6_letPass_1, cK_some, ofR_some, ofR_none, Option.toList_some, Option.toList_none, List.cons_append, List.nil_append, isL_i, isL_r, isL_u, isL_2, cs_0, cs_i, cs_r, cs_l, cs_ii, cs_ir, cs_ri, cs_rr, cs_iir, cs_irr]
    rw [e1, xX6_letPass_2]
    have eM := p2.2.2.2.1
    simp only [xX6_letPass_3, xX6_letPass_4, xX6_letPass_100, xX6_letPass_101i, xX6_letPass_101r, xX6_letPass_102, xX6_letPass_105, xX6_letPass_106, xX6_letPass_107, xX6_letPass_110, cK_some, ofR_some, ofR_none, Option.toList_some, Option.toList_none, List.cons_append, List.nil_append, isL_i, isL_r, isL_u, isL_2, cs_0, cs_i, cs_r, cs_l, cs_ii, cs_ir, cs_ri, cs_rr, cs_iir, cs_irr, ha.1, ha.2.1, ha.2.2.1, ha.2.2.2.1, ha.2.2.2.2.1, ha.2.2.2.2.2.1, ha.2.2.2.2.2.2, nI_nn, ↓reduceIte, eM, nI_add]
  · refine ⟨fun i hi2 => ⟨?_, ?_⟩, fun p hp => ?_, ?_, ?_, ?_⟩
    · rw [s2_ne (show a + 1 ≠ a by omega)]; exact (p2.1 i hi2).1
    · rw [s2_ne (show a + 2 ≠ a by omega)]; exact (p2.1 i hi2).2
    · rw [s2_ne (show a + 3 ≠ a by omega)]; exact p2.2.1 p hp
    · rw [s2_o (by decide)]; exact p2.2.2.1
    · rw [s2_s]; rfl
    · rw [s2_o (by decide)]; exact p2.2.2.2.2
