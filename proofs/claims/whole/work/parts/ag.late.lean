/-! who is late, asked of both -/
def clr (S b : Nat) : Nat := S &&& (63 ^^^ 2 ^ b)
theorem clrI : ∀ S : Fin 64, ∀ b : Fin 6, nI S &&& ((nI 1 <<< (nI b &&& 31)) ^^^ (-1)) = nI (clr S b) := by decide +kernel
theorem clrL : ∀ S : Fin 64, ∀ b : Fin 6, clr S b < 64 := by decide +kernel
theorem t63 : ∀ j : Fin 6, Nat.testBit 63 j = true := by decide
theorem clr_t {S b j : Nat} (hj : j < 6) : (clr S b).testBit j = (S.testBit j && !decide (b = j)) := by
  unfold clr
  rw [Nat.testBit_and, Nat.testBit_xor, Nat.testBit_two_pow, t63 ⟨j, hj⟩, Bool.true_xor]
theorem set_t {S b j : Nat} : (S ||| 2 ^ b).testBit j = (S.testBit j || decide (b = j)) := by rw [Nat.testBit_or, Nat.testBit_two_pow]
theorem set_l : ∀ S : Fin 64, ∀ b : Fin 6, (S : Nat) ||| 2 ^ (b : Nat) < 64 := by decide +kernel
def chi (S : Nat) (f : Nat → Bool) : Prop := S < 64 ∧ ∀ j, j < 6 → S.testBit j = f j
theorem chi_eq {S S' : Nat} {f : Nat → Bool} (h1 : chi S f) (h2 : chi S' f) : S = S' := Nat.eq_of_testBit_eq (fun i => by
  by_cases c : i < 6
  · rw [h1.2 i c, h2.2 i c]
  · have hp : 2 ^ 6 ≤ 2 ^ i := Nat.pow_le_pow_right (by decide) (by omega)
    rw [Nat.testBit_lt_two_pow (by have := h1.1; omega), Nat.testBit_lt_two_pow (by have := h2.1; omega)])
theorem chi.cg {S : Nat} {f g : Nat → Bool} (h : chi S f) (e : ∀ j, j < 6 → f j = g j) : chi S g := ⟨h.1, fun j hj => (h.2 j hj).trans (e j hj)⟩
theorem firstU_inv {p : Nat → Bool} : ∀ n k, firstU p n = some k → p k = true ∧ k < n ∧ ∀ j, j < k → p j = false
  | 0, k, h => by cases h
  | n + 1, k, h => by
    have e2 : firstU p (n + 1) = if firstU p n = none ∧ p n = true then some n else firstU p n := rfl
    rw [e2] at h
    by_cases c : firstU p n = none ∧ p n = true
    · rw [if_pos c] at h
      cases h
      exact ⟨c.2, Nat.lt_succ_self _, firstU_none.mp c.1⟩
    · rw [if_neg c] at h
      obtain ⟨h1, h2, h3⟩ := firstU_inv n k h
      exact ⟨h1, by omega, h3⟩
theorem doP_up {h : Sp} {q : Qp} {x : Pst} : qM q ≤ qM (doP h q x) := by
  unfold doP
  split
  · rw [wipeP_M]; omega
  · split
    · rw [wringP_M]; omega
    · split
      · rw [hangP_M]; omega
      · rw [shakeP_M]; omega
theorem atK_up {h : Sp} {q : Qp} {F : Nat → Pst} {k : Nat} : ∀ n, qM (atK h q F k) ≤ qM (atK h q F (k + n))
  | 0 => Nat.le_refl _
  | n + 1 => Nat.le_trans (atK_up n) (doP_up (q := atK h q F (k + n)) (x := F (k + n)))
def gdB (h : Sp) (q : Qp) (F : Nat → Pst) (t j u : Nat) : Bool := dryK h q F j u && decide (qM (atK h q F u) ≤ t)
def ltA (h : Sp) (q : Qp) (F : Nat → Pst) (t j i : Nat) : Bool := fo true (fun m u => m && !gdB h q F t j u) i
theorem ltA_iff {h : Sp} {q : Qp} {F : Nat → Pst} {t j : Nat} : ∀ i, (ltA h q F t j i = true ↔ ∀ u, u < i → gdB h q F t j u = false)
  | 0 => ⟨fun _ u hu => absurd hu (Nat.not_lt_zero u), fun _ => rfl⟩
  | i + 1 => by
    have ih := ltA_iff (h := h) (q := q) (F := F) (t := t) (j := j) i
    have es : ltA h q F t j (i + 1) = (ltA h q F t j i && !gdB h q F t j i) := rfl
    rw [es, Bool.and_eq_true, ih]
    constructor
    · rintro ⟨h1, h2⟩ u hu
      by_cases e : u = i
      · rw [e]; exact Bool.not_eq_true' _ ▸ h2
      · exact h1 u (by omega)
    · intro H
      exact ⟨fun u hu => H u (by omega), by rw [H i (by omega)]; rfl⟩
theorem inTime_A {h : Sp} {q : Qp} {F : Nat → Pst} {n b t : Nat} : inTime h q F n b t = !ltA h q F t b (n + 1) := by
  unfold inTime
  cases hf : firstU (dryK h q F b) (n + 1) with
  | none =>
    have h1 := firstU_none.mp hf
    have h2 : ltA h q F t b (n + 1) = true := (ltA_iff _).mpr (fun u hu => by unfold gdB; rw [h1 u hu]; rfl)
    rw [h2]
    rfl
  | some k =>
    obtain ⟨h1, h2, h3⟩ := firstU_inv _ _ hf
    show decide (qM (atK h q F k) ≤ t) = _
    by_cases c : qM (atK h q F k) ≤ t
    · have h4 : ¬ ltA h q F t b (n + 1) = true := fun H => by
        have := (ltA_iff _).mp H k h2
        unfold gdB at this
        rw [h1, decide_eq_true c] at this
        cases this
      rw [decide_eq_true c, Bool.eq_false_iff.mpr h4]
      rfl
    · have h4 : ltA h q F t b (n + 1) = true := (ltA_iff _).mpr (fun u hu => by
        unfold gdB
        by_cases e : u < k
        · rw [h3 u e]; rfl
        · have hm := atK_up (h := h) (q := q) (F := F) (k := k) (u - k)
          rw [show k + (u - k) = u by omega] at hm
          rw [decide_eq_false (by omega), Bool.and_false])
      rw [decide_eq_false c, h4]
      rfl
def ltT (h : Sp) (q : Qp) (F : Nat → Pst) (hm : Nat → Option Nat) (N i j : Nat) : Bool := decide (j < N) && (match hm j with
  | none => false
  | some t => ltA h q F t j i)
theorem lateB_chi {h : Sp} {q : Qp} {F : Nat → Pst} {hm : Nat → Option Nat} {n : Nat} : ∀ k, k ≤ 6 → chi (lateB h q F hm n k) (ltT h q F hm k (n + 1))
  | 0, _ => ⟨by show 0 < 64; decide, fun j hj => by show Nat.testBit 0 j = _; rw [Nat.zero_testBit]; rfl⟩
  | k + 1, hk => by
    have ih := lateB_chi (h := h) (q := q) (F := F) (hm := hm) (n := n) k (by omega)
    have es : lateB h q F hm n (k + 1) = (match hm k with
      | none => lateB h q F hm n k
      | some t => if inTime h q F n k t = true then lateB h q F hm n k else lateB h q F hm n k ||| 2 ^ k) := rfl
    rw [es]
    have hne : ∀ j, j ≠ k → ltT h q F hm (k + 1) (n + 1) j = ltT h q F hm k (n + 1) j := fun j hj => by
      unfold ltT
      have : decide (j < k + 1) = decide (j < k) := decide_eq_decide.mpr (by omega)
      rw [this]
    have hkk : ltT h q F hm k (n + 1) k = false := by
      unfold ltT
      rw [decide_eq_false (Nat.lt_irrefl k)]
      rfl
    have hk1 : ltT h q F hm (k + 1) (n + 1) k = (match hm k with
      | none => false
      | some t => ltA h q F t k (n + 1)) := by
      unfold ltT
      rw [decide_eq_true (Nat.lt_succ_self k), Bool.true_and]
    cases hmk : hm k with
    | none =>
      rw [hmk] at hk1
      refine ih.cg (fun j _ => ?_)
      by_cases e : j = k
      · rw [e, hk1, hkk]
      · rw [hne j e]
    | some t =>
      rw [hmk] at hk1
      dsimp only at hk1 ⊢
      rw [inTime_A]
      cases ca : ltA h q F t k (n + 1) with
      | false =>
        rw [ca] at hk1
        rw [if_pos (show (!false) = true from rfl)]
        refine ih.cg (fun j _ => ?_)
        by_cases e : j = k
        · rw [e, hk1, hkk]
        · rw [hne j e]
      | true =>
        rw [ca] at hk1
        rw [if_neg (by decide)]
        refine ⟨set_l ⟨_, ih.1⟩ ⟨k, by omega⟩, fun j hj => ?_⟩
        rw [set_t, ih.2 j hj]
        by_cases e : j = k
        · rw [e, hk1, hkk, decide_eq_true rfl]; rfl
        · rw [hne j e, decide_eq_false (fun q => e q.symm), Bool.or_false]
def s0L (hm : Nat → Option Nat) (k : Nat) : Nat := fo 0 (fun m b => match hm b with
  | none => m
  | some _ => m ||| 2 ^ b) k
theorem s0L_chi {h : Sp} {q : Qp} {F : Nat → Pst} {hm : Nat → Option Nat} : ∀ k, k ≤ 6 → chi (s0L hm k) (ltT h q F hm k 0)
  | 0, _ => ⟨by show 0 < 64; decide, fun j hj => by show Nat.testBit 0 j = _; rw [Nat.zero_testBit]; rfl⟩
  | k + 1, hk => by
    have ih := s0L_chi (h := h) (q := q) (F := F) (hm := hm) k (by omega)
    have es : s0L hm (k + 1) = (match hm k with
      | none => s0L hm k
      | some _ => s0L hm k ||| 2 ^ k) := rfl
    rw [es]
    have hne : ∀ j, j ≠ k → ltT h q F hm (k + 1) 0 j = ltT h q F hm k 0 j := fun j hj => by
      unfold ltT
      have : decide (j < k + 1) = decide (j < k) := decide_eq_decide.mpr (by omega)
      rw [this]
    have hkk : ltT h q F hm k 0 k = false := by
      unfold ltT
      rw [decide_eq_false (Nat.lt_irrefl k)]
      rfl
    have hk1 : ltT h q F hm (k + 1) 0 k = (match hm k with
      | none => false
      | some t => ltA h q F t k 0) := by
      unfold ltT
      rw [decide_eq_true (Nat.lt_succ_self k), Bool.true_and]
    cases hmk : hm k with
    | none =>
      rw [hmk] at hk1
      refine ih.cg (fun j _ => ?_)
      by_cases e : j = k
      · rw [e, hk1, hkk]
      · rw [hne j e]
    | some t =>
      rw [hmk] at hk1
      have hk1 : ltT h q F hm (k + 1) 0 k = true := hk1
      refine ⟨set_l ⟨_, ih.1⟩ ⟨k, by omega⟩, fun j hj => ?_⟩
      rw [set_t, ih.2 j hj]
      by_cases e : j = k
      · rw [e, hk1, hkk, decide_eq_true rfl]; rfl
      · rw [hne j e, decide_eq_false (fun q => e q.symm), Bool.or_false]
/-- good now: dry, and in time -/
def gdO (h : Sp) (q : Qp) (F : Nat → Pst) (hm : Nat → Option Nat) (i b : Nat) : Bool := match hm b with
  | none => false
  | some t => gdB h q F t b i
theorem ltT_s {h : Sp} {q : Qp} {F : Nat → Pst} {hm : Nat → Option Nat} {N i b : Nat} : ltT h q F hm N (i + 1) b = (ltT h q F hm N i b && !gdO h q F hm i b) := by
  unfold ltT gdO
  cases hm b with
  | none => dsimp only; rw [Bool.and_false]; rfl
  | some t =>
    have es : ltA h q F t b (i + 1) = (ltA h q F t b i && !gdB h q F t b i) := rfl
    dsimp only
    rw [es, Bool.and_assoc]
def ltM (h : Sp) (q : Qp) (F : Nat → Pst) (hm : Nat → Option Nat) (N i b j : Nat) : Bool := if j < b then ltT h q F hm N (i + 1) j else ltT h q F hm N i j
theorem ltM_step {h : Sp} {q : Qp} {F : Nat → Pst} {hm : Nat → Option Nat} {N i b S : Nat} (hb : b < 6) (H : chi S (ltM h q F hm N i b)) : chi (if gdO h q F hm i b = true then clr S b else S) (ltM h q F hm N i (b + 1)) := by
  have hbb : ltM h q F hm N i b b = ltT h q F hm N i b := if_neg (Nat.lt_irrefl b)
  have hb1 : ltM h q F hm N i (b + 1) b = (ltT h q F hm N i b && !gdO h q F hm i b) := by
    have : ltM h q F hm N i (b + 1) b = ltT h q F hm N (i + 1) b := if_pos (Nat.lt_succ_self b)
    rw [this, ltT_s]
  have hne : ∀ j, j ≠ b → ltM h q F hm N i (b + 1) j = ltM h q F hm N i b j := fun j hj => by
    unfold ltM
    by_cases e : j < b
    · rw [if_pos e, if_pos (by omega)]
    · rw [if_neg e, if_neg (by omega)]
  cases c : gdO h q F hm i b with
  | true =>
    rw [if_pos rfl]
    rw [c] at hb1
    refine ⟨clrL ⟨S, H.1⟩ ⟨b, hb⟩, fun j hj => ?_⟩
    rw [clr_t hj, H.2 j hj]
    by_cases e : j = b
    · rw [e, hb1, hbb, decide_eq_true rfl]
    · rw [hne j e, decide_eq_false (fun q => e q.symm), Bool.not_false, Bool.and_true]
  | false =>
    rw [if_neg (by decide)]
    rw [c] at hb1
    refine H.cg (fun j hj => ?_)
    by_cases e : j = b
    · rw [e, hb1, hbb, Bool.not_false, Bool.and_true]
    · rw [hne j e]
theorem m2_le {k : Nat} (hk : k < 2 ^ 31) : (nI k ≤ -2) = False := eq_false (fun q => by
  have h1 := Int32.le_iff_toInt_le.mp q
  rw [nI_toInt hk] at h1
  have h2 : (-2 : Int32).toInt = -2 := by decide
  omega)
theorem orz {S : Nat} : nI S ||| nI 0 = nI S := by rw [nI_or, Nat.or_zero]
theorem mo_lateLoop {d m S n : Nat} {h : Sp} {F : Nat → Pst} {q : Qp} {hm : Nat → Option Nat} {G : Gm} {J0 : Im} (l1 : gT G m = (23, 32)) (l16 : gR G m 16 = some (m + 2)) (lT : gT G (m + 2) = (0, 189)) (y1 : gR G m 3 = some S) (hms : Ms G S) (hmS : m + 11 < S) (hp : MpV J0 S h n F) (e8 : J0 S 8 = nI (hN h)) (hh : ∀ b, b < hN h → J0 (S + 11) b = encO (hm b) ∧ ∀ k, hm b = some k → k ≤ 240) (hq0 : qM q = 0) (hN6 : hN h ≤ 6) (ho : SpOk h) :
    ∀ e i (J : Im) (T : Nat) (w3 : Slot), isLong (some w3) = false → i + e = n + 1 → MF m 21 J0 J → chi T (ltT h q F hm (hN h) i) → (i ≤ n → MT G J m S 21 h (atK h q F i)) →
    ∃ K T', ex (d + 12) mX13_late 71 [.val (.ref m), .val (.int (nI T)), .val (.int (nI i)), w3] [] G J = some (some (.int (nI T')), G, s2 (s2 K m 1 (nI 0)) m 2 (-1)) ∧ MF m 21 J0 K ∧ chi T' (ltT h q F hm (hN h) (n + 1)) := by
  intro e
  have hn := hp.1
  have lS := hms.1
  induction e with
  | zero =>
    intro i J T w3 hw hi hF hc H
    have ei : i = n + 1 := by omega
    have e9 : J S 9 = nI n := by rw [hF.1 S (by omega)]; exact hp.2.1
    have hgt : (nI (n + 1) ≤ nI n) = False := eq_false (nI_ge (by omega) (by omega))
    have hgo := m_good (d := d + 11) (z := nI T) (G := G) (I := J) l1
    rw [ei] at hc ⊢
    refine ⟨J, T, ?_, hF, hc⟩
    rw [xX13_late_71]
    have := True.intro
    simp (disch := first | assumption | (simp (disch := omega) only [cK_some, ofR_some, ofR_none, Option.toList_some, Option.toList_none, List.cons_append, List.nil_append, isL_i, isL_r, isL_u, isL_2, cs_0, cs_i, cs_r, cs_l, cs_ii, cs_ir, cs_ri, cs_rr, cs_iir, cs_irr, cs_iii, cs_iri, cs_rii, cs_rir, cs_rri, cs_rrr, cs_iiii, cs_iiir, cs_iiri, cs_iirr, cs_irii, cs_irir, cs_irri, cs_irrr, cs_riii, cs_riir, cs_riri, cs_rirr, cs_rrii, cs_rrir, cs_rrri, cs_rrrr, l1, lS, inb_n, bq4, bq5, n100, not_false_eq_true, isB_0, isB_1, nI_clamp, nI_nneg, Nat.zero_add, Nat.le_refl]; done) | omega | (simp (disch := omega) only [cK_some, ofR_some, ofR_none, Option.toList_some, Option.toList_none, List.cons_append, List.nil_append, isL_i, isL_r, isL_u, isL_2, cs_0, cs_i, cs_r, cs_l, cs_ii, cs_ir, cs_ri, cs_rr, cs_iir, cs_irr, cs_iii, cs_iri, cs_rii, cs_rir, cs_rri, cs_rrr, cs_iiii, cs_iiir, cs_iiri, cs_iirr, cs_irii, cs_irir, cs_irri, cs_irrr, cs_riii, cs_riir, cs_riri, cs_rirr, cs_rrii, cs_rrir, cs_rrri, cs_rrrr, l1, lS, inb_n, bq4, bq5, n100, not_false_eq_true, isB_0, isB_1, nI_clamp, nI_nneg, Nat.zero_add, Nat.le_refl]; omega)) only [xX13_late_72, xX13_late_73, xX13_late_76, xX13_late_79, xX13_late_162, xX13_late_163, xX13_late_164, xX13_late_167, cK_some, ofR_some, ofR_none, Option.toList_some, Option.toList_none, List.cons_append, List.nil_append, isL_i, isL_r, isL_u, isL_2, cs_0, cs_i, cs_r, cs_l, cs_ii, cs_ir, cs_ri, cs_rr, cs_iir, cs_irr, cs_iii, cs_iri, cs_rii, cs_rir, cs_rri, cs_rrr, cs_iiii, cs_iiir, cs_iiri, cs_iirr, cs_irii, cs_irir, cs_irri, cs_irrr, cs_riii, cs_riir, cs_riri, cs_rirr, cs_rrii, cs_rrir, cs_rrri, cs_rrrr, y1, e9, hgt, hgo, Nat.add_sub_cancel, Nat.add_zero, Nat.zero_add, nI_lt, nI_nlt, nI_le, nI_ge, nI_pos, pk_sub, nI_clamp, s2_ne, s2_o, s2_s, nI_add, inb_n, nI_nn, zq0, zq1, ↓reduceIte]
  | succ e ih =>
    intro i J T w3 hw hi hF hc H
    have hin : i ≤ n := by omega
    have K := H hin
    have e9 : J S 9 = nI n := by rw [hF.1 S (by omega)]; exact hp.2.1
    have e8' : J S 8 = nI (hN h) := by rw [hF.1 S (by omega)]; exact e8
    have hle : (nI i ≤ nI n) = True := eq_true (nI_le hin (by omega))
    have hM := atK_M (q := q) (F := F) ho i (fun j hj => (hp.2.2 j (by omega)).1)
    have ev : J (m + 2) 40 = nI (qM (atK h q F i)) := K.2.2.2.2.2.1.2.2.2.1
    obtain ⟨⟨T1⟩, h1, h2⟩ := chainE (fun b (z : ULift Nat) => ex (d + 12) mX13_late 84 [.val (.ref m), .val (.int (nI z.down)), .val (.int (nI i)), .val (.int (nI b))] [] G J) (fun b z => chi z.down (ltM h q F hm (hN h) i b)) (hN h) (fun b hb z hz => by
      obtain ⟨Z⟩ := z
      have hz : chi Z (ltM h q F hm (hN h) i b) := hz
      have hlt : (nI b < nI (hN h)) = True := eq_true (nI_lt hb (by omega))
      have hd := mo_isDry (d := d + 11) K hb
      have hb6 : b < 6 := by omega
      have eh : J (S + 11) b = encO (hm b) := by rw [hF.1 _ (by omega)]; exact (hh b hb).1
      have hcl := clrI ⟨Z, hz.1⟩ ⟨b, hb6⟩
      dsimp only at hcl
      refine ⟨⟨if gdO h q F hm i b = true then clr Z b else Z⟩, ?_, ltM_step hb6 hz⟩
      try dsimp only
      rw [xX13_late_84]
      have hms_1 := hms.1; have hms_2 := hms.2.1; have hms_3 := hms.2.2.1; have hms_4 := hms.2.2.2.1; have hms_5 := hms.2.2.2.2.1; have hms_6 := hms.2.2.2.2.2.1; have hms_7 := hms.2.2.2.2.2.2.1; have hms_8 := hms.2.2.2.2.2.2.2.1; have hms_9 := hms.2.2.2.2.2.2.2.2.1; have hms_10 := hms.2.2.2.2.2.2.2.2.2.1; have hms_11 := hms.2.2.2.2.2.2.2.2.2.2.1; have hms_12 := hms.2.2.2.2.2.2.2.2.2.2.2.1; have hms_13 := hms.2.2.2.2.2.2.2.2.2.2.2.2.1; have hms_14 := hms.2.2.2.2.2.2.2.2.2.2.2.2.2.1; have hms_15 := hms.2.2.2.2.2.2.2.2.2.2.2.2.2.2.1; have hms_16 := hms.2.2.2.2.2.2.2.2.2.2.2.2.2.2.2.1; have hms_17 := hms.2.2.2.2.2.2.2.2.2.2.2.2.2.2.2.2.1; have hms_18 := hms.2.2.2.2.2.2.2.2.2.2.2.2.2.2.2.2.2.1; have hms_19 := hms.2.2.2.2.2.2.2.2.2.2.2.2.2.2.2.2.2.2.1; have hms_20 := hms.2.2.2.2.2.2.2.2.2.2.2.2.2.2.2.2.2.2.2.1; have hms_21 := hms.2.2.2.2.2.2.2.2.2.2.2.2.2.2.2.2.2.2.2.2.1; have hms_22 := hms.2.2.2.2.2.2.2.2.2.2.2.2.2.2.2.2.2.2.2.2.2.1; have hms_23 := hms.2.2.2.2.2.2.2.2.2.2.2.2.2.2.2.2.2.2.2.2.2.2.1; have hms_24 := hms.2.2.2.2.2.2.2.2.2.2.2.2.2.2.2.2.2.2.2.2.2.2.2.1; have hms_25 := hms.2.2.2.2.2.2.2.2.2.2.2.2.2.2.2.2.2.2.2.2.2.2.2.2.1; have hms_26 := hms.2.2.2.2.2.2.2.2.2.2.2.2.2.2.2.2.2.2.2.2.2.2.2.2.2.1; have hms_27 := hms.2.2.2.2.2.2.2.2.2.2.2.2.2.2.2.2.2.2.2.2.2.2.2.2.2.2.1; have hms_28 := hms.2.2.2.2.2.2.2.2.2.2.2.2.2.2.2.2.2.2.2.2.2.2.2.2.2.2.2.1; have hms_29 := hms.2.2.2.2.2.2.2.2.2.2.2.2.2.2.2.2.2.2.2.2.2.2.2.2.2.2.2.2.1; have hms_30 := hms.2.2.2.2.2.2.2.2.2.2.2.2.2.2.2.2.2.2.2.2.2.2.2.2.2.2.2.2.2.1; have hms_31 := hms.2.2.2.2.2.2.2.2.2.2.2.2.2.2.2.2.2.2.2.2.2.2.2.2.2.2.2.2.2.2.1; have hms_32 := hms.2.2.2.2.2.2.2.2.2.2.2.2.2.2.2.2.2.2.2.2.2.2.2.2.2.2.2.2.2.2.2.1; have hms_33 := hms.2.2.2.2.2.2.2.2.2.2.2.2.2.2.2.2.2.2.2.2.2.2.2.2.2.2.2.2.2.2.2.2.1; have hms_34 := hms.2.2.2.2.2.2.2.2.2.2.2.2.2.2.2.2.2.2.2.2.2.2.2.2.2.2.2.2.2.2.2.2.2.1; have hms_35 := hms.2.2.2.2.2.2.2.2.2.2.2.2.2.2.2.2.2.2.2.2.2.2.2.2.2.2.2.2.2.2.2.2.2.2.1; have hms_36 := hms.2.2.2.2.2.2.2.2.2.2.2.2.2.2.2.2.2.2.2.2.2.2.2.2.2.2.2.2.2.2.2.2.2.2.2.1; have hms_37 := hms.2.2.2.2.2.2.2.2.2.2.2.2.2.2.2.2.2.2.2.2.2.2.2.2.2.2.2.2.2.2.2.2.2.2.2.2.1; have hms_38 := hms.2.2.2.2.2.2.2.2.2.2.2.2.2.2.2.2.2.2.2.2.2.2.2.2.2.2.2.2.2.2.2.2.2.2.2.2.2.1; have hms_39 := hms.2.2.2.2.2.2.2.2.2.2.2.2.2.2.2.2.2.2.2.2.2.2.2.2.2.2.2.2.2.2.2.2.2.2.2.2.2.2
      by_cases c : qD (atK h q F i) b ≤ hWant h b
      · rw [if_pos c] at hd
        have hdk : dryK h q F b i = true := decide_eq_true c
        cases hmb : hm b with
        | none =>
          rw [hmb] at eh
          have eh : J (S + 11) b = -2 := eh
          have hno := m2_le (k := qM (atK h q F i)) (by omega)
          have hg : gdO h q F hm i b = false := by unfold gdO; rw [hmb]
          rw [hg, if_neg (by decide)]
          simp (disch := first | assumption | (simp (disch := omega) only [cK_some, ofR_some, ofR_none, Option.toList_some, Option.toList_none, List.cons_append, List.nil_append, isL_i, isL_r, isL_u, isL_2, cs_0, cs_i, cs_r, cs_l, cs_ii, cs_ir, cs_ri, cs_rr, cs_iir, cs_irr, cs_iii, cs_iri, cs_rii, cs_rir, cs_rri, cs_rrr, cs_iiii, cs_iiir, cs_iiri, cs_iirr, cs_irii, cs_irir, cs_irri, cs_irrr, cs_riii, cs_riir, cs_riri, cs_rirr, cs_rrii, cs_rrir, cs_rrri, cs_rrrr, hms_1, hms_2, hms_3, hms_4, hms_5, hms_6, hms_7, hms_8, hms_9, hms_10, hms_11, hms_12, hms_13, hms_14, hms_15, hms_16, hms_17, hms_18, hms_19, hms_20, hms_21, hms_22, hms_23, hms_24, hms_25, hms_26, hms_27, hms_28, hms_29, hms_30, hms_31, hms_32, hms_33, hms_34, hms_35, hms_36, hms_37, hms_38, hms_39, l1, lS, lT, inb_n, bq4, bq5, n100, not_false_eq_true, isB_0, isB_1, nI_clamp, nI_nneg, Nat.zero_add, Nat.le_refl]; done) | omega | (simp (disch := omega) only [cK_some, ofR_some, ofR_none, Option.toList_some, Option.toList_none, List.cons_append, List.nil_append, isL_i, isL_r, isL_u, isL_2, cs_0, cs_i, cs_r, cs_l, cs_ii, cs_ir, cs_ri, cs_rr, cs_iir, cs_irr, cs_iii, cs_iri, cs_rii, cs_rir, cs_rri, cs_rrr, cs_iiii, cs_iiir, cs_iiri, cs_iirr, cs_irii, cs_irir, cs_irri, cs_irrr, cs_riii, cs_riir, cs_riri, cs_rirr, cs_rrii, cs_rrir, cs_rrri, cs_rrrr, hms_1, hms_2, hms_3, hms_4, hms_5, hms_6, hms_7, hms_8, hms_9, hms_10, hms_11, hms_12, hms_13, hms_14, hms_15, hms_16, hms_17, hms_18, hms_19, hms_20, hms_21, hms_22, hms_23, hms_24, hms_25, hms_26, hms_27, hms_28, hms_29, hms_30, hms_31, hms_32, hms_33, hms_34, hms_35, hms_36, hms_37, hms_38, hms_39, l1, lS, lT, inb_n, bq4, bq5, n100, not_false_eq_true, isB_0, isB_1, nI_clamp, nI_nneg, Nat.zero_add, Nat.le_refl]; omega)) only [xX13_late_85, xX13_late_86, xX13_late_89, xX13_late_92, xX13_late_95, xX13_late_96, xX13_late_98, xX13_late_99, xX13_late_102, xX13_late_105, xX13_late_106, xX13_late_109, xX13_late_111, xX13_late_112, xX13_late_113, xX13_late_116, xX13_late_119, xX13_late_120, xX13_late_121, xX13_late_124, xX13_late_125, xX13_late_126, xX13_late_127, xX13_late_128, xX13_late_129, xX13_late_130, xX13_late_131, xX13_late_132, xX13_late_135, cK_some, ofR_some, ofR_none, Option.toList_some, Option.toList_none, List.cons_append, List.nil_append, isL_i, isL_r, isL_u, isL_2, cs_0, cs_i, cs_r, cs_l, cs_ii, cs_ir, cs_ri, cs_rr, cs_iir, cs_irr, cs_iii, cs_iri, cs_rii, cs_rir, cs_rri, cs_rrr, cs_iiii, cs_iiir, cs_iiri, cs_iirr, cs_irii, cs_irir, cs_irri, cs_irrr, cs_riii, cs_riir, cs_riri, cs_rirr, cs_rrii, cs_rrir, cs_rrri, cs_rrrr, hms_1, hms_2, hms_3, hms_4, hms_5, hms_6, hms_7, hms_8, hms_9, hms_10, hms_11, hms_12, hms_13, hms_14, hms_15, hms_16, hms_17, hms_18, hms_19, hms_20, hms_21, hms_22, hms_23, hms_24, hms_25, hms_26, hms_27, hms_28, hms_29, hms_30, hms_31, hms_32, hms_33, hms_34, hms_35, hms_36, hms_37, hms_38, hms_39, y1, e8', hlt, hd, l16, ev, eh, hno, nI_add, Nat.add_sub_cancel, Nat.add_zero, Nat.zero_add, nI_lt, nI_nlt, nI_le, nI_ge, nI_pos, pk_sub, nI_clamp, s2_ne, s2_o, s2_s, nI_add, inb_n, nI_nn, zq0, zq1, ↓reduceIte]
        | some t =>
          rw [hmb] at eh
          have eh : J (S + 11) b = nI t := eh
          have ht := (hh b hb).2 t hmb
          by_cases c2 : qM (atK h q F i) ≤ t
          · have hye : (nI (qM (atK h q F i)) ≤ nI t) = True := eq_true (nI_le c2 (by omega))
            have hg : gdO h q F hm i b = true := by
              unfold gdO gdB
              rw [hmb]
              dsimp only
              rw [hdk, decide_eq_true c2]
              rfl
            rw [hg, if_pos rfl]
            simp (disch := first | assumption | (simp (disch := omega) only [cK_some, ofR_some, ofR_none, Option.toList_some, Option.toList_none, List.cons_append, List.nil_append, isL_i, isL_r, isL_u, isL_2, cs_0, cs_i, cs_r, cs_l, cs_ii, cs_ir, cs_ri, cs_rr, cs_iir, cs_irr, cs_iii, cs_iri, cs_rii, cs_rir, cs_rri, cs_rrr, cs_iiii, cs_iiir, cs_iiri, cs_iirr, cs_irii, cs_irir, cs_irri, cs_irrr, cs_riii, cs_riir, cs_riri, cs_rirr, cs_rrii, cs_rrir, cs_rrri, cs_rrrr, hms_1, hms_2, hms_3, hms_4, hms_5, hms_6, hms_7, hms_8, hms_9, hms_10, hms_11, hms_12, hms_13, hms_14, hms_15, hms_16, hms_17, hms_18, hms_19, hms_20, hms_21, hms_22, hms_23, hms_24, hms_25, hms_26, hms_27, hms_28, hms_29, hms_30, hms_31, hms_32, hms_33, hms_34, hms_35, hms_36, hms_37, hms_38, hms_39, l1, lS, lT, inb_n, bq4, bq5, n100, not_false_eq_true, isB_0, isB_1, nI_clamp, nI_nneg, Nat.zero_add, Nat.le_refl]; done) | omega | (simp (disch := omega) only [cK_some, ofR_some, ofR_none, Option.toList_some, Option.toList_none, List.cons_append, List.nil_append, isL_i, isL_r, isL_u, isL_2, cs_0, cs_i, cs_r, cs_l, cs_ii, cs_ir, cs_ri, cs_rr, cs_iir, cs_irr, cs_iii, cs_iri, cs_rii, cs_rir, cs_rri, cs_rrr, cs_iiii, cs_iiir, cs_iiri, cs_iirr, cs_irii, cs_irir, cs_irri, cs_irrr, cs_riii, cs_riir, cs_riri, cs_rirr, cs_rrii, cs_rrir, cs_rrri, cs_rrrr, hms_1, hms_2, hms_3, hms_4, hms_5, hms_6, hms_7, hms_8, hms_9, hms_10, hms_11, hms_12, hms_13, hms_14, hms_15, hms_16, hms_17, hms_18, hms_19, hms_20, hms_21, hms_22, hms_23, hms_24, hms_25, hms_26, hms_27, hms_28, hms_29, hms_30, hms_31, hms_32, hms_33, hms_34, hms_35, hms_36, hms_37, hms_38, hms_39, l1, lS, lT, inb_n, bq4, bq5, n100, not_false_eq_true, isB_0, isB_1, nI_clamp, nI_nneg, Nat.zero_add, Nat.le_refl]; omega)) only [xX13_late_85, xX13_late_86, xX13_late_89, xX13_late_92, xX13_late_95, xX13_late_96, xX13_late_98, xX13_late_99, xX13_late_102, xX13_late_105, xX13_late_106, xX13_late_109, xX13_late_111, xX13_late_112, xX13_late_113, xX13_late_116, xX13_late_119, xX13_late_120, xX13_late_121, xX13_late_124, xX13_late_125, xX13_late_126, xX13_late_127, xX13_late_128, xX13_late_129, xX13_late_130, xX13_late_131, xX13_late_132, xX13_late_135, cK_some, ofR_some, ofR_none, Option.toList_some, Option.toList_none, List.cons_append, List.nil_append, isL_i, isL_r, isL_u, isL_2, cs_0, cs_i, cs_r, cs_l, cs_ii, cs_ir, cs_ri, cs_rr, cs_iir, cs_irr, cs_iii, cs_iri, cs_rii, cs_rir, cs_rri, cs_rrr, cs_iiii, cs_iiir, cs_iiri, cs_iirr, cs_irii, cs_irir, cs_irri, cs_irrr, cs_riii, cs_riir, cs_riri, cs_rirr, cs_rrii, cs_rrir, cs_rrri, cs_rrrr, hms_1, hms_2, hms_3, hms_4, hms_5, hms_6, hms_7, hms_8, hms_9, hms_10, hms_11, hms_12, hms_13, hms_14, hms_15, hms_16, hms_17, hms_18, hms_19, hms_20, hms_21, hms_22, hms_23, hms_24, hms_25, hms_26, hms_27, hms_28, hms_29, hms_30, hms_31, hms_32, hms_33, hms_34, hms_35, hms_36, hms_37, hms_38, hms_39, y1, e8', hlt, hd, l16, ev, eh, hye, hcl, nI_add, Nat.add_sub_cancel, Nat.add_zero, Nat.zero_add, nI_lt, nI_nlt, nI_le, nI_ge, nI_pos, pk_sub, nI_clamp, s2_ne, s2_o, s2_s, nI_add, inb_n, nI_nn, zq0, zq1, ↓reduceIte]
          · have hno : (nI (qM (atK h q F i)) ≤ nI t) = False := eq_false (nI_ge (by omega) (by omega))
            have hg : gdO h q F hm i b = false := by
              unfold gdO gdB
              rw [hmb]
              dsimp only
              rw [decide_eq_false c2, Bool.and_false]
            rw [hg, if_neg (by decide)]
            simp (disch := first | assumption | (simp (disch := omega) only [cK_some, ofR_some, ofR_none, Option.toList_some, Option.toList_none, List.cons_append, List.nil_append, isL_i, isL_r, isL_u, isL_2, cs_0, cs_i, cs_r, cs_l, cs_ii, cs_ir, cs_ri, cs_rr, cs_iir, cs_irr, cs_iii, cs_iri, cs_rii, cs_rir, cs_rri, cs_rrr, cs_iiii, cs_iiir, cs_iiri, cs_iirr, cs_irii, cs_irir, cs_irri, cs_irrr, cs_riii, cs_riir, cs_riri, cs_rirr, cs_rrii, cs_rrir, cs_rrri, cs_rrrr, hms_1, hms_2, hms_3, hms_4, hms_5, hms_6, hms_7, hms_8, hms_9, hms_10, hms_11, hms_12, hms_13, hms_14, hms_15, hms_16, hms_17, hms_18, hms_19, hms_20, hms_21, hms_22, hms_23, hms_24, hms_25, hms_26, hms_27, hms_28, hms_29, hms_30, hms_31, hms_32, hms_33, hms_34, hms_35, hms_36, hms_37, hms_38, hms_39, l1, lS, lT, inb_n, bq4, bq5, n100, not_false_eq_true, isB_0, isB_1, nI_clamp, nI_nneg, Nat.zero_add, Nat.le_refl]; done) | omega | (simp (disch := omega) only [cK_some, ofR_some, ofR_none, Option.toList_some, Option.toList_none, List.cons_append, List.nil_append, isL_i, isL_r, isL_u, isL_2, cs_0, cs_i, cs_r, cs_l, cs_ii, cs_ir, cs_ri, cs_rr, cs_iir, cs_irr, cs_iii, cs_iri, cs_rii, cs_rir, cs_rri, cs_rrr, cs_iiii, cs_iiir, cs_iiri, cs_iirr, cs_irii, cs_irir, cs_irri, cs_irrr, cs_riii, cs_riir, cs_riri, cs_rirr, cs_rrii, cs_rrir, cs_rrri, cs_rrrr, hms_1, hms_2, hms_3, hms_4, hms_5, hms_6, hms_7, hms_8, hms_9, hms_10, hms_11, hms_12, hms_13, hms_14, hms_15, hms_16, hms_17, hms_18, hms_19, hms_20, hms_21, hms_22, hms_23, hms_24, hms_25, hms_26, hms_27, hms_28, hms_29, hms_30, hms_31, hms_32, hms_33, hms_34, hms_35, hms_36, hms_37, hms_38, hms_39, l1, lS, lT, inb_n, bq4, bq5, n100, not_false_eq_true, isB_0, isB_1, nI_clamp, nI_nneg, Nat.zero_add, Nat.le_refl]; omega)) only [xX13_late_85, xX13_late_86, xX13_late_89, xX13_late_92, xX13_late_95, xX13_late_96, xX13_late_98, xX13_late_99, xX13_late_102, xX13_late_105, xX13_late_106, xX13_late_109, xX13_late_111, xX13_late_112, xX13_late_113, xX13_late_116, xX13_late_119, xX13_late_120, xX13_late_121, xX13_late_124, xX13_late_125, xX13_late_126, xX13_late_127, xX13_late_128, xX13_late_129, xX13_late_130, xX13_late_131, xX13_late_132, xX13_late_135, cK_some, ofR_some, ofR_none, Option.toList_some, Option.toList_none, List.cons_append, List.nil_append, isL_i, isL_r, isL_u, isL_2, cs_0, cs_i, cs_r, cs_l, cs_ii, cs_ir, cs_ri, cs_rr, cs_iir, cs_irr, cs_iii, cs_iri, cs_rii, cs_rir, cs_rri, cs_rrr, cs_iiii, cs_iiir, cs_iiri, cs_iirr, cs_irii, cs_irir, cs_irri, cs_irrr, cs_riii, cs_riir, cs_riri, cs_rirr, cs_rrii, cs_rrir, cs_rrri, cs_rrrr, hms_1, hms_2, hms_3, hms_4, hms_5, hms_6, hms_7, hms_8, hms_9, hms_10, hms_11, hms_12, hms_13, hms_14, hms_15, hms_16, hms_17, hms_18, hms_19, hms_20, hms_21, hms_22, hms_23, hms_24, hms_25, hms_26, hms_27, hms_28, hms_29, hms_30, hms_31, hms_32, hms_33, hms_34, hms_35, hms_36, hms_37, hms_38, hms_39, y1, e8', hlt, hd, l16, ev, eh, hno, nI_add, Nat.add_sub_cancel, Nat.add_zero, Nat.zero_add, nI_lt, nI_nlt, nI_le, nI_ge, nI_pos, pk_sub, nI_clamp, s2_ne, s2_o, s2_s, nI_add, inb_n, nI_nn, zq0, zq1, ↓reduceIte]
      · rw [if_neg c] at hd
        have hg : gdO h q F hm i b = false := by
          have hdk : dryK h q F b i = false := decide_eq_false c
          unfold gdO gdB
          cases hm b with
          | none => rfl
          | some t => dsimp only; rw [hdk]; rfl
        rw [hg, if_neg (by decide)]
        simp (disch := first | assumption | (simp (disch := omega) only [cK_some, ofR_some, ofR_none, Option.toList_some, Option.toList_none, List.cons_append, List.nil_append, isL_i, isL_r, isL_u, isL_2, cs_0, cs_i, cs_r, cs_l, cs_ii, cs_ir, cs_ri, cs_rr, cs_iir, cs_irr, cs_iii, cs_iri, cs_rii, cs_rir, cs_rri, cs_rrr, cs_iiii, cs_iiir, cs_iiri, cs_iirr, cs_irii, cs_irir, cs_irri, cs_irrr, cs_riii, cs_riir, cs_riri, cs_rirr, cs_rrii, cs_rrir, cs_rrri, cs_rrrr, hms_1, hms_2, hms_3, hms_4, hms_5, hms_6, hms_7, hms_8, hms_9, hms_10, hms_11, hms_12, hms_13, hms_14, hms_15, hms_16, hms_17, hms_18, hms_19, hms_20, hms_21, hms_22, hms_23, hms_24, hms_25, hms_26, hms_27, hms_28, hms_29, hms_30, hms_31, hms_32, hms_33, hms_34, hms_35, hms_36, hms_37, hms_38, hms_39, l1, lS, lT, inb_n, bq4, bq5, n100, not_false_eq_true, isB_0, isB_1, nI_clamp, nI_nneg, Nat.zero_add, Nat.le_refl]; done) | omega | (simp (disch := omega) only [cK_some, ofR_some, ofR_none, Option.toList_some, Option.toList_none, List.cons_append, List.nil_append, isL_i, isL_r, isL_u, isL_2, cs_0, cs_i, cs_r, cs_l, cs_ii, cs_ir, cs_ri, cs_rr, cs_iir, cs_irr, cs_iii, cs_iri, cs_rii, cs_rir, cs_rri, cs_rrr, cs_iiii, cs_iiir, cs_iiri, cs_iirr, cs_irii, cs_irir, cs_irri, cs_irrr, cs_riii, cs_riir, cs_riri, cs_rirr, cs_rrii, cs_rrir, cs_rrri, cs_rrrr, hms_1, hms_2, hms_3, hms_4, hms_5, hms_6, hms_7, hms_8, hms_9, hms_10, hms_11, hms_12, hms_13, hms_14, hms_15, hms_16, hms_17, hms_18, hms_19, hms_20, hms_21, hms_22, hms_23, hms_24, hms_25, hms_26, hms_27, hms_28, hms_29, hms_30, hms_31, hms_32, hms_33, hms_34, hms_35, hms_36, hms_37, hms_38, hms_39, l1, lS, lT, inb_n, bq4, bq5, n100, not_false_eq_true, isB_0, isB_1, nI_clamp, nI_nneg, Nat.zero_add, Nat.le_refl]; omega)) only [xX13_late_85, xX13_late_86, xX13_late_89, xX13_late_92, xX13_late_95, xX13_late_96, xX13_late_98, xX13_late_99, xX13_late_102, xX13_late_105, xX13_late_106, xX13_late_109, xX13_late_111, xX13_late_112, xX13_late_113, xX13_late_116, xX13_late_119, xX13_late_120, xX13_late_121, xX13_late_124, xX13_late_125, xX13_late_126, xX13_late_127, xX13_late_128, xX13_late_129, xX13_late_130, xX13_late_131, xX13_late_132, xX13_late_135, cK_some, ofR_some, ofR_none, Option.toList_some, Option.toList_none, List.cons_append, List.nil_append, isL_i, isL_r, isL_u, isL_2, cs_0, cs_i, cs_r, cs_l, cs_ii, cs_ir, cs_ri, cs_rr, cs_iir, cs_irr, cs_iii, cs_iri, cs_rii, cs_rir, cs_rri, cs_rrr, cs_iiii, cs_iiir, cs_iiri, cs_iirr, cs_irii, cs_irir, cs_irri, cs_irrr, cs_riii, cs_riir, cs_riri, cs_rirr, cs_rrii, cs_rrir, cs_rrri, cs_rrrr, hms_1, hms_2, hms_3, hms_4, hms_5, hms_6, hms_7, hms_8, hms_9, hms_10, hms_11, hms_12, hms_13, hms_14, hms_15, hms_16, hms_17, hms_18, hms_19, hms_20, hms_21, hms_22, hms_23, hms_24, hms_25, hms_26, hms_27, hms_28, hms_29, hms_30, hms_31, hms_32, hms_33, hms_34, hms_35, hms_36, hms_37, hms_38, hms_39, y1, e8', hlt, hd, nI_add, Nat.add_sub_cancel, Nat.add_zero, Nat.zero_add, nI_lt, nI_nlt, nI_le, nI_ge, nI_pos, pk_sub, nI_clamp, s2_ne, s2_o, s2_s, nI_add, inb_n, nI_nn, zq0, zq1, ↓reduceIte]) (I := ⟨T⟩) (hc.cg (fun j hj => (if_neg (Nat.not_lt_zero j)).symm))
    try dsimp only at h1 h2
    have hc2 : chi T1 (ltT h q F hm (hN h) (i + 1)) := h2.cg (fun j hj => by
      unfold ltM
      by_cases e : j < hN h
      · rw [if_pos e]
      · rw [if_neg e]
        unfold ltT
        rw [decide_eq_false e]
        rfl)
    have hnl : (nI (hN h) < nI (hN h)) = False := eq_false nI_nn
    by_cases c2 : i < n
    · have c2' : (nI i < nI n) = True := eq_true (nI_lt c2 (by omega))
      have hpJ : MpV J S h n F := hp.fr (fun c hc => hF.1 c (by omega))
      obtain ⟨J2, f1, f2, f3⟩ := mo_does (d := d + 8) hpJ K c2
      obtain ⟨K2, T', g1, g2, g3⟩ := ih (i + 1) J2 T1 (.val (.int (nI (hN h)))) rfl (by omega) (hF.tr f3) hc2 (fun _ => f2)
      refine ⟨K2, T', ?_, g2, g3⟩
      rw [xX13_late_71]
      have := True.intro
      simp (disch := first | assumption | (simp (disch := omega) only [cK_some, ofR_some, ofR_none, Option.toList_some, Option.toList_none, List.cons_append, List.nil_append, isL_i, isL_r, isL_u, isL_2, cs_0, cs_i, cs_r, cs_l, cs_ii, cs_ir, cs_ri, cs_rr, cs_iir, cs_irr, cs_iii, cs_iri, cs_rii, cs_rir, cs_rri, cs_rrr, cs_iiii, cs_iiir, cs_iiri, cs_iirr, cs_irii, cs_irir, cs_irri, cs_irrr, cs_riii, cs_riir, cs_riri, cs_rirr, cs_rrii, cs_rrir, cs_rrri, cs_rrrr, l1, lS, inb_n, bq4, bq5, n100, not_false_eq_true, isB_0, isB_1, nI_clamp, nI_nneg, Nat.zero_add, Nat.le_refl]; done) | omega | (simp (disch := omega) only [cK_some, ofR_some, ofR_none, Option.toList_some, Option.toList_none, List.cons_append, List.nil_append, isL_i, isL_r, isL_u, isL_2, cs_0, cs_i, cs_r, cs_l, cs_ii, cs_ir, cs_ri, cs_rr, cs_iir, cs_irr, cs_iii, cs_iri, cs_rii, cs_rir, cs_rri, cs_rrr, cs_iiii, cs_iiir, cs_iiri, cs_iirr, cs_irii, cs_irir, cs_irri, cs_irrr, cs_riii, cs_riir, cs_riri, cs_rirr, cs_rrii, cs_rrir, cs_rrri, cs_rrrr, l1, lS, inb_n, bq4, bq5, n100, not_false_eq_true, isB_0, isB_1, nI_clamp, nI_nneg, Nat.zero_add, Nat.le_refl]; omega)) only [xX13_late_72, xX13_late_73, xX13_late_76, xX13_late_79, xX13_late_82, xX13_late_83, cK_some, ofR_some, ofR_none, Option.toList_some, Option.toList_none, List.cons_append, List.nil_append, isL_i, isL_r, isL_u, isL_2, cs_0, cs_i, cs_r, cs_l, cs_ii, cs_ir, cs_ri, cs_rr, cs_iir, cs_irr, cs_iii, cs_iri, cs_rii, cs_rir, cs_rri, cs_rrr, cs_iiii, cs_iiir, cs_iiri, cs_iirr, cs_irii, cs_irir, cs_irri, cs_irrr, cs_riii, cs_riir, cs_riri, cs_rirr, cs_rrii, cs_rrir, cs_rrri, cs_rrrr, y1, e9, hle, Nat.add_sub_cancel, Nat.add_zero, Nat.zero_add, nI_lt, nI_nlt, nI_le, nI_ge, nI_pos, pk_sub, nI_clamp, s2_ne, s2_o, s2_s, nI_add, inb_n, nI_nn, zq0, zq1, ↓reduceIte]
      rw [h1, xX13_late_84]
      simp (disch := first | assumption | (simp (disch := omega) only [cK_some, ofR_some, ofR_none, Option.toList_some, Option.toList_none, List.cons_append, List.nil_append, isL_i, isL_r, isL_u, isL_2, cs_0, cs_i, cs_r, cs_l, cs_ii, cs_ir, cs_ri, cs_rr, cs_iir, cs_irr, cs_iii, cs_iri, cs_rii, cs_rir, cs_rri, cs_rrr, cs_iiii, cs_iiir, cs_iiri, cs_iirr, cs_irii, cs_irir, cs_irri, cs_irrr, cs_riii, cs_riir, cs_riri, cs_rirr, cs_rrii, cs_rrir, cs_rrri, cs_rrrr, l1, lS, inb_n, bq4, bq5, n100, not_false_eq_true, isB_0, isB_1, nI_clamp, nI_nneg, Nat.zero_add, Nat.le_refl]; done) | omega | (simp (disch := omega) only [cK_some, ofR_some, ofR_none, Option.toList_some, Option.toList_none, List.cons_append, List.nil_append, isL_i, isL_r, isL_u, isL_2, cs_0, cs_i, cs_r, cs_l, cs_ii, cs_ir, cs_ri, cs_rr, cs_iir, cs_irr, cs_iii, cs_iri, cs_rii, cs_rir, cs_rri, cs_rrr, cs_iiii, cs_iiir, cs_iiri, cs_iirr, cs_irii, cs_irir, cs_irri, cs_irrr, cs_riii, cs_riir, cs_riri, cs_rirr, cs_rrii, cs_rrir, cs_rrri, cs_rrrr, l1, lS, inb_n, bq4, bq5, n100, not_false_eq_true, isB_0, isB_1, nI_clamp, nI_nneg, Nat.zero_add, Nat.le_refl]; omega)) only [xX13_late_85, xX13_late_86, xX13_late_89, xX13_late_92, xX13_late_138, xX13_late_139, xX13_late_140, xX13_late_143, xX13_late_146, xX13_late_149, xX13_late_150, xX13_late_152, xX13_late_153, xX13_late_156, xX13_late_159, cK_some, ofR_some, ofR_none, Option.toList_some, Option.toList_none, List.cons_append, List.nil_append, isL_i, isL_r, isL_u, isL_2, cs_0, cs_i, cs_r, cs_l, cs_ii, cs_ir, cs_ri, cs_rr, cs_iir, cs_irr, cs_iii, cs_iri, cs_rii, cs_rir, cs_rri, cs_rrr, cs_iiii, cs_iiir, cs_iiri, cs_iirr, cs_irii, cs_irir, cs_irri, cs_irrr, cs_riii, cs_riir, cs_riri, cs_rirr, cs_rrii, cs_rrir, cs_rrri, cs_rrrr, y1, e8', e9, hnl, c2', f1, nI_add, Nat.add_sub_cancel, Nat.add_zero, Nat.zero_add, nI_lt, nI_nlt, nI_le, nI_ge, nI_pos, pk_sub, nI_clamp, s2_ne, s2_o, s2_s, nI_add, inb_n, nI_nn, zq0, zq1, ↓reduceIte]
      exact g1
    · have c2' : (nI i < nI n) = False := eq_false (nI_nlt (by omega) (by omega))
      obtain ⟨K2, T', g1, g2, g3⟩ := ih (i + 1) J T1 (.val (.int (nI (hN h)))) rfl (by omega) hF hc2 (fun h => by omega)
      refine ⟨K2, T', ?_, g2, g3⟩
      rw [xX13_late_71]
      have := True.intro
      simp (disch := first | assumption | (simp (disch := omega) only [cK_some, ofR_some, ofR_none, Option.toList_some, Option.toList_none, List.cons_append, List.nil_append, isL_i, isL_r, isL_u, isL_2, cs_0, cs_i, cs_r, cs_l, cs_ii, cs_ir, cs_ri, cs_rr, cs_iir, cs_irr, cs_iii, cs_iri, cs_rii, cs_rir, cs_rri, cs_rrr, cs_iiii, cs_iiir, cs_iiri, cs_iirr, cs_irii, cs_irir, cs_irri, cs_irrr, cs_riii, cs_riir, cs_riri, cs_rirr, cs_rrii, cs_rrir, cs_rrri, cs_rrrr, l1, lS, inb_n, bq4, bq5, n100, not_false_eq_true, isB_0, isB_1, nI_clamp, nI_nneg, Nat.zero_add, Nat.le_refl]; done) | omega | (simp (disch := omega) only [cK_some, ofR_some, ofR_none, Option.toList_some, Option.toList_none, List.cons_append, List.nil_append, isL_i, isL_r, isL_u, isL_2, cs_0, cs_i, cs_r, cs_l, cs_ii, cs_ir, cs_ri, cs_rr, cs_iir, cs_irr, cs_iii, cs_iri, cs_rii, cs_rir, cs_rri, cs_rrr, cs_iiii, cs_iiir, cs_iiri, cs_iirr, cs_irii, cs_irir, cs_irri, cs_irrr, cs_riii, cs_riir, cs_riri, cs_rirr, cs_rrii, cs_rrir, cs_rrri, cs_rrrr, l1, lS, inb_n, bq4, bq5, n100, not_false_eq_true, isB_0, isB_1, nI_clamp, nI_nneg, Nat.zero_add, Nat.le_refl]; omega)) only [xX13_late_72, xX13_late_73, xX13_late_76, xX13_late_79, xX13_late_82, xX13_late_83, cK_some, ofR_some, ofR_none, Option.toList_some, Option.toList_none, List.cons_append, List.nil_append, isL_i, isL_r, isL_u, isL_2, cs_0, cs_i, cs_r, cs_l, cs_ii, cs_ir, cs_ri, cs_rr, cs_iir, cs_irr, cs_iii, cs_iri, cs_rii, cs_rir, cs_rri, cs_rrr, cs_iiii, cs_iiir, cs_iiri, cs_iirr, cs_irii, cs_irir, cs_irri, cs_irrr, cs_riii, cs_riir, cs_riri, cs_rirr, cs_rrii, cs_rrir, cs_rrri, cs_rrrr, y1, e9, hle, Nat.add_sub_cancel, Nat.add_zero, Nat.zero_add, nI_lt, nI_nlt, nI_le, nI_ge, nI_pos, pk_sub, nI_clamp, s2_ne, s2_o, s2_s, nI_add, inb_n, nI_nn, zq0, zq1, ↓reduceIte]
      rw [h1, xX13_late_84]
      simp (disch := first | assumption | (simp (disch := omega) only [cK_some, ofR_some, ofR_none, Option.toList_some, Option.toList_none, List.cons_append, List.nil_append, isL_i, isL_r, isL_u, isL_2, cs_0, cs_i, cs_r, cs_l, cs_ii, cs_ir, cs_ri, cs_rr, cs_iir, cs_irr, cs_iii, cs_iri, cs_rii, cs_rir, cs_rri, cs_rrr, cs_iiii, cs_iiir, cs_iiri, cs_iirr, cs_irii, cs_irir, cs_irri, cs_irrr, cs_riii, cs_riir, cs_riri, cs_rirr, cs_rrii, cs_rrir, cs_rrri, cs_rrrr, l1, lS, inb_n, bq4, bq5, n100, not_false_eq_true, isB_0, isB_1, nI_clamp, nI_nneg, Nat.zero_add, Nat.le_refl]; done) | omega | (simp (disch := omega) only [cK_some, ofR_some, ofR_none, Option.toList_some, Option.toList_none, List.cons_append, List.nil_append, isL_i, isL_r, isL_u, isL_2, cs_0, cs_i, cs_r, cs_l, cs_ii, cs_ir, cs_ri, cs_rr, cs_iir, cs_irr, cs_iii, cs_iri, cs_rii, cs_rir, cs_rri, cs_rrr, cs_iiii, cs_iiir, cs_iiri, cs_iirr, cs_irii, cs_irir, cs_irri, cs_irrr, cs_riii, cs_riir, cs_riri, cs_rirr, cs_rrii, cs_rrir, cs_rrri, cs_rrrr, l1, lS, inb_n, bq4, bq5, n100, not_false_eq_true, isB_0, isB_1, nI_clamp, nI_nneg, Nat.zero_add, Nat.le_refl]; omega)) only [xX13_late_85, xX13_late_86, xX13_late_89, xX13_late_92, xX13_late_138, xX13_late_139, xX13_late_140, xX13_late_143, xX13_late_146, xX13_late_149, xX13_late_150, xX13_late_152, xX13_late_153, xX13_late_156, xX13_late_159, cK_some, ofR_some, ofR_none, Option.toList_some, Option.toList_none, List.cons_append, List.nil_append, isL_i, isL_r, isL_u, isL_2, cs_0, cs_i, cs_r, cs_l, cs_ii, cs_ir, cs_ri, cs_rr, cs_iir, cs_irr, cs_iii, cs_iri, cs_rii, cs_rir, cs_rri, cs_rrr, cs_iiii, cs_iiir, cs_iiri, cs_iirr, cs_irii, cs_irir, cs_irri, cs_irrr, cs_riii, cs_riir, cs_riri, cs_rirr, cs_rrii, cs_rrir, cs_rrri, cs_rrrr, y1, e8', e9, hnl, c2', nI_add, Nat.add_sub_cancel, Nat.add_zero, Nat.zero_add, nI_lt, nI_nlt, nI_le, nI_ge, nI_pos, pk_sub, nI_clamp, s2_ne, s2_o, s2_s, nI_add, inb_n, nI_nn, zq0, zq1, ↓reduceIte]
      exact g1
theorem w_late {d x k : Nat} {G : Gm} {I : Im} (W : Wd G I x k) : Call (d + 12) x k G I mX11_late mX13_late [] := W.wide (fun s u o hT hC hB hG => by
  obtain ⟨⟨t0, t1, t2, t3, t4, t5, t6, t7, t8, t9⟩, hTL, ⟨hS, hPl⟩, -, hd, hSc1, hSc2, hHy, hWk, hCh, hNx, hFi⟩ := id hT
  obtain ⟨c0, c8, c9, c10, c11, c12, e1, e2, e3, e4, e5, -⟩ := id hCh
  obtain ⟨n0, n2, n3, n4, n5, m1, m2, -⟩ := id hFi
  obtain ⟨l1, l5, l16, l17, l18, l21, l22, l23, l24, l27, l28, l29, u1, u2, u3, u4, u5, u6, u7, u8, ⟨u9, u10⟩, u11⟩ := id hB
  obtain ⟨s1, s2', s3, s4, s5, s6⟩ := hS.f
  have hg := c_noShore (d := d + 11) hT hC
  have p1 := hPl.1
  cases o with
  | none =>
    have hg1 : run (d + 11) mX11_noShore [.ref x] G I = some (some (.int (nI 1)), G, I) := hg
    have hrf := c_refuse (d := d + 11) (z := nI 1) (G := G) (I := I) t0
    refine ⟨-1, nI 1, s2 I x 11 (nI 1), n14, ?_, hC.tr hT, CFr.s, fun J hM => ⟨_, ?_, MFr.s⟩⟩
    · have := True.intro
      simp (disch := first | assumption | (simp (disch := omega) only [cK_some, ofR_some, ofR_none, Option.toList_some, Option.toList_none, List.cons_append, List.nil_append, isL_i, isL_r, isL_u, isL_2, cs_0, cs_i, cs_r, cs_l, cs_ii, cs_ir, cs_ri, cs_rr, cs_iir, cs_irr, cs_iii, cs_iri, cs_rii, cs_rir, cs_rri, cs_rrr, cs_iiii, cs_iiir, cs_iiri, cs_iirr, cs_irii, cs_irir, cs_irri, cs_irrr, cs_riii, cs_riir, cs_riri, cs_rirr, cs_rrii, cs_rrir, cs_rrri, cs_rrrr, t0, inb_n, bq4, bq5, n100, not_false_eq_true, isB_0, isB_1, nI_clamp, nI_nneg, Nat.zero_add, Nat.le_refl]; done) | omega | (simp (disch := omega) only [cK_some, ofR_some, ofR_none, Option.toList_some, Option.toList_none, List.cons_append, List.nil_append, isL_i, isL_r, isL_u, isL_2, cs_0, cs_i, cs_r, cs_l, cs_ii, cs_ir, cs_ri, cs_rr, cs_iir, cs_irr, cs_iii, cs_iri, cs_rii, cs_rir, cs_rri, cs_rrr, cs_iiii, cs_iiir, cs_iiri, cs_iirr, cs_irii, cs_irir, cs_irri, cs_irrr, cs_riii, cs_riir, cs_riri, cs_rirr, cs_rrii, cs_rrir, cs_rrri, cs_rrrr, t0, inb_n, bq4, bq5, n100, not_false_eq_true, isB_0, isB_1, nI_clamp, nI_nneg, Nat.zero_add, Nat.le_refl]; omega)) only [xX11_late_0, xX11_late_1, xX11_late_4, xX11_late_7, xX11_late_8, xX11_late_9, xX11_late_12, xX11_late_15, xX11_late_16, xX11_late_17, xX11_late_20, xX11_late_23, xX11_late_24, xX11_late_27, xX11_late_30, xX11_late_33, cK_some, ofR_some, ofR_none, Option.toList_some, Option.toList_none, List.cons_append, List.nil_append, isL_i, isL_r, isL_u, isL_2, cs_0, cs_i, cs_r, cs_l, cs_ii, cs_ir, cs_ri, cs_rr, cs_iir, cs_irr, cs_iii, cs_iri, cs_rii, cs_rir, cs_rri, cs_rrr, cs_iiii, cs_iiir, cs_iiri, cs_iirr, cs_irii, cs_irir, cs_irri, cs_irrr, cs_riii, cs_riir, cs_riri, cs_rirr, cs_rrii, cs_rrir, cs_rrri, cs_rrrr, rX11_late, hg1, hrf, Nat.add_sub_cancel, Nat.add_zero, Nat.zero_add, nI_lt, nI_nlt, nI_le, nI_ge, nI_pos, pk_sub, nI_clamp, s2_ne, s2_o, s2_s, nI_add, inb_n, nI_nn, zq0, zq1, ↓reduceIte]
    · have y1 := hM.1
      have hrm := m_refused (d := d + 11) (z := nI 1) (G := G) (I := s2 J (x + 339) 0 (nI 0)) l1
      have := True.intro
      simp (disch := first | assumption | (simp (disch := omega) only [cK_some, ofR_some, ofR_none, Option.toList_some, Option.toList_none, List.cons_append, List.nil_append, isL_i, isL_r, isL_u, isL_2, cs_0, cs_i, cs_r, cs_l, cs_ii, cs_ir, cs_ri, cs_rr, cs_iir, cs_irr, cs_iii, cs_iri, cs_rii, cs_rir, cs_rri, cs_rrr, cs_iiii, cs_iiir, cs_iiri, cs_iirr, cs_irii, cs_irir, cs_irri, cs_irrr, cs_riii, cs_riir, cs_riri, cs_rirr, cs_rrii, cs_rrir, cs_rrri, cs_rrrr, l1, inb_n, bq4, bq5, n100, not_false_eq_true, isB_0, isB_1, nI_clamp, nI_nneg, Nat.zero_add, Nat.le_refl]; done) | omega | (simp (disch := omega) only [cK_some, ofR_some, ofR_none, Option.toList_some, Option.toList_none, List.cons_append, List.nil_append, isL_i, isL_r, isL_u, isL_2, cs_0, cs_i, cs_r, cs_l, cs_ii, cs_ir, cs_ri, cs_rr, cs_iir, cs_irr, cs_iii, cs_iri, cs_rii, cs_rir, cs_rri, cs_rrr, cs_iiii, cs_iiir, cs_iiri, cs_iirr, cs_irii, cs_irir, cs_irri, cs_irrr, cs_riii, cs_riir, cs_riri, cs_rirr, cs_rrii, cs_rrir, cs_rrri, cs_rrrr, l1, inb_n, bq4, bq5, n100, not_false_eq_true, isB_0, isB_1, nI_clamp, nI_nneg, Nat.zero_add, Nat.le_refl]; omega)) only [xX13_late_0, xX13_late_1, xX13_late_2, xX13_late_5, xX13_late_6, xX13_late_9r, xX13_late_9n, xX13_late_12, xX13_late_13, xX13_late_14, xX13_late_17, xX13_late_18, xX13_late_19, xX13_late_20, xX13_late_21, xX13_late_22, xX13_late_23, xX13_late_24, xX13_late_27, xX13_late_30, xX13_late_33, xX13_late_34, xX13_late_35, xX13_late_38, xX13_late_41, xX13_late_42, xX13_late_43, xX13_late_45, xX13_late_48, xX13_late_49, xX13_late_52, xX13_late_53, xX13_late_54, xX13_late_55, xX13_late_56, xX13_late_57, xX13_late_60, xX13_late_63, xX13_late_64, xX13_late_66, xX13_late_69, xX13_late_70, xX13_late_71, xX13_late_72, xX13_late_73, xX13_late_76, xX13_late_79, xX13_late_82, xX13_late_83, xX13_late_84, xX13_late_85, xX13_late_86, xX13_late_89, xX13_late_92, xX13_late_95, xX13_late_96, xX13_late_98, xX13_late_99, xX13_late_102, xX13_late_105, xX13_late_106, xX13_late_109, xX13_late_111, xX13_late_112, xX13_late_113, xX13_late_116, xX13_late_119, xX13_late_120, xX13_late_121, xX13_late_124, xX13_late_125, xX13_late_126, xX13_late_127, xX13_late_128, xX13_late_129, xX13_late_130, xX13_late_131, xX13_late_132, xX13_late_135, xX13_late_138, xX13_late_139, xX13_late_140, xX13_late_143, xX13_late_146, xX13_late_149, xX13_late_150, xX13_late_152, xX13_late_153, xX13_late_156, xX13_late_159, xX13_late_162, xX13_late_163, xX13_late_164, xX13_late_167, cK_some, ofR_some, ofR_none, Option.toList_some, Option.toList_none, List.cons_append, List.nil_append, isL_i, isL_r, isL_u, isL_2, cs_0, cs_i, cs_r, cs_l, cs_ii, cs_ir, cs_ri, cs_rr, cs_iir, cs_irr, cs_iii, cs_iri, cs_rii, cs_rir, cs_rri, cs_rrr, cs_iiii, cs_iiir, cs_iiri, cs_iirr, cs_irii, cs_irir, cs_irri, cs_irrr, cs_riii, cs_riir, cs_riri, cs_rirr, cs_rrii, cs_rrir, cs_rrri, cs_rrrr, rX13_late, y1, hrm, Nat.add_sub_cancel, Nat.add_zero, Nat.zero_add, nI_lt, nI_nlt, nI_le, nI_ge, nI_pos, pk_sub, nI_clamp, s2_ne, s2_o, s2_s, nI_add, inb_n, nI_nn, zq0, zq1, ↓reduceIte]
  | some g =>
    have hg1 : run (d + 11) mX11_noShore [.ref x] G I = some (some (.int (nI 0)), G, I) := hg
    obtain ⟨hN0, hP0, ho, hqo⟩ := hC.pos
    have P : PF G I s (gH g) (q0R (gRS g)) (rSt (gRS g)) (rF (gRS g)) := hC.1.2.2.2.2.2.2.2.2.2.1
    have hh : HmV I s (gH g) (rHm (gRS g)) := hC.1.2.2.2.2.2.2.2.1
    have ev := rn_lateOnes (d := d + 8) P hh rfl
    have hN6 := ho.1
    have hans := c_answer (d := d + 11) (z := nI (lateB (gH g) (q0R (gRS g)) (rF (gRS g)) (rHm (gRS g)) (rSt (gRS g)) (hN (gH g)))) (G := G) (I := I) t0
    refine ⟨nI (lateB (gH g) (q0R (gRS g)) (rF (gRS g)) (rHm (gRS g)) (rSt (gRS g)) (hN (gH g))), nI 0, s2 I x 11 (nI 0), n04, ?_, hC.tr hT, CFr.s, fun J hM => ?_⟩
    · have := True.intro
      simp (disch := first | assumption | (simp (disch := omega) only [cK_some, ofR_some, ofR_none, Option.toList_some, Option.toList_none, List.cons_append, List.nil_append, isL_i, isL_r, isL_u, isL_2, cs_0, cs_i, cs_r, cs_l, cs_ii, cs_ir, cs_ri, cs_rr, cs_iir, cs_irr, cs_iii, cs_iri, cs_rii, cs_rir, cs_rri, cs_rrr, cs_iiii, cs_iiir, cs_iiri, cs_iirr, cs_irii, cs_irir, cs_irri, cs_irrr, cs_riii, cs_riir, cs_riri, cs_rirr, cs_rrii, cs_rrir, cs_rrri, cs_rrrr, t0, s1, p1, inb_n, bq4, bq5, n100, not_false_eq_true, isB_0, isB_1, nI_clamp, nI_nneg, Nat.zero_add, Nat.le_refl]; done) | omega | (simp (disch := omega) only [cK_some, ofR_some, ofR_none, Option.toList_some, Option.toList_none, List.cons_append, List.nil_append, isL_i, isL_r, isL_u, isL_2, cs_0, cs_i, cs_r, cs_l, cs_ii, cs_ir, cs_ri, cs_rr, cs_iir, cs_irr, cs_iii, cs_iri, cs_rii, cs_rir, cs_rri, cs_rrr, cs_iiii, cs_iiir, cs_iiri, cs_iirr, cs_irii, cs_irir, cs_irri, cs_irrr, cs_riii, cs_riir, cs_riri, cs_rirr, cs_rrii, cs_rrir, cs_rrri, cs_rrrr, t0, s1, p1, inb_n, bq4, bq5, n100, not_false_eq_true, isB_0, isB_1, nI_clamp, nI_nneg, Nat.zero_add, Nat.le_refl]; omega)) only [xX11_late_0, xX11_late_1, xX11_late_4, xX11_late_7, xX11_late_8, xX11_late_9, xX11_late_12, xX11_late_15, xX11_late_16, xX11_late_17, xX11_late_20, xX11_late_23, xX11_late_24, xX11_late_27, xX11_late_30, xX11_late_33, cK_some, ofR_some, ofR_none, Option.toList_some, Option.toList_none, List.cons_append, List.nil_append, isL_i, isL_r, isL_u, isL_2, cs_0, cs_i, cs_r, cs_l, cs_ii, cs_ir, cs_ri, cs_rr, cs_iir, cs_irr, cs_iii, cs_iri, cs_rii, cs_rir, cs_rri, cs_rrr, cs_iiii, cs_iiir, cs_iiri, cs_iirr, cs_irii, cs_irir, cs_irri, cs_irrr, cs_riii, cs_riir, cs_riri, cs_rirr, cs_rrii, cs_rrir, cs_rrri, cs_rrrr, rX11_late, hg1, t2, s4, ev, hans, Nat.add_sub_cancel, Nat.add_zero, Nat.zero_add, nI_lt, nI_nlt, nI_le, nI_ge, nI_pos, pk_sub, nI_clamp, s2_ne, s2_o, s2_s, nI_add, inb_n, nI_nn, zq0, zq1, ↓reduceIte]
    · have hM0 := hM.f (j := 0) (z := nI 0) (by decide) (by decide)
      obtain ⟨S, y1, hS3, hS4, y0, q2, ⟨w1, w2⟩, wz, wv, wp, wh, wc, wH⟩ := hM0.all
      obtain ⟨-, hms, hmS, hmv, -⟩ := id q2
      have lS := hms.1
      have e8 := hmv.1.1
      generalize hJ0 : s2 J (x + 339) 0 (nI 0) = J0 at *
      have hch := chain (fun b => ex (d + 12) mX13_late 22 [.val (.ref (x + 339)), .val (.int (nI (s0L (rHm (gRS g)) b))), .val (.int (nI b)), .unset] [] G J0) (hN (gH g)) (fun b hb => by
        have hlt : (nI b < nI (hN (gH g))) = True := eq_true (nI_lt hb (by omega))
        have hb6 : b < 6 := by omega
        have eh : J0 (S + 11) b = encO (rHm (gRS g) b) := wh b hb
        have hs := (s0L_chi (h := gH g) (q := q0R (gRS g)) (F := rF (gRS g)) (hm := rHm (gRS g)) b (by omega)).1
        have es : s0L (rHm (gRS g)) (b + 1) = (match rHm (gRS g) b with
          | none => s0L (rHm (gRS g)) b
          | some _ => s0L (rHm (gRS g)) b ||| 2 ^ b) := rfl
        have hor := bor ⟨_, hs⟩ ⟨b, hb6⟩
        dsimp only at hor
        try dsimp only
        rw [es, xX13_late_22]
        have hms_1 := hms.1; have hms_2 := hms.2.1; have hms_3 := hms.2.2.1; have hms_4 := hms.2.2.2.1; have hms_5 := hms.2.2.2.2.1; have hms_6 := hms.2.2.2.2.2.1; have hms_7 := hms.2.2.2.2.2.2.1; have hms_8 := hms.2.2.2.2.2.2.2.1; have hms_9 := hms.2.2.2.2.2.2.2.2.1; have hms_10 := hms.2.2.2.2.2.2.2.2.2.1; have hms_11 := hms.2.2.2.2.2.2.2.2.2.2.1; have hms_12 := hms.2.2.2.2.2.2.2.2.2.2.2.1; have hms_13 := hms.2.2.2.2.2.2.2.2.2.2.2.2.1; have hms_14 := hms.2.2.2.2.2.2.2.2.2.2.2.2.2.1; have hms_15 := hms.2.2.2.2.2.2.2.2.2.2.2.2.2.2.1; have hms_16 := hms.2.2.2.2.2.2.2.2.2.2.2.2.2.2.2.1; have hms_17 := hms.2.2.2.2.2.2.2.2.2.2.2.2.2.2.2.2.1; have hms_18 := hms.2.2.2.2.2.2.2.2.2.2.2.2.2.2.2.2.2.1; have hms_19 := hms.2.2.2.2.2.2.2.2.2.2.2.2.2.2.2.2.2.2.1; have hms_20 := hms.2.2.2.2.2.2.2.2.2.2.2.2.2.2.2.2.2.2.2.1; have hms_21 := hms.2.2.2.2.2.2.2.2.2.2.2.2.2.2.2.2.2.2.2.2.1; have hms_22 := hms.2.2.2.2.2.2.2.2.2.2.2.2.2.2.2.2.2.2.2.2.2.1; have hms_23 := hms.2.2.2.2.2.2.2.2.2.2.2.2.2.2.2.2.2.2.2.2.2.2.1; have hms_24 := hms.2.2.2.2.2.2.2.2.2.2.2.2.2.2.2.2.2.2.2.2.2.2.2.1; have hms_25 := hms.2.2.2.2.2.2.2.2.2.2.2.2.2.2.2.2.2.2.2.2.2.2.2.2.1; have hms_26 := hms.2.2.2.2.2.2.2.2.2.2.2.2.2.2.2.2.2.2.2.2.2.2.2.2.2.1; have hms_27 := hms.2.2.2.2.2.2.2.2.2.2.2.2.2.2.2.2.2.2.2.2.2.2.2.2.2.2.1; have hms_28 := hms.2.2.2.2.2.2.2.2.2.2.2.2.2.2.2.2.2.2.2.2.2.2.2.2.2.2.2.1; have hms_29 := hms.2.2.2.2.2.2.2.2.2.2.2.2.2.2.2.2.2.2.2.2.2.2.2.2.2.2.2.2.1; have hms_30 := hms.2.2.2.2.2.2.2.2.2.2.2.2.2.2.2.2.2.2.2.2.2.2.2.2.2.2.2.2.2.1; have hms_31 := hms.2.2.2.2.2.2.2.2.2.2.2.2.2.2.2.2.2.2.2.2.2.2.2.2.2.2.2.2.2.2.1; have hms_32 := hms.2.2.2.2.2.2.2.2.2.2.2.2.2.2.2.2.2.2.2.2.2.2.2.2.2.2.2.2.2.2.2.1; have hms_33 := hms.2.2.2.2.2.2.2.2.2.2.2.2.2.2.2.2.2.2.2.2.2.2.2.2.2.2.2.2.2.2.2.2.1; have hms_34 := hms.2.2.2.2.2.2.2.2.2.2.2.2.2.2.2.2.2.2.2.2.2.2.2.2.2.2.2.2.2.2.2.2.2.1; have hms_35 := hms.2.2.2.2.2.2.2.2.2.2.2.2.2.2.2.2.2.2.2.2.2.2.2.2.2.2.2.2.2.2.2.2.2.2.1; have hms_36 := hms.2.2.2.2.2.2.2.2.2.2.2.2.2.2.2.2.2.2.2.2.2.2.2.2.2.2.2.2.2.2.2.2.2.2.2.1; have hms_37 := hms.2.2.2.2.2.2.2.2.2.2.2.2.2.2.2.2.2.2.2.2.2.2.2.2.2.2.2.2.2.2.2.2.2.2.2.2.1; have hms_38 := hms.2.2.2.2.2.2.2.2.2.2.2.2.2.2.2.2.2.2.2.2.2.2.2.2.2.2.2.2.2.2.2.2.2.2.2.2.2.1; have hms_39 := hms.2.2.2.2.2.2.2.2.2.2.2.2.2.2.2.2.2.2.2.2.2.2.2.2.2.2.2.2.2.2.2.2.2.2.2.2.2.2
        cases hmb : rHm (gRS g) b with
        | none =>
          rw [hmb] at eh
          have eh : J0 (S + 11) b = -2 := eh
          have em : ((-2 : Int32) = -2) = True := eq_self _
          simp (disch := first | assumption | (simp (disch := omega) only [cK_some, ofR_some, ofR_none, Option.toList_some, Option.toList_none, List.cons_append, List.nil_append, isL_i, isL_r, isL_u, isL_2, cs_0, cs_i, cs_r, cs_l, cs_ii, cs_ir, cs_ri, cs_rr, cs_iir, cs_irr, cs_iii, cs_iri, cs_rii, cs_rir, cs_rri, cs_rrr, cs_iiii, cs_iiir, cs_iiri, cs_iirr, cs_irii, cs_irir, cs_irri, cs_irrr, cs_riii, cs_riir, cs_riri, cs_rirr, cs_rrii, cs_rrir, cs_rrri, cs_rrrr, hms_1, hms_2, hms_3, hms_4, hms_5, hms_6, hms_7, hms_8, hms_9, hms_10, hms_11, hms_12, hms_13, hms_14, hms_15, hms_16, hms_17, hms_18, hms_19, hms_20, hms_21, hms_22, hms_23, hms_24, hms_25, hms_26, hms_27, hms_28, hms_29, hms_30, hms_31, hms_32, hms_33, hms_34, hms_35, hms_36, hms_37, hms_38, hms_39, l1, lS, inb_n, bq4, bq5, n100, not_false_eq_true, isB_0, isB_1, nI_clamp, nI_nneg, Nat.zero_add, Nat.le_refl]; done) | omega | (simp (disch := omega) only [cK_some, ofR_some, ofR_none, Option.toList_some, Option.toList_none, List.cons_append, List.nil_append, isL_i, isL_r, isL_u, isL_2, cs_0, cs_i, cs_r, cs_l, cs_ii, cs_ir, cs_ri, cs_rr, cs_iir, cs_irr, cs_iii, cs_iri, cs_rii, cs_rir, cs_rri, cs_rrr, cs_iiii, cs_iiir, cs_iiri, cs_iirr, cs_irii, cs_irir, cs_irri, cs_irrr, cs_riii, cs_riir, cs_riri, cs_rirr, cs_rrii, cs_rrir, cs_rrri, cs_rrrr, hms_1, hms_2, hms_3, hms_4, hms_5, hms_6, hms_7, hms_8, hms_9, hms_10, hms_11, hms_12, hms_13, hms_14, hms_15, hms_16, hms_17, hms_18, hms_19, hms_20, hms_21, hms_22, hms_23, hms_24, hms_25, hms_26, hms_27, hms_28, hms_29, hms_30, hms_31, hms_32, hms_33, hms_34, hms_35, hms_36, hms_37, hms_38, hms_39, l1, lS, inb_n, bq4, bq5, n100, not_false_eq_true, isB_0, isB_1, nI_clamp, nI_nneg, Nat.zero_add, Nat.le_refl]; omega)) only [xX13_late_23, xX13_late_24, xX13_late_27, xX13_late_30, xX13_late_33, xX13_late_34, xX13_late_35, xX13_late_38, xX13_late_41, xX13_late_42, xX13_late_43, xX13_late_45, xX13_late_48, xX13_late_49, xX13_late_52, xX13_late_53, xX13_late_54, xX13_late_55, xX13_late_56, xX13_late_57, xX13_late_60, cK_some, ofR_some, ofR_none, Option.toList_some, Option.toList_none, List.cons_append, List.nil_append, isL_i, isL_r, isL_u, isL_2, cs_0, cs_i, cs_r, cs_l, cs_ii, cs_ir, cs_ri, cs_rr, cs_iir, cs_irr, cs_iii, cs_iri, cs_rii, cs_rir, cs_rri, cs_rrr, cs_iiii, cs_iiir, cs_iiri, cs_iirr, cs_irii, cs_irir, cs_irri, cs_irrr, cs_riii, cs_riir, cs_riri, cs_rirr, cs_rrii, cs_rrir, cs_rrri, cs_rrrr, hms_1, hms_2, hms_3, hms_4, hms_5, hms_6, hms_7, hms_8, hms_9, hms_10, hms_11, hms_12, hms_13, hms_14, hms_15, hms_16, hms_17, hms_18, hms_19, hms_20, hms_21, hms_22, hms_23, hms_24, hms_25, hms_26, hms_27, hms_28, hms_29, hms_30, hms_31, hms_32, hms_33, hms_34, hms_35, hms_36, hms_37, hms_38, hms_39, y1, e8, hlt, eh, em, orz, nI_add, Nat.add_sub_cancel, Nat.add_zero, Nat.zero_add, nI_lt, nI_nlt, nI_le, nI_ge, nI_pos, pk_sub, nI_clamp, s2_ne, s2_o, s2_s, nI_add, inb_n, nI_nn, zq0, zq1, ↓reduceIte]
        | some t =>
          rw [hmb] at eh
          have eh : J0 (S + 11) b = nI t := eh
          have ht := (hh b hb).2 t hmb
          have em : (nI t = -2) = False := eq_false (nI_nm2 (by omega))
          simp (disch := first | assumption | (simp (disch := omega) only [cK_some, ofR_some, ofR_none, Option.toList_some, Option.toList_none, List.cons_append, List.nil_append, isL_i, isL_r, isL_u, isL_2, cs_0, cs_i, cs_r, cs_l, cs_ii, cs_ir, cs_ri, cs_rr, cs_iir, cs_irr, cs_iii, cs_iri, cs_rii, cs_rir, cs_rri, cs_rrr, cs_iiii, cs_iiir, cs_iiri, cs_iirr, cs_irii, cs_irir, cs_irri, cs_irrr, cs_riii, cs_riir, cs_riri, cs_rirr, cs_rrii, cs_rrir, cs_rrri, cs_rrrr, hms_1, hms_2, hms_3, hms_4, hms_5, hms_6, hms_7, hms_8, hms_9, hms_10, hms_11, hms_12, hms_13, hms_14, hms_15, hms_16, hms_17, hms_18, hms_19, hms_20, hms_21, hms_22, hms_23, hms_24, hms_25, hms_26, hms_27, hms_28, hms_29, hms_30, hms_31, hms_32, hms_33, hms_34, hms_35, hms_36, hms_37, hms_38, hms_39, l1, lS, inb_n, bq4, bq5, n100, not_false_eq_true, isB_0, isB_1, nI_clamp, nI_nneg, Nat.zero_add, Nat.le_refl]; done) | omega | (simp (disch := omega) only [cK_some, ofR_some, ofR_none, Option.toList_some, Option.toList_none, List.cons_append, List.nil_append, isL_i, isL_r, isL_u, isL_2, cs_0, cs_i, cs_r, cs_l, cs_ii, cs_ir, cs_ri, cs_rr, cs_iir, cs_irr, cs_iii, cs_iri, cs_rii, cs_rir, cs_rri, cs_rrr, cs_iiii, cs_iiir, cs_iiri, cs_iirr, cs_irii, cs_irir, cs_irri, cs_irrr, cs_riii, cs_riir, cs_riri, cs_rirr, cs_rrii, cs_rrir, cs_rrri, cs_rrrr, hms_1, hms_2, hms_3, hms_4, hms_5, hms_6, hms_7, hms_8, hms_9, hms_10, hms_11, hms_12, hms_13, hms_14, hms_15, hms_16, hms_17, hms_18, hms_19, hms_20, hms_21, hms_22, hms_23, hms_24, hms_25, hms_26, hms_27, hms_28, hms_29, hms_30, hms_31, hms_32, hms_33, hms_34, hms_35, hms_36, hms_37, hms_38, hms_39, l1, lS, inb_n, bq4, bq5, n100, not_false_eq_true, isB_0, isB_1, nI_clamp, nI_nneg, Nat.zero_add, Nat.le_refl]; omega)) only [xX13_late_23, xX13_late_24, xX13_late_27, xX13_late_30, xX13_late_33, xX13_late_34, xX13_late_35, xX13_late_38, xX13_late_41, xX13_late_42, xX13_late_43, xX13_late_45, xX13_late_48, xX13_late_49, xX13_late_52, xX13_late_53, xX13_late_54, xX13_late_55, xX13_late_56, xX13_late_57, xX13_late_60, cK_some, ofR_some, ofR_none, Option.toList_some, Option.toList_none, List.cons_append, List.nil_append, isL_i, isL_r, isL_u, isL_2, cs_0, cs_i, cs_r, cs_l, cs_ii, cs_ir, cs_ri, cs_rr, cs_iir, cs_irr, cs_iii, cs_iri, cs_rii, cs_rir, cs_rri, cs_rrr, cs_iiii, cs_iiir, cs_iiri, cs_iirr, cs_irii, cs_irir, cs_irri, cs_irrr, cs_riii, cs_riir, cs_riri, cs_rirr, cs_rrii, cs_rrir, cs_rrri, cs_rrrr, hms_1, hms_2, hms_3, hms_4, hms_5, hms_6, hms_7, hms_8, hms_9, hms_10, hms_11, hms_12, hms_13, hms_14, hms_15, hms_16, hms_17, hms_18, hms_19, hms_20, hms_21, hms_22, hms_23, hms_24, hms_25, hms_26, hms_27, hms_28, hms_29, hms_30, hms_31, hms_32, hms_33, hms_34, hms_35, hms_36, hms_37, hms_38, hms_39, y1, e8, hlt, eh, em, hor, nI_add, Nat.add_sub_cancel, Nat.add_zero, Nat.zero_add, nI_lt, nI_nlt, nI_le, nI_ge, nI_pos, pk_sub, nI_clamp, s2_ne, s2_o, s2_s, nI_add, inb_n, nI_nn, zq0, zq1, ↓reduceIte])
      try dsimp only at hch
      have e00 : s0L (rHm (gRS g)) 0 = 0 := rfl
      rw [e00] at hch
      obtain ⟨J1, f1, f2, f3⟩ := mo_starts (d := d + 11) (r := 21) q2.k w1 w2 (by decide)
      obtain ⟨K, T', g1, g2, g3⟩ := mo_lateLoop (d := d) (J0 := J1) (hm := rHm (gRS g)) l1 l16 u2 y1 hms hmS (wp.fr (fun c hc => f3.1 c (by omega))) (by rw [f3.1 _ (by omega)]; exact e8) (fun b hb => ⟨by rw [f3.1 _ (by omega)]; exact wh b hb, (hh b hb).2⟩) rfl hN6 ho (rSt (gRS g) + 1) 0 J1 _ .unset rfl (Nat.zero_add _) MF.rf (s0L_chi (h := gH g) (q := q0R (gRS g)) (F := rF (gRS g)) (hm := rHm (gRS g)) (hN (gH g)) hN6) (fun _ => f2)
      have eT : T' = (lateB (gH g) (q0R (gRS g)) (rF (gRS g)) (rHm (gRS g)) (rSt (gRS g)) (hN (gH g))) := chi_eq g3 (lateB_chi (hN (gH g)) hN6)
      rw [eT] at g1
      have hnl : (nI (hN (gH g)) < nI (hN (gH g))) = False := eq_false nI_nn
      refine ⟨s2 (s2 K (x + 339) 1 (nI 0)) (x + 339) 2 (-1), ?_, MFr.ms (by rw [hJ0]; exact (f3.tr g2).ms (Nat.le_refl _))⟩
      have := True.intro
      simp (disch := first | assumption | (simp (disch := omega) only [cK_some, ofR_some, ofR_none, Option.toList_some, Option.toList_none, List.cons_append, List.nil_append, isL_i, isL_r, isL_u, isL_2, cs_0, cs_i, cs_r, cs_l, cs_ii, cs_ir, cs_ri, cs_rr, cs_iir, cs_irr, cs_iii, cs_iri, cs_rii, cs_rir, cs_rri, cs_rrr, cs_iiii, cs_iiir, cs_iiri, cs_iirr, cs_irii, cs_irir, cs_irri, cs_irrr, cs_riii, cs_riir, cs_riri, cs_rirr, cs_rrii, cs_rrir, cs_rrri, cs_rrrr, l1, inb_n, bq4, bq5, n100, not_false_eq_true, isB_0, isB_1, nI_clamp, nI_nneg, Nat.zero_add, Nat.le_refl]; done) | omega | (simp (disch := omega) only [cK_some, ofR_some, ofR_none, Option.toList_some, Option.toList_none, List.cons_append, List.nil_append, isL_i, isL_r, isL_u, isL_2, cs_0, cs_i, cs_r, cs_l, cs_ii, cs_ir, cs_ri, cs_rr, cs_iir, cs_irr, cs_iii, cs_iri, cs_rii, cs_rir, cs_rri, cs_rrr, cs_iiii, cs_iiir, cs_iiri, cs_iirr, cs_irii, cs_irir, cs_irri, cs_irrr, cs_riii, cs_riir, cs_riri, cs_rirr, cs_rrii, cs_rrir, cs_rrri, cs_rrrr, l1, inb_n, bq4, bq5, n100, not_false_eq_true, isB_0, isB_1, nI_clamp, nI_nneg, Nat.zero_add, Nat.le_refl]; omega)) only [xX13_late_0, xX13_late_1, xX13_late_2, cK_some, ofR_some, ofR_none, Option.toList_some, Option.toList_none, List.cons_append, List.nil_append, isL_i, isL_r, isL_u, isL_2, cs_0, cs_i, cs_r, cs_l, cs_ii, cs_ir, cs_ri, cs_rr, cs_iir, cs_irr, cs_iii, cs_iri, cs_rii, cs_rir, cs_rri, cs_rrr, cs_iiii, cs_iiir, cs_iiri, cs_iirr, cs_irii, cs_irir, cs_irri, cs_irrr, cs_riii, cs_riir, cs_riri, cs_rirr, cs_rrii, cs_rrir, cs_rrri, cs_rrrr, rX13_late, Nat.add_sub_cancel, Nat.add_zero, Nat.zero_add, nI_lt, nI_nlt, nI_le, nI_ge, nI_pos, pk_sub, nI_clamp, s2_ne, s2_o, s2_s, nI_add, inb_n, nI_nn, zq0, zq1, ↓reduceIte]
      rw [hJ0]
      simp (disch := first | assumption | (simp (disch := omega) only [cK_some, ofR_some, ofR_none, Option.toList_some, Option.toList_none, List.cons_append, List.nil_append, isL_i, isL_r, isL_u, isL_2, cs_0, cs_i, cs_r, cs_l, cs_ii, cs_ir, cs_ri, cs_rr, cs_iir, cs_irr, cs_iii, cs_iri, cs_rii, cs_rir, cs_rri, cs_rrr, cs_iiii, cs_iiir, cs_iiri, cs_iirr, cs_irii, cs_irir, cs_irri, cs_irrr, cs_riii, cs_riir, cs_riri, cs_rirr, cs_rrii, cs_rrir, cs_rrri, cs_rrrr, l1, inb_n, bq4, bq5, n100, not_false_eq_true, isB_0, isB_1, nI_clamp, nI_nneg, Nat.zero_add, Nat.le_refl]; done) | omega | (simp (disch := omega) only [cK_some, ofR_some, ofR_none, Option.toList_some, Option.toList_none, List.cons_append, List.nil_append, isL_i, isL_r, isL_u, isL_2, cs_0, cs_i, cs_r, cs_l, cs_ii, cs_ir, cs_ri, cs_rr, cs_iir, cs_irr, cs_iii, cs_iri, cs_rii, cs_rir, cs_rri, cs_rrr, cs_iiii, cs_iiir, cs_iiri, cs_iirr, cs_irii, cs_irir, cs_irri, cs_irrr, cs_riii, cs_riir, cs_riri, cs_rirr, cs_rrii, cs_rrir, cs_rrri, cs_rrrr, l1, inb_n, bq4, bq5, n100, not_false_eq_true, isB_0, isB_1, nI_clamp, nI_nneg, Nat.zero_add, Nat.le_refl]; omega)) only [xX13_late_5, xX13_late_6, xX13_late_9r, xX13_late_9n, xX13_late_12, xX13_late_13, xX13_late_14, xX13_late_17, xX13_late_18, xX13_late_19, xX13_late_20, xX13_late_21, cK_some, ofR_some, ofR_none, Option.toList_some, Option.toList_none, List.cons_append, List.nil_append, isL_i, isL_r, isL_u, isL_2, cs_0, cs_i, cs_r, cs_l, cs_ii, cs_ir, cs_ri, cs_rr, cs_iir, cs_irr, cs_iii, cs_iri, cs_rii, cs_rir, cs_rri, cs_rrr, cs_iiii, cs_iiir, cs_iiri, cs_iirr, cs_irii, cs_irir, cs_irri, cs_irrr, cs_riii, cs_riir, cs_riri, cs_rirr, cs_rrii, cs_rrir, cs_rrri, cs_rrrr, y1, Nat.add_sub_cancel, Nat.add_zero, Nat.zero_add, nI_lt, nI_nlt, nI_le, nI_ge, nI_pos, pk_sub, nI_clamp, s2_ne, s2_o, s2_s, nI_add, inb_n, nI_nn, zq0, zq1, ↓reduceIte]
      refine Eq.trans hch ?_
      rw [xX13_late_22]
      simp (disch := first | assumption | (simp (disch := omega) only [cK_some, ofR_some, ofR_none, Option.toList_some, Option.toList_none, List.cons_append, List.nil_append, isL_i, isL_r, isL_u, isL_2, cs_0, cs_i, cs_r, cs_l, cs_ii, cs_ir, cs_ri, cs_rr, cs_iir, cs_irr, cs_iii, cs_iri, cs_rii, cs_rir, cs_rri, cs_rrr, cs_iiii, cs_iiir, cs_iiri, cs_iirr, cs_irii, cs_irir, cs_irri, cs_irrr, cs_riii, cs_riir, cs_riri, cs_rirr, cs_rrii, cs_rrir, cs_rrri, cs_rrrr, l1, lS, inb_n, bq4, bq5, n100, not_false_eq_true, isB_0, isB_1, nI_clamp, nI_nneg, Nat.zero_add, Nat.le_refl]; done) | omega | (simp (disch := omega) only [cK_some, ofR_some, ofR_none, Option.toList_some, Option.toList_none, List.cons_append, List.nil_append, isL_i, isL_r, isL_u, isL_2, cs_0, cs_i, cs_r, cs_l, cs_ii, cs_ir, cs_ri, cs_rr, cs_iir, cs_irr, cs_iii, cs_iri, cs_rii, cs_rir, cs_rri, cs_rrr, cs_iiii, cs_iiir, cs_iiri, cs_iirr, cs_irii, cs_irir, cs_irri, cs_irrr, cs_riii, cs_riir, cs_riri, cs_rirr, cs_rrii, cs_rrir, cs_rrri, cs_rrrr, l1, lS, inb_n, bq4, bq5, n100, not_false_eq_true, isB_0, isB_1, nI_clamp, nI_nneg, Nat.zero_add, Nat.le_refl]; omega)) only [xX13_late_23, xX13_late_24, xX13_late_27, xX13_late_30, xX13_late_63, xX13_late_64, xX13_late_66, xX13_late_69, xX13_late_70, cK_some, ofR_some, ofR_none, Option.toList_some, Option.toList_none, List.cons_append, List.nil_append, isL_i, isL_r, isL_u, isL_2, cs_0, cs_i, cs_r, cs_l, cs_ii, cs_ir, cs_ri, cs_rr, cs_iir, cs_irr, cs_iii, cs_iri, cs_rii, cs_rir, cs_rri, cs_rrr, cs_iiii, cs_iiir, cs_iiri, cs_iirr, cs_irii, cs_irir, cs_irri, cs_irrr, cs_riii, cs_riir, cs_riri, cs_rirr, cs_rrii, cs_rrir, cs_rrri, cs_rrrr, y1, e8, hnl, f1, Nat.add_sub_cancel, Nat.add_zero, Nat.zero_add, nI_lt, nI_nlt, nI_le, nI_ge, nI_pos, pk_sub, nI_clamp, s2_ne, s2_o, s2_s, nI_add, inb_n, nI_nn, zq0, zq1, ↓reduceIte]
      exact g1)
