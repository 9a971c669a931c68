/-! the model reads a towel -/
/-- behind the word that begins a line -/
def bgQ (B : Nat → Nat) (e : Nat) (full told : Bool) (a : Nat) : Er ⊕ Nat := if full = true then .inl (5, kS (tk B e a)) else if told = true then .inr (kE (tk B e a)) else .inl (6, kS (tk B e a))
theorem bgQ_ln {α : Type} {B : Nat → Nat} {e a : Nat} {full told : Bool} {f : Nat → Er ⊕ α} {P : Prop} [Decidable P] (h : full = true ↔ ¬ P) : (if P then (if told = true then f (kE (tk B e a)) else .inl (6, kS (tk B e a))) else .inl (5, kS (tk B e a))) = bnd (bgQ B e full told a) f := by
  unfold bgQ
  by_cases c : P
  · have hf : ¬ full = true := fun z => h.mp z c
    rw [if_pos c, if_neg hf]
    cases told <;> rfl
  · rw [if_neg c, if_pos (h.mpr c)]
    rfl
theorem m_bgn {d m R e many most a : Nat} {B : Nat → Nat} {r : RS} {G : Gm} {I : Im} (hM : MR G m R) (hX : TmV I m B e) (H : MdS G I m B e (.inr a)) (h1 : kK (tk B e a) = 1) (hr : RM G I R B r) (ho : ROk e r) (hm1 : many < 1000) (hm2 : most < 1000) :
    ∃ (G' : Gm) (I' : Im), run (d + 2) mX13_begins [.ref m, .int (nI many), .int (nI most)] G I = some (none, G', I') ∧ MdP m R B e G G' I I' (bgQ B e (decide (many = most)) r.1.isSome a) := by
  have key : ∀ s, I R 0 = nI s → s < 1000 → (s = 0 ↔ r.1.isSome = false) → ∃ (G' : Gm) (I' : Im), run (d + 2) mX13_begins [.ref m, .int (nI many), .int (nI most)] G I = some (none, G', I') ∧ MdP m R B e G G' I I' (bgQ B e (decide (many = most)) r.1.isSome a) := by
    intro s h0 hl hz
    obtain ⟨G', I', g1, g2⟩ := m_begins (d := d) hM hX H h1 h0 hl hm1 hm2
    refine ⟨G', I', g1, ?_⟩
    have e1 : bgQ B e (decide (many = most)) r.1.isSome a = bgP B e (decide (many = most)) (decide (s = 0)) a := by
      unfold bgQ bgP
      cases hq : r.1.isSome with
      | false => rw [decide_eq_true (hz.mpr hq)]; rfl
      | true => rw [decide_eq_false (p := s = 0) (fun z => by rw [hz.mp z] at hq; cases hq)]; rfl
    rw [e1]
    exact g2
  cases hs : r.1 with
  | none => rw [hs] at key; exact key 0 (hr.1 hs) (by omega) ⟨fun _ => rfl, fun _ => rfl⟩
  | some s =>
    have hb := ho.1 s hs
    rw [hs] at key
    exact key s.1 (hr.2.1 s hs).1.1 (by have := hb.2.1; omega) ⟨fun z => by have := hb.1; omega, fun z => (by cases z)⟩
theorem bdd_pN {B : Nat → Nat} {e lo hi a : Nat} : match bdd B e lo hi a with
    | .inl x => pN B e a lo hi = .inl x
    | .inr a' => a' = a ∧ pN B e a lo hi = .inr (kV (tk B e a), kE (tk B e a)) ∧ lo ≤ kV (tk B e a) ∧ kV (tk B e a) ≤ hi := by
  unfold bdd pN
  by_cases c1 : kK (tk B e a) = 2
  · rw [if_pos c1, if_pos c1]
    by_cases c2 : lo ≤ kV (tk B e a) ∧ kV (tk B e a) ≤ hi
    · rw [if_pos c2, if_pos c2]; exact ⟨rfl, rfl, c2⟩
    · rw [if_neg c2, if_neg c2]
  · rw [if_neg c1, if_neg c1]
def tw1 (B : Nat → Nat) (e : Nat) (r : RS) (y0 : Er ⊕ Nat) : Er ⊕ Nat := bnd y0 (fun a => pF B e a (rNn r) (rNm r))
def tw2 (B : Nat → Nat) (e : Nat) (r : RS) (y0 : Er ⊕ Nat) : Er ⊕ Nat := bnd (tw1 B e r y0) (fun a => pW B e a (wN 14))
def tw3 (B : Nat → Nat) (e : Nat) (r : RS) (y0 : Er ⊕ Nat) : Er ⊕ Nat := bnd (tw2 B e r y0) (bdd B e 1 4)
def twR (B : Nat → Nat) (e : Nat) (r : RS) (a : Nat) : Er ⊕ Nat := if 6 < rP r + kV (tk B e a) then .inl (5, kS (tk B e a)) else .inr a
def tw4 (B : Nat → Nat) (e : Nat) (r : RS) (y0 : Er ⊕ Nat) : Er ⊕ Nat := adv B e (bnd (tw3 B e r y0) (twR B e r))
def tw5 (B : Nat → Nat) (e : Nat) (r : RS) (y0 : Er ⊕ Nat) : Er ⊕ (Nat × Nat) := ptP B e 15 1 99 (tw4 B e r y0)
def tw6 (B : Nat → Nat) (e : Nat) (r : RS) (y0 : Er ⊕ Nat) : Er ⊕ (Nat × Nat) := ptP B e 16 0 (vlN 1 (tw5 B e r y0)) (stN (tw5 B e r y0))
theorem tw_all {B : Nat → Nat} {e : Nat} {r : RS} {y0 : Er ⊕ Nat} : (∀ x, stN (tw6 B e r y0) = .inl x → bnd y0 (fun a => lnTowel B e a r) = .inl x) ∧ (∀ b, stN (tw6 B e r y0) = .inr b → ∃ a0 a1, y0 = .inr a0 ∧ pF B e a0 (rNn r) (rNm r) = .inr a1 ∧ 1 ≤ bvv B e 1 (tw3 B e r y0) ∧ bvv B e 1 (tw3 B e r y0) ≤ 4 ∧ rP r + bvv B e 1 (tw3 B e r y0) ≤ 6 ∧
    bnd y0 (fun a => lnTowel B e a r) = .inr (b, addTowel r (bvv B e 1 (tw3 B e r y0)) (vlN 1 (tw5 B e r y0)) (vlN 0 (tw6 B e r y0)) (kS (tk B e a0), kE (tk B e a0), true, rT r))) := by
  unfold tw6 tw5 tw4 tw3 tw2 tw1 ptP stN adv lnTowel
  cases y0 with
  | inl x => exact ⟨fun x h => by cases h; rfl, fun b h => by cases h⟩
  | inr a0 =>
    simp only [bnd_r]
    cases h1 : pF B e a0 (rNn r) (rNm r) with
    | inl x =>
      simp only [bnd_l, bnd_r]
      exact ⟨fun x h => by cases h; rfl, fun b h => by cases h⟩
    | inr a1 =>
      simp only [bnd_l, bnd_r]
      cases h2 : pW B e a1 (wN 14) with
      | inl x =>
        simp only [bnd_l, bnd_r]
        exact ⟨fun x h => by cases h; rfl, fun b h => by cases h⟩
      | inr a2 =>
        have hbp := bdd_pN (B := B) (e := e) (lo := 1) (hi := 4) (a := a2)
        simp only [bnd_l, bnd_r]
        cases h3 : bdd B e 1 4 a2 with
        | inl x =>
          rw [h3] at hbp
          try dsimp only at hbp
          simp only [bnd_l, bnd_r, hbp]
          exact ⟨fun x h => by cases h; rfl, fun b h => by cases h⟩
        | inr a3 =>
          rw [h3] at hbp
          obtain ⟨ea, hp, hb1, hb2⟩ := hbp
          subst ea
          simp only [bnd_l, bnd_r, hp, bvv]
          unfold twR
          by_cases c : 6 < rP r + kV (tk B e a3)
          · simp only [if_pos c, bnd_l, bnd_r]
            exact ⟨fun x h => by cases h; rfl, fun b h => by cases h⟩
          · simp only [if_neg c, bnd_l, bnd_r]
            cases h4 : pW B e (kE (tk B e a3)) (wN 15) with
            | inl x =>
              simp only [bnd_l, bnd_r]
              exact ⟨fun x h => by cases h; rfl, fun b h => by cases h⟩
            | inr a4 =>
              simp only [bnd_l, bnd_r]
              cases h5 : pN B e a4 1 99 with
              | inl x =>
                simp only [bnd_l, bnd_r]
                exact ⟨fun x h => by cases h; rfl, fun b h => by cases h⟩
              | inr v2 =>
                simp only [bnd_l, bnd_r, vlN]
                cases h6 : pW B e v2.2 (wN 16) with
                | inl x =>
                  simp only [bnd_l, bnd_r]
                  exact ⟨fun x h => by cases h; rfl, fun b h => by cases h⟩
                | inr a5 =>
                  simp only [bnd_l, bnd_r]
                  cases h7 : pN B e a5 0 v2.1 with
                  | inl x =>
                    simp only [bnd_l, bnd_r]
                    exact ⟨fun x h => by cases h; rfl, fun b h => by cases h⟩
                  | inr v3 =>
                    simp only [bnd_l, bnd_r]
                    exact ⟨fun x h => (by cases h), fun b h => by cases h; exact ⟨a0, a1, rfl, h1, hb1, hb2, by omega, rfl⟩⟩
theorem NmM.fr {G : Gm} {I I' : Im} {R n : Nat} {B : Nat → Nat} {N : Nat → Nme} (h : NmM G I R B n N) (h0 : I' R 11 = I R 11) (h1 : I' (R + 18) = I (R + 18)) (h2 : I' (R + 19) = I (R + 19)) : NmM G I' R B n N := by
  unfold NmM at h ⊢
  rw [h0, h1, h2]
  exact h
theorem pF_1 {B : Nat → Nat} {e a n a' : Nat} {N : Nat → Nme} (h : pF B e a n N = .inr a') : kK (tk B e a) = 1 ∧ a' = kE (tk B e a) := by
  unfold pF at h
  split at h
  · rename_i c
    split at h
    · cases h; exact ⟨c.1, rfl⟩
    · cases h
  · cases h
def twW (z : Im) (R P T : Nat) (n : Nat) : Im := fo z (fun z k => s2 z (R + 5) (P + k) (nI T)) n
theorem twW_v {z : Im} {R P T : Nat} : ∀ n, (∀ c, c ≠ R + 5 → twW z R P T n c = z c) ∧ ∀ p, twW z R P T n (R + 5) p = if P ≤ p ∧ p < P + n then nI T else z (R + 5) p
  | 0 => ⟨fun _ _ => rfl, fun p => by rw [if_neg (by omega)]; rfl⟩
  | n + 1 => by
    obtain ⟨h1, h2⟩ := twW_v (z := z) (R := R) (P := P) (T := T) n
    have es : twW z R P T (n + 1) = s2 (twW z R P T n) (R + 5) (P + n) (nI T) := rfl
    rw [es]
    refine ⟨fun c hc => by rw [s2_ne hc]; exact h1 c hc, fun p => ?_⟩
    by_cases c : p = P + n
    · rw [c, s2_s, if_pos (by omega)]
    · rw [s2_o c, h2 p]
      by_cases c2 : P ≤ p ∧ p < P + n
      · rw [if_pos c2, if_pos (by omega)]
      · rw [if_neg c2, if_neg (by omega)]
theorem m_readTowel {d m R e a : Nat} {B : Nat → Nat} {r : RS} {G : Gm} {I : Im} (hM : MR G m R) (hX : TmV I m B e) (H : MdS G I m B e (.inr a)) (h1 : kK (tk B e a) = 1) (hr : RM G I R B r) (ho : ROk e r) :
    ∃ (G' : Gm) (I' : Im), run (d + 5) mX13_readTowel [.ref m] G I = some (none, G', I') ∧ AnM G' I' m R B e (bnd (bgQ B e (decide (rT r = 3)) r.1.isSome a) (fun a => lnTowel B e a r)) ∧ GL m R G G' ∧ FR m R I I' := by
  have hT3 := ho.2.1.1
  have hP6 := ho.2.1.2.1
  have hNn := ho.2.1.2.2.2.2.2
  have hN6 := ho.2.1.2.2.1
  obtain ⟨l1, l2, l3, l4, hS, l6⟩ := id hM
  obtain ⟨G1, I1, f1, g1, ge1, fm1⟩ := m_bgn (d := d + 2) (many := rT r) (most := 3) hM hX H h1 hr ho (by omega) (by omega)
  have hfull : bgQ B e (decide (rT r = 3)) r.1.isSome a = bgQ B e (decide (rT r = 3)) r.1.isSome a := rfl
  have hlive : ∀ a0, bgQ B e (decide (rT r = 3)) r.1.isSome a = .inr a0 → rT r < 3 ∧ a0 ≤ e := fun a0 h => by
    unfold bgQ at h
    split at h
    · cases h
    · rename_i c
      split at h
      · cases h; exact ⟨by have : ¬ rT r = 3 := fun z => c (decide_eq_true z); omega, (tk_ord H.2.1).2.2.1⟩
      · cases h
  generalize bgQ B e (decide (rT r = 3)) r.1.isSome a = y0 at *
  have eT1 : gT G1 = gT G := ge1.2.1
  have eR1 : gR G1 = gR G := ge1.2.2.1
  have hr1 := hr.fm l6 ge1 fm1
  obtain ⟨w, G2, I2, f2, ⟨g2, ge2, fm2⟩, hw⟩ := m_readFresh (d := d + 1) (hM.ge ge1) (hX.fm fm1) g1 hr1.2.2.2.2.2.2.2 ho.2.2.2.2.2.2.2.1
  have gs2 := ge1.tr ge2
  have fs2 := fm1.tr fm2
  obtain ⟨G3, I3, f3, g3, ge3, fm3⟩ := m_needs (d := d + 2) (x := 1000000 + 39) (w := wN 14) (hM.ge gs2) (hX.fm fs2) g2 st39
  have gs3 := gs2.tr ge3
  have fs3 := fs2.tr fm3
  obtain ⟨I4, f4, g4, fm4⟩ := m_bounded (d := d + 3) (lo := 1) (hi := 4) (hM.ge gs3) g3 (by decide) (by decide)
  have fs4 := fs3.tr fm4
  have hr4 := hr.fm l6 gs3 fs4
  have eT2 : gT G2 = gT G := gs2.2.1
  have eR2 : gR G2 = gR G := gs2.2.2.1
  have eT3 : gT G3 = gT G := gs3.2.1
  have eR3 : gR G3 = gR G := gs3.2.2.1
  have g4' : MdS G3 I4 m B e (tw3 B e r y0) := g4
  have f4' : run (d + 4) mX13_bounded [.ref m, .int (nI 1), .int (nI 4)] G3 I3 = some (some (.int (nI (bvv B e 1 (tw3 B e r y0)))), G3, I4) := f4
  obtain ⟨p1, p2⟩ := tw_all (B := B) (e := e) (r := r) (y0 := y0)
  have eP := hr.2.2.1.2.1
  have eP4 := hr4.2.2.1.2.1
  have eT := hr.2.2.1.1
  have seg : ∃ I5, ex (d + 5) mX13_readTowel 31 [.val (.ref m), .val (.long w), .second, .val (.int (nI (bvv B e 1 (tw3 B e r y0)))), .unset, .unset, .unset, .unset] [] G3 I4 = ex (d + 5) mX13_readTowel 58 [.val (.ref m), .val (.long w), .second, .val (.int (nI (bvv B e 1 (tw3 B e r y0)))), .unset, .unset, .unset, .unset] [] G3 I5 ∧ MdS G3 I5 m B e (bnd (tw3 B e r y0) (twR B e r)) ∧ FM m I4 I5 := by
    obtain ⟨J, k1, k2, k3⟩ := m_flaw (d := d + 4) (n := 5) (hM.ge gs3) g4'
    have hS_1 := hS.1; have hS_2 := hS.2.1; have hS_3 := hS.2.2.1; have hS_4 := hS.2.2.2.1; have hS_5 := hS.2.2.2.2.1; have hS_6 := hS.2.2.2.2.2.1; have hS_7 := hS.2.2.2.2.2.2.1; have hS_8 := hS.2.2.2.2.2.2.2.1; have hS_9 := hS.2.2.2.2.2.2.2.2.1; have hS_10 := hS.2.2.2.2.2.2.2.2.2.1; have hS_11 := hS.2.2.2.2.2.2.2.2.2.2.1; have hS_12 := hS.2.2.2.2.2.2.2.2.2.2.2.1; have hS_13 := hS.2.2.2.2.2.2.2.2.2.2.2.2.1; have hS_14 := hS.2.2.2.2.2.2.2.2.2.2.2.2.2.1; have hS_15 := hS.2.2.2.2.2.2.2.2.2.2.2.2.2.2.1; have hS_16 := hS.2.2.2.2.2.2.2.2.2.2.2.2.2.2.2.1; have hS_17 := hS.2.2.2.2.2.2.2.2.2.2.2.2.2.2.2.2.1; have hS_18 := hS.2.2.2.2.2.2.2.2.2.2.2.2.2.2.2.2.2.1; have hS_19 := hS.2.2.2.2.2.2.2.2.2.2.2.2.2.2.2.2.2.2.1; have hS_20 := hS.2.2.2.2.2.2.2.2.2.2.2.2.2.2.2.2.2.2.2.1; have hS_21 := hS.2.2.2.2.2.2.2.2.2.2.2.2.2.2.2.2.2.2.2.2.1; have hS_22 := hS.2.2.2.2.2.2.2.2.2.2.2.2.2.2.2.2.2.2.2.2.2.1; have hS_23 := hS.2.2.2.2.2.2.2.2.2.2.2.2.2.2.2.2.2.2.2.2.2.2.1; have hS_24 := hS.2.2.2.2.2.2.2.2.2.2.2.2.2.2.2.2.2.2.2.2.2.2.2.1; have hS_25 := hS.2.2.2.2.2.2.2.2.2.2.2.2.2.2.2.2.2.2.2.2.2.2.2.2.1; have hS_26 := hS.2.2.2.2.2.2.2.2.2.2.2.2.2.2.2.2.2.2.2.2.2.2.2.2.2.1; have hS_27 := hS.2.2.2.2.2.2.2.2.2.2.2.2.2.2.2.2.2.2.2.2.2.2.2.2.2.2.1; have hS_28 := hS.2.2.2.2.2.2.2.2.2.2.2.2.2.2.2.2.2.2.2.2.2.2.2.2.2.2.2.1; have hS_29 := hS.2.2.2.2.2.2.2.2.2.2.2.2.2.2.2.2.2.2.2.2.2.2.2.2.2.2.2.2.1; have hS_30 := hS.2.2.2.2.2.2.2.2.2.2.2.2.2.2.2.2.2.2.2.2.2.2.2.2.2.2.2.2.2.1; have hS_31 := hS.2.2.2.2.2.2.2.2.2.2.2.2.2.2.2.2.2.2.2.2.2.2.2.2.2.2.2.2.2.2.1; have hS_32 := hS.2.2.2.2.2.2.2.2.2.2.2.2.2.2.2.2.2.2.2.2.2.2.2.2.2.2.2.2.2.2.2.1; have hS_33 := hS.2.2.2.2.2.2.2.2.2.2.2.2.2.2.2.2.2.2.2.2.2.2.2.2.2.2.2.2.2.2.2.2.1; have hS_34 := hS.2.2.2.2.2.2.2.2.2.2.2.2.2.2.2.2.2.2.2.2.2.2.2.2.2.2.2.2.2.2.2.2.2.1; have hS_35 := hS.2.2.2.2.2.2.2.2.2.2.2.2.2.2.2.2.2.2.2.2.2.2.2.2.2.2.2.2.2.2.2.2.2.2.1; have hS_36 := hS.2.2.2.2.2.2.2.2.2.2.2.2.2.2.2.2.2.2.2.2.2.2.2.2.2.2.2.2.2.2.2.2.2.2.2.1; have hS_37 := hS.2.2.2.2.2.2.2.2.2.2.2.2.2.2.2.2.2.2.2.2.2.2.2.2.2.2.2.2.2.2.2.2.2.2.2.2.1; have hS_38 := hS.2.2.2.2.2.2.2.2.2.2.2.2.2.2.2.2.2.2.2.2.2.2.2.2.2.2.2.2.2.2.2.2.2.2.2.2.2.1; have hS_39 := hS.2.2.2.2.2.2.2.2.2.2.2.2.2.2.2.2.2.2.2.2.2.2.2.2.2.2.2.2.2.2.2.2.2.2.2.2.2.2
    cases hy : tw3 B e r y0 with
    | inl x =>
      rw [hy] at g4'
      have h9 := g4'.deadT
      refine ⟨I4, ?_, g4', FM.rf⟩
      simp (disch := first | assumption | (simp (disch := omega) only [cK_some, ofR_some, ofR_none, Option.toList_some, Option.toList_none, List.cons_append, List.nil_append, isL_i, isL_r, isL_u, isL_2, cs_0, cs_i, cs_r, cs_l, cs_ii, cs_ir, cs_ri, cs_rr, cs_iir, cs_irr, cs_iii, cs_iri, cs_rii, cs_rir, cs_rri, cs_rrr, cs_iiii, cs_iiir, cs_iiri, cs_iirr, cs_irii, cs_irir, cs_irri, cs_irrr, cs_riii, cs_riir, cs_riri, cs_rirr, cs_rrii, cs_rrir, cs_rrri, cs_rrrr, hS_1, hS_2, hS_3, hS_4, hS_5, hS_6, hS_7, hS_8, hS_9, hS_10, hS_11, hS_12, hS_13, hS_14, hS_15, hS_16, hS_17, hS_18, hS_19, hS_20, hS_21, hS_22, hS_23, hS_24, hS_25, hS_26, hS_27, hS_28, hS_29, hS_30, hS_31, hS_32, hS_33, hS_34, hS_35, hS_36, hS_37, hS_38, hS_39, l1, eT3, inb_n, bq4, bq5, n100, not_false_eq_true, isB_0, isB_1, nI_clamp, nI_nneg, Nat.zero_add, Nat.le_refl]; done) | omega | (simp (disch := omega) only [cK_some, ofR_some, ofR_none, Option.toList_some, Option.toList_none, List.cons_append, List.nil_append, isL_i, isL_r, isL_u, isL_2, cs_0, cs_i, cs_r, cs_l, cs_ii, cs_ir, cs_ri, cs_rr, cs_iir, cs_irr, cs_iii, cs_iri, cs_rii, cs_rir, cs_rri, cs_rrr, cs_iiii, cs_iiir, cs_iiri, cs_iirr, cs_irii, cs_irir, cs_irri, cs_irrr, cs_riii, cs_riir, cs_riri, cs_rirr, cs_rrii, cs_rrir, cs_rrri, cs_rrrr, hS_1, hS_2, hS_3, hS_4, hS_5, hS_6, hS_7, hS_8, hS_9, hS_10, hS_11, hS_12, hS_13, hS_14, hS_15, hS_16, hS_17, hS_18, hS_19, hS_20, hS_21, hS_22, hS_23, hS_24, hS_25, hS_26, hS_27, hS_28, hS_29, hS_30, hS_31, hS_32, hS_33, hS_34, hS_35, hS_36, hS_37, hS_38, hS_39, l1, eT3, inb_n, bq4, bq5, n100, not_false_eq_true, isB_0, isB_1, nI_clamp, nI_nneg, Nat.zero_add, Nat.le_refl]; omega)) only [xX13_readTowel_31, xX13_readTowel_32, xX13_readTowel_35, xX13_readTowel_36, xX13_readTowel_39, xX13_readTowel_40, xX13_readTowel_43, xX13_readTowel_46, xX13_readTowel_47, xX13_readTowel_48, xX13_readTowel_50, xX13_readTowel_53, xX13_readTowel_54, xX13_readTowel_55, cK_some, ofR_some, ofR_none, Option.toList_some, Option.toList_none, List.cons_append, List.nil_append, isL_i, isL_r, isL_u, isL_2, cs_0, cs_i, cs_r, cs_l, cs_ii, cs_ir, cs_ri, cs_rr, cs_iir, cs_irr, cs_iii, cs_iri, cs_rii, cs_rir, cs_rri, cs_rrr, cs_iiii, cs_iiir, cs_iiri, cs_iirr, cs_irii, cs_irir, cs_irri, cs_irrr, cs_riii, cs_riir, cs_riri, cs_rirr, cs_rrii, cs_rrir, cs_rrri, cs_rrrr, hS_1, hS_2, hS_3, hS_4, hS_5, hS_6, hS_7, hS_8, hS_9, hS_10, hS_11, hS_12, hS_13, hS_14, hS_15, hS_16, hS_17, hS_18, hS_19, hS_20, hS_21, hS_22, hS_23, hS_24, hS_25, hS_26, hS_27, hS_28, hS_29, hS_30, hS_31, hS_32, hS_33, hS_34, hS_35, hS_36, hS_37, hS_38, hS_39, h9, Nat.add_sub_cancel, Nat.add_zero, Nat.zero_add, nI_lt, nI_nlt, nI_le, nI_ge, nI_pos, pk_sub, nI_clamp, s2_ne, s2_o, s2_s, nI_add, inb_n, nI_nn, zq0, zq1, ↓reduceIte]
    | inr a3 =>
      rw [hy] at g4' k2
      have h9 := g4'.live
      have hv := tk_v (B := B) (e := e) (a := a3)
      rw [bnd_r]
      unfold twR
      show ∃ I5, ex (d + 5) mX13_readTowel 31 [.val (.ref m), .val (.long w), .second, .val (.int (nI (kV (tk B e a3)))), .unset, .unset, .unset, .unset] [] G3 I4 = ex (d + 5) mX13_readTowel 58 [.val (.ref m), .val (.long w), .second, .val (.int (nI (kV (tk B e a3)))), .unset, .unset, .unset, .unset] [] G3 I5 ∧ MdS G3 I5 m B e (if 6 < rP r + kV (tk B e a3) then .inl (5, kS (tk B e a3)) else .inr a3) ∧ FM m I4 I5
      by_cases c : 6 < rP r + kV (tk B e a3)
      · have c' : (nI (rP r + kV (tk B e a3)) ≤ nI 6) = False := eq_false (nI_ge c (by omega))
        rw [if_pos c]
        refine ⟨J, ?_, k2, k3⟩
        simp (disch := first | assumption | (simp (disch := omega) only [cK_some, ofR_some, ofR_none, Option.toList_some, Option.toList_none, List.cons_append, List.nil_append, isL_i, isL_r, isL_u, isL_2, cs_0, cs_i, cs_r, cs_l, cs_ii, cs_ir, cs_ri, cs_rr, cs_iir, cs_irr, cs_iii, cs_iri, cs_rii, cs_rir, cs_rri, cs_rrr, cs_iiii, cs_iiir, cs_iiri, cs_iirr, cs_irii, cs_irir, cs_irri, cs_irrr, cs_riii, cs_riir, cs_riri, cs_rirr, cs_rrii, cs_rrir, cs_rrri, cs_rrrr, hS_1, hS_2, hS_3, hS_4, hS_5, hS_6, hS_7, hS_8, hS_9, hS_10, hS_11, hS_12, hS_13, hS_14, hS_15, hS_16, hS_17, hS_18, hS_19, hS_20, hS_21, hS_22, hS_23, hS_24, hS_25, hS_26, hS_27, hS_28, hS_29, hS_30, hS_31, hS_32, hS_33, hS_34, hS_35, hS_36, hS_37, hS_38, hS_39, l1, eT3, inb_n, bq4, bq5, n100, not_false_eq_true, isB_0, isB_1, nI_clamp, nI_nneg, Nat.zero_add, Nat.le_refl]; done) | omega | (simp (disch := omega) only [cK_some, ofR_some, ofR_none, Option.toList_some, Option.toList_none, List.cons_append, List.nil_append, isL_i, isL_r, isL_u, isL_2, cs_0, cs_i, cs_r, cs_l, cs_ii, cs_ir, cs_ri, cs_rr, cs_iir, cs_irr, cs_iii, cs_iri, cs_rii, cs_rir, cs_rri, cs_rrr, cs_iiii, cs_iiir, cs_iiri, cs_iirr, cs_irii, cs_irir, cs_irri, cs_irrr, cs_riii, cs_riir, cs_riri, cs_rirr, cs_rrii, cs_rrir, cs_rrri, cs_rrrr, hS_1, hS_2, hS_3, hS_4, hS_5, hS_6, hS_7, hS_8, hS_9, hS_10, hS_11, hS_12, hS_13, hS_14, hS_15, hS_16, hS_17, hS_18, hS_19, hS_20, hS_21, hS_22, hS_23, hS_24, hS_25, hS_26, hS_27, hS_28, hS_29, hS_30, hS_31, hS_32, hS_33, hS_34, hS_35, hS_36, hS_37, hS_38, hS_39, l1, eT3, inb_n, bq4, bq5, n100, not_false_eq_true, isB_0, isB_1, nI_clamp, nI_nneg, Nat.zero_add, Nat.le_refl]; omega)) only [xX13_readTowel_31, xX13_readTowel_32, xX13_readTowel_35, xX13_readTowel_36, xX13_readTowel_39, xX13_readTowel_40, xX13_readTowel_43, xX13_readTowel_46, xX13_readTowel_47, xX13_readTowel_48, xX13_readTowel_50, xX13_readTowel_53, xX13_readTowel_54, xX13_readTowel_55, cK_some, ofR_some, ofR_none, Option.toList_some, Option.toList_none, List.cons_append, List.nil_append, isL_i, isL_r, isL_u, isL_2, cs_0, cs_i, cs_r, cs_l, cs_ii, cs_ir, cs_ri, cs_rr, cs_iir, cs_irr, cs_iii, cs_iri, cs_rii, cs_rir, cs_rri, cs_rrr, cs_iiii, cs_iiir, cs_iiri, cs_iirr, cs_irii, cs_irir, cs_irri, cs_irrr, cs_riii, cs_riir, cs_riri, cs_rirr, cs_rrii, cs_rrir, cs_rrri, cs_rrrr, hS_1, hS_2, hS_3, hS_4, hS_5, hS_6, hS_7, hS_8, hS_9, hS_10, hS_11, hS_12, hS_13, hS_14, hS_15, hS_16, hS_17, hS_18, hS_19, hS_20, hS_21, hS_22, hS_23, hS_24, hS_25, hS_26, hS_27, hS_28, hS_29, hS_30, hS_31, hS_32, hS_33, hS_34, hS_35, hS_36, hS_37, hS_38, hS_39, h9, eR3, l2, eP4, nI_add, c', k1, Nat.add_sub_cancel, Nat.add_zero, Nat.zero_add, nI_lt, nI_nlt, nI_le, nI_ge, nI_pos, pk_sub, nI_clamp, s2_ne, s2_o, s2_s, nI_add, inb_n, nI_nn, zq0, zq1, ↓reduceIte]
      · have c' : (nI (rP r + kV (tk B e a3)) ≤ nI 6) = True := eq_true (nI_le (by omega) (by omega))
        rw [if_neg c]
        refine ⟨I4, ?_, g4', FM.rf⟩
        simp (disch := first | assumption | (simp (disch := omega) only [cK_some, ofR_some, ofR_none, Option.toList_some, Option.toList_none, List.cons_append, List.nil_append, isL_i, isL_r, isL_u, isL_2, cs_0, cs_i, cs_r, cs_l, cs_ii, cs_ir, cs_ri, cs_rr, cs_iir, cs_irr, cs_iii, cs_iri, cs_rii, cs_rir, cs_rri, cs_rrr, cs_iiii, cs_iiir, cs_iiri, cs_iirr, cs_irii, cs_irir, cs_irri, cs_irrr, cs_riii, cs_riir, cs_riri, cs_rirr, cs_rrii, cs_rrir, cs_rrri, cs_rrrr, hS_1, hS_2, hS_3, hS_4, hS_5, hS_6, hS_7, hS_8, hS_9, hS_10, hS_11, hS_12, hS_13, hS_14, hS_15, hS_16, hS_17, hS_18, hS_19, hS_20, hS_21, hS_22, hS_23, hS_24, hS_25, hS_26, hS_27, hS_28, hS_29, hS_30, hS_31, hS_32, hS_33, hS_34, hS_35, hS_36, hS_37, hS_38, hS_39, l1, eT3, inb_n, bq4, bq5, n100, not_false_eq_true, isB_0, isB_1, nI_clamp, nI_nneg, Nat.zero_add, Nat.le_refl]; done) | omega | (simp (disch := omega) only [cK_some, ofR_some, ofR_none, Option.toList_some, Option.toList_none, List.cons_append, List.nil_append, isL_i, isL_r, isL_u, isL_2, cs_0, cs_i, cs_r, cs_l, cs_ii, cs_ir, cs_ri, cs_rr, cs_iir, cs_irr, cs_iii, cs_iri, cs_rii, cs_rir, cs_rri, cs_rrr, cs_iiii, cs_iiir, cs_iiri, cs_iirr, cs_irii, cs_irir, cs_irri, cs_irrr, cs_riii, cs_riir, cs_riri, cs_rirr, cs_rrii, cs_rrir, cs_rrri, cs_rrrr, hS_1, hS_2, hS_3, hS_4, hS_5, hS_6, hS_7, hS_8, hS_9, hS_10, hS_11, hS_12, hS_13, hS_14, hS_15, hS_16, hS_17, hS_18, hS_19, hS_20, hS_21, hS_22, hS_23, hS_24, hS_25, hS_26, hS_27, hS_28, hS_29, hS_30, hS_31, hS_32, hS_33, hS_34, hS_35, hS_36, hS_37, hS_38, hS_39, l1, eT3, inb_n, bq4, bq5, n100, not_false_eq_true, isB_0, isB_1, nI_clamp, nI_nneg, Nat.zero_add, Nat.le_refl]; omega)) only [xX13_readTowel_31, xX13_readTowel_32, xX13_readTowel_35, xX13_readTowel_36, xX13_readTowel_39, xX13_readTowel_40, xX13_readTowel_43, xX13_readTowel_46, xX13_readTowel_47, xX13_readTowel_48, xX13_readTowel_50, xX13_readTowel_53, xX13_readTowel_54, xX13_readTowel_55, cK_some, ofR_some, ofR_none, Option.toList_some, Option.toList_none, List.cons_append, List.nil_append, isL_i, isL_r, isL_u, isL_2, cs_0, cs_i, cs_r, cs_l, cs_ii, cs_ir, cs_ri, cs_rr, cs_iir, cs_irr, cs_iii, cs_iri, cs_rii, cs_rir, cs_rri, cs_rrr, cs_iiii, cs_iiir, cs_iiri, cs_iirr, cs_irii, cs_irir, cs_irri, cs_irrr, cs_riii, cs_riir, cs_riri, cs_rirr, cs_rrii, cs_rrir, cs_rrri, cs_rrrr, hS_1, hS_2, hS_3, hS_4, hS_5, hS_6, hS_7, hS_8, hS_9, hS_10, hS_11, hS_12, hS_13, hS_14, hS_15, hS_16, hS_17, hS_18, hS_19, hS_20, hS_21, hS_22, hS_23, hS_24, hS_25, hS_26, hS_27, hS_28, hS_29, hS_30, hS_31, hS_32, hS_33, hS_34, hS_35, hS_36, hS_37, hS_38, hS_39, h9, eR3, l2, eP4, nI_add, c', Nat.add_sub_cancel, Nat.add_zero, Nat.zero_add, nI_lt, nI_nlt, nI_le, nI_ge, nI_pos, pk_sub, nI_clamp, s2_ne, s2_o, s2_s, nI_add, inb_n, nI_nn, zq0, zq1, ↓reduceIte]
  obtain ⟨I5, f5, g5, fm5⟩ := seg
  have fs5 := fs4.tr fm5
  obtain ⟨G6, I6, f6, g6, ge6, fm6⟩ := m_adv (d := d + 3) (hM.ge gs3) (hX.fm fs5) g5 (fun a' h => by
    obtain ⟨a3, hy, h7⟩ := bnd_le h
    obtain ⟨a2, -, h8⟩ := bnd_le hy
    have h9 := bdd_2 h8
    unfold twR at h7
    split at h7
    · cases h7
    · cases h7; rw [h9.1]; decide)
  have gs6 := gs3.tr ge6
  have fs6 := fs5.tr fm6
  have g6' : MdS G6 I6 m B e (tw4 B e r y0) := g6
  obtain ⟨G7, I7, f7, g7, ge7, fm7⟩ := m_readPart (d := d + 1) (x := 1000000 + 40) (w := wN 15) (lo := 1) (hi := 99) (hM.ge gs6) (hX.fm fs6) g6' st40 (by decide) (by decide)
  have gs7 := gs6.tr ge7
  have fs7 := fs6.tr fm7
  have g7' : MdS G7 I7 m B e (stN (tw5 B e r y0)) := g7
  have f7' : run (d + 4) mX13_readPart [.ref m, .ref (1000000 + 40), .int (nI 1), .int (nI 99)] G6 I6 = some (some (.int (nI (vlN 1 (tw5 B e r y0)))), G7, I7) := f7
  have hv5 : vlN 1 (tw5 B e r y0) ≤ 99 := pt_le (by decide) (by decide)
  obtain ⟨G8, I8, f8, g8, ge8, fm8⟩ := m_readPart (d := d + 1) (x := 1000000 + 41) (w := wN 16) (lo := 0) (hi := vlN 1 (tw5 B e r y0)) (hM.ge gs7) (hX.fm fs7) g7' st41 (by decide) (by omega)
  have gs8 := gs7.tr ge8
  have fs8 := fs7.tr fm8
  have g8' : MdS G8 I8 m B e (stN (tw6 B e r y0)) := g8
  have f8' : run (d + 4) mX13_readPart [.ref m, .ref (1000000 + 41), .int (nI 0), .int (nI (vlN 1 (tw5 B e r y0)))] G7 I7 = some (some (.int (nI (vlN 0 (tw6 B e r y0)))), G8, I8) := f8
  have eT6 : gT G6 = gT G := gs6.2.1
  have eR6 : gR G6 = gR G := gs6.2.2.1
  have eT7 : gT G7 = gT G := gs7.2.1
  have eR7 : gR G7 = gR G := gs7.2.2.1
  have eT8 : gT G8 = gT G := gs8.2.1
  have eR8 : gR G8 = gR G := gs8.2.2.1
  generalize bvv B e 1 (tw3 B e r y0) = n3 at *
  generalize vlN 1 (tw5 B e r y0) = n4 at *
  generalize vlN 0 (tw6 B e r y0) = n5 at *
  have hS_1 := hS.1; have hS_2 := hS.2.1; have hS_3 := hS.2.2.1; have hS_4 := hS.2.2.2.1; have hS_5 := hS.2.2.2.2.1; have hS_6 := hS.2.2.2.2.2.1; have hS_7 := hS.2.2.2.2.2.2.1; have hS_8 := hS.2.2.2.2.2.2.2.1; have hS_9 := hS.2.2.2.2.2.2.2.2.1; have hS_10 := hS.2.2.2.2.2.2.2.2.2.1; have hS_11 := hS.2.2.2.2.2.2.2.2.2.2.1; have hS_12 := hS.2.2.2.2.2.2.2.2.2.2.2.1; have hS_13 := hS.2.2.2.2.2.2.2.2.2.2.2.2.1; have hS_14 := hS.2.2.2.2.2.2.2.2.2.2.2.2.2.1; have hS_15 := hS.2.2.2.2.2.2.2.2.2.2.2.2.2.2.1; have hS_16 := hS.2.2.2.2.2.2.2.2.2.2.2.2.2.2.2.1; have hS_17 := hS.2.2.2.2.2.2.2.2.2.2.2.2.2.2.2.2.1; have hS_18 := hS.2.2.2.2.2.2.2.2.2.2.2.2.2.2.2.2.2.1; have hS_19 := hS.2.2.2.2.2.2.2.2.2.2.2.2.2.2.2.2.2.2.1; have hS_20 := hS.2.2.2.2.2.2.2.2.2.2.2.2.2.2.2.2.2.2.2.1; have hS_21 := hS.2.2.2.2.2.2.2.2.2.2.2.2.2.2.2.2.2.2.2.2.1; have hS_22 := hS.2.2.2.2.2.2.2.2.2.2.2.2.2.2.2.2.2.2.2.2.2.1; have hS_23 := hS.2.2.2.2.2.2.2.2.2.2.2.2.2.2.2.2.2.2.2.2.2.2.1; have hS_24 := hS.2.2.2.2.2.2.2.2.2.2.2.2.2.2.2.2.2.2.2.2.2.2.2.1; have hS_25 := hS.2.2.2.2.2.2.2.2.2.2.2.2.2.2.2.2.2.2.2.2.2.2.2.2.1; have hS_26 := hS.2.2.2.2.2.2.2.2.2.2.2.2.2.2.2.2.2.2.2.2.2.2.2.2.2.1; have hS_27 := hS.2.2.2.2.2.2.2.2.2.2.2.2.2.2.2.2.2.2.2.2.2.2.2.2.2.2.1; have hS_28 := hS.2.2.2.2.2.2.2.2.2.2.2.2.2.2.2.2.2.2.2.2.2.2.2.2.2.2.2.1; have hS_29 := hS.2.2.2.2.2.2.2.2.2.2.2.2.2.2.2.2.2.2.2.2.2.2.2.2.2.2.2.2.1; have hS_30 := hS.2.2.2.2.2.2.2.2.2.2.2.2.2.2.2.2.2.2.2.2.2.2.2.2.2.2.2.2.2.1; have hS_31 := hS.2.2.2.2.2.2.2.2.2.2.2.2.2.2.2.2.2.2.2.2.2.2.2.2.2.2.2.2.2.2.1; have hS_32 := hS.2.2.2.2.2.2.2.2.2.2.2.2.2.2.2.2.2.2.2.2.2.2.2.2.2.2.2.2.2.2.2.1; have hS_33 := hS.2.2.2.2.2.2.2.2.2.2.2.2.2.2.2.2.2.2.2.2.2.2.2.2.2.2.2.2.2.2.2.2.1; have hS_34 := hS.2.2.2.2.2.2.2.2.2.2.2.2.2.2.2.2.2.2.2.2.2.2.2.2.2.2.2.2.2.2.2.2.2.1; have hS_35 := hS.2.2.2.2.2.2.2.2.2.2.2.2.2.2.2.2.2.2.2.2.2.2.2.2.2.2.2.2.2.2.2.2.2.2.1; have hS_36 := hS.2.2.2.2.2.2.2.2.2.2.2.2.2.2.2.2.2.2.2.2.2.2.2.2.2.2.2.2.2.2.2.2.2.2.2.1; have hS_37 := hS.2.2.2.2.2.2.2.2.2.2.2.2.2.2.2.2.2.2.2.2.2.2.2.2.2.2.2.2.2.2.2.2.2.2.2.2.1; have hS_38 := hS.2.2.2.2.2.2.2.2.2.2.2.2.2.2.2.2.2.2.2.2.2.2.2.2.2.2.2.2.2.2.2.2.2.2.2.2.2.1; have hS_39 := hS.2.2.2.2.2.2.2.2.2.2.2.2.2.2.2.2.2.2.2.2.2.2.2.2.2.2.2.2.2.2.2.2.2.2.2.2.2.2
  cases hz : stN (tw6 B e r y0) with
  | inl x =>
    rw [hz] at g8'
    rw [p1 x hz]
    have h9 := g8'.deadT
    refine ⟨G8, I8, ?_, g8', gs8.l, fs8.r⟩
    simp (disch := first | assumption | (simp (disch := omega) only [cK_some, ofR_some, ofR_none, Option.toList_some, Option.toList_none, List.cons_append, List.nil_append, isL_i, isL_r, isL_u, isL_2, cs_0, cs_i, cs_r, cs_l, cs_ii, cs_ir, cs_ri, cs_rr, cs_iir, cs_irr, cs_iii, cs_iri, cs_rii, cs_rir, cs_rri, cs_rrr, cs_iiii, cs_iiir, cs_iiri, cs_iirr, cs_irii, cs_irir, cs_irri, cs_irrr, cs_riii, cs_riir, cs_riri, cs_rirr, cs_rrii, cs_rrir, cs_rrri, cs_rrrr, hS_1, hS_2, hS_3, hS_4, hS_5, hS_6, hS_7, hS_8, hS_9, hS_10, hS_11, hS_12, hS_13, hS_14, hS_15, hS_16, hS_17, hS_18, hS_19, hS_20, hS_21, hS_22, hS_23, hS_24, hS_25, hS_26, hS_27, hS_28, hS_29, hS_30, hS_31, hS_32, hS_33, hS_34, hS_35, hS_36, hS_37, hS_38, hS_39, l1, eT1, eT2, eT3, inb_n, bq4, bq5, n100, not_false_eq_true, isB_0, isB_1, nI_clamp, nI_nneg, Nat.zero_add, Nat.le_refl]; done) | omega | (simp (disch := omega) only [cK_some, ofR_some, ofR_none, Option.toList_some, Option.toList_none, List.cons_append, List.nil_append, isL_i, isL_r, isL_u, isL_2, cs_0, cs_i, cs_r, cs_l, cs_ii, cs_ir, cs_ri, cs_rr, cs_iir, cs_irr, cs_iii, cs_iri, cs_rii, cs_rir, cs_rri, cs_rrr, cs_iiii, cs_iiir, cs_iiri, cs_iirr, cs_irii, cs_irir, cs_irri, cs_irrr, cs_riii, cs_riir, cs_riri, cs_rirr, cs_rrii, cs_rrir, cs_rrri, cs_rrrr, hS_1, hS_2, hS_3, hS_4, hS_5, hS_6, hS_7, hS_8, hS_9, hS_10, hS_11, hS_12, hS_13, hS_14, hS_15, hS_16, hS_17, hS_18, hS_19, hS_20, hS_21, hS_22, hS_23, hS_24, hS_25, hS_26, hS_27, hS_28, hS_29, hS_30, hS_31, hS_32, hS_33, hS_34, hS_35, hS_36, hS_37, hS_38, hS_39, l1, eT1, eT2, eT3, inb_n, bq4, bq5, n100, not_false_eq_true, isB_0, isB_1, nI_clamp, nI_nneg, Nat.zero_add, Nat.le_refl]; omega)) only [xX13_readTowel_0, xX13_readTowel_1, xX13_readTowel_2, xX13_readTowel_5, xX13_readTowel_8, xX13_readTowel_9, xX13_readTowel_12, xX13_readTowel_13, xX13_readTowel_16, xX13_readTowel_17, xX13_readTowel_18, xX13_readTowel_21, xX13_readTowel_24, xX13_readTowel_25, xX13_readTowel_26, xX13_readTowel_27, xX13_readTowel_30, cK_some, ofR_some, ofR_none, Option.toList_some, Option.toList_none, List.cons_append, List.nil_append, isL_i, isL_r, isL_u, isL_2, cs_0, cs_i, cs_r, cs_l, cs_ii, cs_ir, cs_ri, cs_rr, cs_iir, cs_irr, cs_iii, cs_iri, cs_rii, cs_rir, cs_rri, cs_rrr, cs_iiii, cs_iiir, cs_iiri, cs_iirr, cs_irii, cs_irir, cs_irri, cs_irrr, cs_riii, cs_riir, cs_riri, cs_rirr, cs_rrii, cs_rrir, cs_rrri, cs_rrrr, hS_1, hS_2, hS_3, hS_4, hS_5, hS_6, hS_7, hS_8, hS_9, hS_10, hS_11, hS_12, hS_13, hS_14, hS_15, hS_16, hS_17, hS_18, hS_19, hS_20, hS_21, hS_22, hS_23, hS_24, hS_25, hS_26, hS_27, hS_28, hS_29, hS_30, hS_31, hS_32, hS_33, hS_34, hS_35, hS_36, hS_37, hS_38, hS_39, rX13_readTowel, l2, eT, f1, f2, f3, f4', Nat.add_sub_cancel, Nat.add_zero, Nat.zero_add, nI_lt, nI_nlt, nI_le, nI_ge, nI_pos, pk_sub, nI_clamp, s2_ne, s2_o, s2_s, nI_add, inb_n, nI_nn, zq0, zq1, ↓reduceIte]
    rw [f5]
    simp (disch := first | assumption | (simp (disch := omega) only [cK_some, ofR_some, ofR_none, Option.toList_some, Option.toList_none, List.cons_append, List.nil_append, isL_i, isL_r, isL_u, isL_2, cs_0, cs_i, cs_r, cs_l, cs_ii, cs_ir, cs_ri, cs_rr, cs_iir, cs_irr, cs_iii, cs_iri, cs_rii, cs_rir, cs_rri, cs_rrr, cs_iiii, cs_iiir, cs_iiri, cs_iirr, cs_irii, cs_irir, cs_irri, cs_irrr, cs_riii, cs_riir, cs_riri, cs_rirr, cs_rrii, cs_rrir, cs_rrri, cs_rrrr, hS_1, hS_2, hS_3, hS_4, hS_5, hS_6, hS_7, hS_8, hS_9, hS_10, hS_11, hS_12, hS_13, hS_14, hS_15, hS_16, hS_17, hS_18, hS_19, hS_20, hS_21, hS_22, hS_23, hS_24, hS_25, hS_26, hS_27, hS_28, hS_29, hS_30, hS_31, hS_32, hS_33, hS_34, hS_35, hS_36, hS_37, hS_38, hS_39, l1, eT3, eT6, eT7, eT8, inb_n, bq4, bq5, n100, not_false_eq_true, isB_0, isB_1, nI_clamp, nI_nneg, Nat.zero_add, Nat.le_refl]; done) | omega | (simp (disch := omega) only [cK_some, ofR_some, ofR_none, Option.toList_some, Option.toList_none, List.cons_append, List.nil_append, isL_i, isL_r, isL_u, isL_2, cs_0, cs_i, cs_r, cs_l, cs_ii, cs_ir, cs_ri, cs_rr, cs_iir, cs_irr, cs_iii, cs_iri, cs_rii, cs_rir, cs_rri, cs_rrr, cs_iiii, cs_iiir, cs_iiri, cs_iirr, cs_irii, cs_irir, cs_irri, cs_irrr, cs_riii, cs_riir, cs_riri, cs_rirr, cs_rrii, cs_rrir, cs_rrri, cs_rrrr, hS_1, hS_2, hS_3, hS_4, hS_5, hS_6, hS_7, hS_8, hS_9, hS_10, hS_11, hS_12, hS_13, hS_14, hS_15, hS_16, hS_17, hS_18, hS_19, hS_20, hS_21, hS_22, hS_23, hS_24, hS_25, hS_26, hS_27, hS_28, hS_29, hS_30, hS_31, hS_32, hS_33, hS_34, hS_35, hS_36, hS_37, hS_38, hS_39, l1, eT3, eT6, eT7, eT8, inb_n, bq4, bq5, n100, not_false_eq_true, isB_0, isB_1, nI_clamp, nI_nneg, Nat.zero_add, Nat.le_refl]; omega)) only [xX13_readTowel_58, xX13_readTowel_59, xX13_readTowel_62, xX13_readTowel_63, xX13_readTowel_66, xX13_readTowel_67, xX13_readTowel_69, xX13_readTowel_72, xX13_readTowel_74, xX13_readTowel_75, xX13_readTowel_78, xX13_readTowel_79, xX13_readTowel_81, xX13_readTowel_84, xX13_readTowel_86, xX13_readTowel_87, xX13_readTowel_90, xX13_readTowel_91, xX13_readTowel_94, cK_some, ofR_some, ofR_none, Option.toList_some, Option.toList_none, List.cons_append, List.nil_append, isL_i, isL_r, isL_u, isL_2, cs_0, cs_i, cs_r, cs_l, cs_ii, cs_ir, cs_ri, cs_rr, cs_iir, cs_irr, cs_iii, cs_iri, cs_rii, cs_rir, cs_rri, cs_rrr, cs_iiii, cs_iiir, cs_iiri, cs_iirr, cs_irii, cs_irir, cs_irri, cs_irrr, cs_riii, cs_riir, cs_riri, cs_rirr, cs_rrii, cs_rrir, cs_rrri, cs_rrrr, hS_1, hS_2, hS_3, hS_4, hS_5, hS_6, hS_7, hS_8, hS_9, hS_10, hS_11, hS_12, hS_13, hS_14, hS_15, hS_16, hS_17, hS_18, hS_19, hS_20, hS_21, hS_22, hS_23, hS_24, hS_25, hS_26, hS_27, hS_28, hS_29, hS_30, hS_31, hS_32, hS_33, hS_34, hS_35, hS_36, hS_37, hS_38, hS_39, f6, f7', f8', h9, Nat.add_sub_cancel, Nat.add_zero, Nat.zero_add, nI_lt, nI_nlt, nI_le, nI_ge, nI_pos, pk_sub, nI_clamp, s2_ne, s2_o, s2_s, nI_add, inb_n, nI_nn, zq0, zq1, ↓reduceIte]
  | inr b =>
    rw [hz] at g8'
    obtain ⟨a0, a1, hy0, hpF, q1, q2, q3, q4⟩ := p2 b hz
    rw [q4]
    have h9 := g8'.live
    obtain ⟨hT, ha0⟩ := hlive a0 hy0
    have hr8 := hr.fm l6 gs8 fs8
    obtain ⟨-, s2s, s3, s4, s5, s6, s7, s8⟩ := id hr8
    have hwv := hw a0 a1 hy0 hpF
    have hk1 := (pF_1 hpF).1
    have hnm := m_names (d := d + 4) (o := true) (num := rT r) (w := w) (hM.ge gs8) s8.1 (show rNn r < 9 by omega)
    have hNew := s8.new (x := (kS (tk B e a0), kE (tk B e a0), true, rT r)) (by omega) (tk_L ha0 hk1)
    try dsimp only at hNew
    rw [← hwv] at hNew
    rw [bI_1] at hnm hNew
    generalize hK : s2 (s2 (s2 I8 (R + 18) (rNn r) (nI 1)) (R + 19) (rNn r) (nI (rT r))) R 11 (nI (rNn r + 1)) = K at hnm hNew
    generalize hGn : gSetJ G8 (R + 17) (rNn r) w = Gn at hnm hNew
    have eTn : gT Gn = gT G := by rw [← hGn, gT_J]; exact eT8
    have eRn : gR Gn = gR G := by rw [← hGn, gR_J]; exact eR8
    have eKR : ∀ j, j ≠ 11 → K R j = I8 R j := fun j hj => by rw [← hK, s2_o hj, s2_ne (by omega), s2_ne (by omega)]
    have eKc : ∀ c, c ≠ R → c ≠ R + 18 → c ≠ R + 19 → K c = I8 c := fun c h1 h2 h3 => by rw [← hK, s2_ne h1, s2_ne h3, s2_ne h2]
    have kP : K R 7 = nI (rP r) := by rw [eKR 7 (by decide)]; exact s3.2.1
    have kT : K R 6 = nI (rT r) := by rw [eKR 6 (by decide)]; exact s3.1
    have kT8 : I8 R 6 = nI (rT r) := s3.1
    generalize hA : s2 (s2 (s2 (s2 K (R + 1) (rT r) (nI n3)) (R + 2) (rT r) (nI n4)) (R + 3) (rT r) (nI n5)) (R + 4) (rT r) (nI (rP r)) = A
    have aP : A R 7 = nI (rP r) := by rw [← hA, s2_ne (by omega), s2_ne (by omega), s2_ne (by omega), s2_ne (by omega)]; exact kP
    have hch := chain (fun k => ex (d + 5) mX13_readTowel 167 [.val (.ref m), .val (.long w), .second, .val (.int (nI n3)), .val (.int (nI n4)), .val (.int (nI n5)), .val (.int (nI (rT r))), .val (.int (nI k))] [] Gn (twW A R (rP r) (rT r) k)) n3 (fun k hk => by
      have es : twW A R (rP r) (rT r) (k + 1) = s2 (twW A R (rP r) (rT r) k) (R + 5) (rP r + k) (nI (rT r)) := rfl
      have e7 : twW A R (rP r) (rT r) k R 7 = nI (rP r) := by rw [(twW_v k).1 R (by omega)]; exact aP
      have hlt : (nI k < nI n3) = True := eq_true (nI_lt hk (by omega))
      try dsimp only
      rw [es, xX13_readTowel_167]
      simp (disch := first | assumption | (simp (disch := omega) only [cK_some, ofR_some, ofR_none, Option.toList_some, Option.toList_none, List.cons_append, List.nil_append, isL_i, isL_r, isL_u, isL_2, cs_0, cs_i, cs_r, cs_l, cs_ii, cs_ir, cs_ri, cs_rr, cs_iir, cs_irr, cs_iii, cs_iri, cs_rii, cs_rir, cs_rri, cs_rrr, cs_iiii, cs_iiir, cs_iiri, cs_iirr, cs_irii, cs_irir, cs_irri, cs_irrr, cs_riii, cs_riir, cs_riri, cs_rirr, cs_rrii, cs_rrir, cs_rrri, cs_rrrr, hS_1, hS_2, hS_3, hS_4, hS_5, hS_6, hS_7, hS_8, hS_9, hS_10, hS_11, hS_12, hS_13, hS_14, hS_15, hS_16, hS_17, hS_18, hS_19, hS_20, hS_21, hS_22, hS_23, hS_24, hS_25, hS_26, hS_27, hS_28, hS_29, hS_30, hS_31, hS_32, hS_33, hS_34, hS_35, hS_36, hS_37, hS_38, hS_39, l1, eTn, inb_n, bq4, bq5, n100, not_false_eq_true, isB_0, isB_1, nI_clamp, nI_nneg, Nat.zero_add, Nat.le_refl]; done) | omega | (simp (disch := omega) only [cK_some, ofR_some, ofR_none, Option.toList_some, Option.toList_none, List.cons_append, List.nil_append, isL_i, isL_r, isL_u, isL_2, cs_0, cs_i, cs_r, cs_l, cs_ii, cs_ir, cs_ri, cs_rr, cs_iir, cs_irr, cs_iii, cs_iri, cs_rii, cs_rir, cs_rri, cs_rrr, cs_iiii, cs_iiir, cs_iiri, cs_iirr, cs_irii, cs_irir, cs_irri, cs_irrr, cs_riii, cs_riir, cs_riri, cs_rirr, cs_rrii, cs_rrir, cs_rrri, cs_rrrr, hS_1, hS_2, hS_3, hS_4, hS_5, hS_6, hS_7, hS_8, hS_9, hS_10, hS_11, hS_12, hS_13, hS_14, hS_15, hS_16, hS_17, hS_18, hS_19, hS_20, hS_21, hS_22, hS_23, hS_24, hS_25, hS_26, hS_27, hS_28, hS_29, hS_30, hS_31, hS_32, hS_33, hS_34, hS_35, hS_36, hS_37, hS_38, hS_39, l1, eTn, inb_n, bq4, bq5, n100, not_false_eq_true, isB_0, isB_1, nI_clamp, nI_nneg, Nat.zero_add, Nat.le_refl]; omega)) only [xX13_readTowel_169, xX13_readTowel_170, xX13_readTowel_173, xX13_readTowel_174, xX13_readTowel_177, xX13_readTowel_180, xX13_readTowel_181, xX13_readTowel_184, xX13_readTowel_187, xX13_readTowel_189, xX13_readTowel_190, xX13_readTowel_192, xX13_readTowel_193, xX13_readTowel_196, cK_some, ofR_some, ofR_none, Option.toList_some, Option.toList_none, List.cons_append, List.nil_append, isL_i, isL_r, isL_u, isL_2, cs_0, cs_i, cs_r, cs_l, cs_ii, cs_ir, cs_ri, cs_rr, cs_iir, cs_irr, cs_iii, cs_iri, cs_rii, cs_rir, cs_rri, cs_rrr, cs_iiii, cs_iiir, cs_iiri, cs_iirr, cs_irii, cs_irir, cs_irri, cs_irrr, cs_riii, cs_riir, cs_riri, cs_rirr, cs_rrii, cs_rrir, cs_rrri, cs_rrrr, hS_1, hS_2, hS_3, hS_4, hS_5, hS_6, hS_7, hS_8, hS_9, hS_10, hS_11, hS_12, hS_13, hS_14, hS_15, hS_16, hS_17, hS_18, hS_19, hS_20, hS_21, hS_22, hS_23, hS_24, hS_25, hS_26, hS_27, hS_28, hS_29, hS_30, hS_31, hS_32, hS_33, hS_34, hS_35, hS_36, hS_37, hS_38, hS_39, eRn, l2, hlt, e7, nI_add, Nat.add_sub_cancel, Nat.add_zero, Nat.zero_add, nI_lt, nI_nlt, nI_le, nI_ge, nI_pos, pk_sub, nI_clamp, s2_ne, s2_o, s2_s, nI_add, inb_n, nI_nn, zq0, zq1, ↓reduceIte])
    obtain ⟨v1, v2⟩ := twW_v (z := A) (R := R) (P := rP r) (T := rT r) n3
    generalize hW : twW A R (rP r) (rT r) n3 = W at hch v1 v2
    have e7 : W R 7 = nI (rP r) := by rw [v1 R (by omega)]; exact aP
    have e6 : W R 6 = nI (rT r) := by rw [v1 R (by omega), ← hA, s2_ne (by omega), s2_ne (by omega), s2_ne (by omega), s2_ne (by omega)]; exact kT
    have eW : ∀ c, c ≠ R → c ≠ R + 5 → c ≠ R + 1 → c ≠ R + 2 → c ≠ R + 3 → c ≠ R + 4 → c ≠ R + 18 → c ≠ R + 19 → W c = I8 c := fun c q0 q5 q1 q2 q3 q4 q18 q19 => by
      rw [v1 c q5, ← hA]
      exact funext fun j => by rw [s2_ne q4, s2_ne q3, s2_ne q2, s2_ne q1, eKc c q0 q18 q19]
    have eR : ∀ j, j ≠ 6 → j ≠ 7 → j ≠ 11 → s2 (s2 W R 7 (nI (rP r + n3))) R 6 (nI (rT r + 1)) R j = I8 R j := fun j q6 q7 q11 => by
      rw [s2_o q6, s2_o q7, v1 R (by omega), ← hA, s2_ne (by omega), s2_ne (by omega), s2_ne (by omega), s2_ne (by omega), eKR j q11]
    have eF : ∀ j, 6 ≤ j → j ≤ 15 → s2 (s2 W R 7 (nI (rP r + n3))) R 6 (nI (rT r + 1)) (R + j) = I8 (R + j) := fun j q1 q2 => funext fun i => by
      rw [s2_ne (by omega), s2_ne (by omega), eW (R + j) (by omega) (by omega) (by omega) (by omega) (by omega) (by omega) (by omega) (by omega)]
    have hnl : (nI n3 < nI n3) = False := eq_false (nI_nlt (Nat.le_refl _) (by omega))
    refine ⟨Gn, s2 (s2 W R 7 (nI (rP r + n3))) R 6 (nI (rT r + 1)), ?_, ⟨?_, ?_⟩, ?_, ?_⟩
    · simp (disch := first | assumption | (simp (disch := omega) only [cK_some, ofR_some, ofR_none, Option.toList_some, Option.toList_none, List.cons_append, List.nil_append, isL_i, isL_r, isL_u, isL_2, cs_0, cs_i, cs_r, cs_l, cs_ii, cs_ir, cs_ri, cs_rr, cs_iir, cs_irr, cs_iii, cs_iri, cs_rii, cs_rir, cs_rri, cs_rrr, cs_iiii, cs_iiir, cs_iiri, cs_iirr, cs_irii, cs_irir, cs_irri, cs_irrr, cs_riii, cs_riir, cs_riri, cs_rirr, cs_rrii, cs_rrir, cs_rrri, cs_rrrr, hS_1, hS_2, hS_3, hS_4, hS_5, hS_6, hS_7, hS_8, hS_9, hS_10, hS_11, hS_12, hS_13, hS_14, hS_15, hS_16, hS_17, hS_18, hS_19, hS_20, hS_21, hS_22, hS_23, hS_24, hS_25, hS_26, hS_27, hS_28, hS_29, hS_30, hS_31, hS_32, hS_33, hS_34, hS_35, hS_36, hS_37, hS_38, hS_39, l1, eT1, eT2, eT3, inb_n, bq4, bq5, n100, not_false_eq_true, isB_0, isB_1, nI_clamp, nI_nneg, Nat.zero_add, Nat.le_refl]; done) | omega | (simp (disch := omega) only [cK_some, ofR_some, ofR_none, Option.toList_some, Option.toList_none, List.cons_append, List.nil_append, isL_i, isL_r, isL_u, isL_2, cs_0, cs_i, cs_r, cs_l, cs_ii, cs_ir, cs_ri, cs_rr, cs_iir, cs_irr, cs_iii, cs_iri, cs_rii, cs_rir, cs_rri, cs_rrr, cs_iiii, cs_iiir, cs_iiri, cs_iirr, cs_irii, cs_irir, cs_irri, cs_irrr, cs_riii, cs_riir, cs_riri, cs_rirr, cs_rrii, cs_rrir, cs_rrri, cs_rrrr, hS_1, hS_2, hS_3, hS_4, hS_5, hS_6, hS_7, hS_8, hS_9, hS_10, hS_11, hS_12, hS_13, hS_14, hS_15, hS_16, hS_17, hS_18, hS_19, hS_20, hS_21, hS_22, hS_23, hS_24, hS_25, hS_26, hS_27, hS_28, hS_29, hS_30, hS_31, hS_32, hS_33, hS_34, hS_35, hS_36, hS_37, hS_38, hS_39, l1, eT1, eT2, eT3, inb_n, bq4, bq5, n100, not_false_eq_true, isB_0, isB_1, nI_clamp, nI_nneg, Nat.zero_add, Nat.le_refl]; omega)) only [xX13_readTowel_0, xX13_readTowel_1, xX13_readTowel_2, xX13_readTowel_5, xX13_readTowel_8, xX13_readTowel_9, xX13_readTowel_12, xX13_readTowel_13, xX13_readTowel_16, xX13_readTowel_17, xX13_readTowel_18, xX13_readTowel_21, xX13_readTowel_24, xX13_readTowel_25, xX13_readTowel_26, xX13_readTowel_27, xX13_readTowel_30, cK_some, ofR_some, ofR_none, Option.toList_some, Option.toList_none, List.cons_append, List.nil_append, isL_i, isL_r, isL_u, isL_2, cs_0, cs_i, cs_r, cs_l, cs_ii, cs_ir, cs_ri, cs_rr, cs_iir, cs_irr, cs_iii, cs_iri, cs_rii, cs_rir, cs_rri, cs_rrr, cs_iiii, cs_iiir, cs_iiri, cs_iirr, cs_irii, cs_irir, cs_irri, cs_irrr, cs_riii, cs_riir, cs_riri, cs_rirr, cs_rrii, cs_rrir, cs_rrri, cs_rrrr, hS_1, hS_2, hS_3, hS_4, hS_5, hS_6, hS_7, hS_8, hS_9, hS_10, hS_11, hS_12, hS_13, hS_14, hS_15, hS_16, hS_17, hS_18, hS_19, hS_20, hS_21, hS_22, hS_23, hS_24, hS_25, hS_26, hS_27, hS_28, hS_29, hS_30, hS_31, hS_32, hS_33, hS_34, hS_35, hS_36, hS_37, hS_38, hS_39, rX13_readTowel, l2, eT, f1, f2, f3, f4', Nat.add_sub_cancel, Nat.add_zero, Nat.zero_add, nI_lt, nI_nlt, nI_le, nI_ge, nI_pos, pk_sub, nI_clamp, s2_ne, s2_o, s2_s, nI_add, inb_n, nI_nn, zq0, zq1, ↓reduceIte]
      rw [f5]
      simp (disch := first | assumption | (simp (disch := omega) only [cK_some, ofR_some, ofR_none, Option.toList_some, Option.toList_none, List.cons_append, List.nil_append, isL_i, isL_r, isL_u, isL_2, cs_0, cs_i, cs_r, cs_l, cs_ii, cs_ir, cs_ri, cs_rr, cs_iir, cs_irr, cs_iii, cs_iri, cs_rii, cs_rir, cs_rri, cs_rrr, cs_iiii, cs_iiir, cs_iiri, cs_iirr, cs_irii, cs_irir, cs_irri, cs_irrr, cs_riii, cs_riir, cs_riri, cs_rirr, cs_rrii, cs_rrir, cs_rrri, cs_rrrr, hS_1, hS_2, hS_3, hS_4, hS_5, hS_6, hS_7, hS_8, hS_9, hS_10, hS_11, hS_12, hS_13, hS_14, hS_15, hS_16, hS_17, hS_18, hS_19, hS_20, hS_21, hS_22, hS_23, hS_24, hS_25, hS_26, hS_27, hS_28, hS_29, hS_30, hS_31, hS_32, hS_33, hS_34, hS_35, hS_36, hS_37, hS_38, hS_39, l1, eT3, eT6, eT7, eT8, eTn, inb_n, bq4, bq5, n100, not_false_eq_true, isB_0, isB_1, nI_clamp, nI_nneg, Nat.zero_add, Nat.le_refl]; done) | omega | (simp (disch := omega) only [cK_some, ofR_some, ofR_none, Option.toList_some, Option.toList_none, List.cons_append, List.nil_append, isL_i, isL_r, isL_u, isL_2, cs_0, cs_i, cs_r, cs_l, cs_ii, cs_ir, cs_ri, cs_rr, cs_iir, cs_irr, cs_iii, cs_iri, cs_rii, cs_rir, cs_rri, cs_rrr, cs_iiii, cs_iiir, cs_iiri, cs_iirr, cs_irii, cs_irir, cs_irri, cs_irrr, cs_riii, cs_riir, cs_riri, cs_rirr, cs_rrii, cs_rrir, cs_rrri, cs_rrrr, hS_1, hS_2, hS_3, hS_4, hS_5, hS_6, hS_7, hS_8, hS_9, hS_10, hS_11, hS_12, hS_13, hS_14, hS_15, hS_16, hS_17, hS_18, hS_19, hS_20, hS_21, hS_22, hS_23, hS_24, hS_25, hS_26, hS_27, hS_28, hS_29, hS_30, hS_31, hS_32, hS_33, hS_34, hS_35, hS_36, hS_37, hS_38, hS_39, l1, eT3, eT6, eT7, eT8, eTn, inb_n, bq4, bq5, n100, not_false_eq_true, isB_0, isB_1, nI_clamp, nI_nneg, Nat.zero_add, Nat.le_refl]; omega)) only [xX13_readTowel_58, xX13_readTowel_59, xX13_readTowel_62, xX13_readTowel_63, xX13_readTowel_66, xX13_readTowel_67, xX13_readTowel_69, xX13_readTowel_72, xX13_readTowel_74, xX13_readTowel_75, xX13_readTowel_78, xX13_readTowel_79, xX13_readTowel_81, xX13_readTowel_84, xX13_readTowel_86, xX13_readTowel_87, xX13_readTowel_90, xX13_readTowel_91, xX13_readTowel_94, xX13_readTowel_95, xX13_readTowel_96, xX13_readTowel_99, xX13_readTowel_102, xX13_readTowel_104, xX13_readTowel_105, xX13_readTowel_106, xX13_readTowel_107, xX13_readTowel_109, xX13_readTowel_112, xX13_readTowel_113, xX13_readTowel_116, xX13_readTowel_119, xX13_readTowel_121, xX13_readTowel_122, xX13_readTowel_123, xX13_readTowel_124, xX13_readTowel_127, xX13_readTowel_130, xX13_readTowel_132, xX13_readTowel_134, xX13_readTowel_135, xX13_readTowel_136, xX13_readTowel_139, xX13_readTowel_142, xX13_readTowel_144, xX13_readTowel_146, xX13_readTowel_147, xX13_readTowel_148, xX13_readTowel_151, xX13_readTowel_154, xX13_readTowel_156, xX13_readTowel_157, xX13_readTowel_160, xX13_readTowel_163, xX13_readTowel_164, cK_some, ofR_some, ofR_none, Option.toList_some, Option.toList_none, List.cons_append, List.nil_append, isL_i, isL_r, isL_u, isL_2, cs_0, cs_i, cs_r, cs_l, cs_ii, cs_ir, cs_ri, cs_rr, cs_iir, cs_irr, cs_iii, cs_iri, cs_rii, cs_rir, cs_rri, cs_rrr, cs_iiii, cs_iiir, cs_iiri, cs_iirr, cs_irii, cs_irir, cs_irri, cs_irrr, cs_riii, cs_riir, cs_riri, cs_rirr, cs_rrii, cs_rrir, cs_rrri, cs_rrrr, hS_1, hS_2, hS_3, hS_4, hS_5, hS_6, hS_7, hS_8, hS_9, hS_10, hS_11, hS_12, hS_13, hS_14, hS_15, hS_16, hS_17, hS_18, hS_19, hS_20, hS_21, hS_22, hS_23, hS_24, hS_25, hS_26, hS_27, hS_28, hS_29, hS_30, hS_31, hS_32, hS_33, hS_34, hS_35, hS_36, hS_37, hS_38, hS_39, f6, f7', f8', h9, eR8, eRn, l2, kT8, hnm, kP, Nat.add_sub_cancel, Nat.add_zero, Nat.zero_add, nI_lt, nI_nlt, nI_le, nI_ge, nI_pos, pk_sub, nI_clamp, s2_ne, s2_o, s2_s, nI_add, inb_n, nI_nn, zq0, zq1, ↓reduceIte]
      rw [hA]
      simp (disch := first | assumption | (simp (disch := omega) only [cK_some, ofR_some, ofR_none, Option.toList_some, Option.toList_none, List.cons_append, List.nil_append, isL_i, isL_r, isL_u, isL_2, cs_0, cs_i, cs_r, cs_l, cs_ii, cs_ir, cs_ri, cs_rr, cs_iir, cs_irr, cs_iii, cs_iri, cs_rii, cs_rir, cs_rri, cs_rrr, cs_iiii, cs_iiir, cs_iiri, cs_iirr, cs_irii, cs_irir, cs_irri, cs_irrr, cs_riii, cs_riir, cs_riri, cs_rirr, cs_rrii, cs_rrir, cs_rrri, cs_rrrr, hS_1, hS_2, hS_3, hS_4, hS_5, hS_6, hS_7, hS_8, hS_9, hS_10, hS_11, hS_12, hS_13, hS_14, hS_15, hS_16, hS_17, hS_18, hS_19, hS_20, hS_21, hS_22, hS_23, hS_24, hS_25, hS_26, hS_27, hS_28, hS_29, hS_30, hS_31, hS_32, hS_33, hS_34, hS_35, hS_36, hS_37, hS_38, hS_39, inb_n, bq4, bq5, n100, not_false_eq_true, isB_0, isB_1, nI_clamp, nI_nneg, Nat.zero_add, Nat.le_refl]; done) | omega | (simp (disch := omega) only [cK_some, ofR_some, ofR_none, Option.toList_some, Option.toList_none, List.cons_append, List.nil_append, isL_i, isL_r, isL_u, isL_2, cs_0, cs_i, cs_r, cs_l, cs_ii, cs_ir, cs_ri, cs_rr, cs_iir, cs_irr, cs_iii, cs_iri, cs_rii, cs_rir, cs_rri, cs_rrr, cs_iiii, cs_iiir, cs_iiri, cs_iirr, cs_irii, cs_irir, cs_irri, cs_irrr, cs_riii, cs_riir, cs_riri, cs_rirr, cs_rrii, cs_rrir, cs_rrri, cs_rrrr, hS_1, hS_2, hS_3, hS_4, hS_5, hS_6, hS_7, hS_8, hS_9, hS_10, hS_11, hS_12, hS_13, hS_14, hS_15, hS_16, hS_17, hS_18, hS_19, hS_20, hS_21, hS_22, hS_23, hS_24, hS_25, hS_26, hS_27, hS_28, hS_29, hS_30, hS_31, hS_32, hS_33, hS_34, hS_35, hS_36, hS_37, hS_38, hS_39, inb_n, bq4, bq5, n100, not_false_eq_true, isB_0, isB_1, nI_clamp, nI_nneg, Nat.zero_add, Nat.le_refl]; omega)) only [xX13_readTowel_165, cK_some, ofR_some, ofR_none, Option.toList_some, Option.toList_none, List.cons_append, List.nil_append, isL_i, isL_r, isL_u, isL_2, cs_0, cs_i, cs_r, cs_l, cs_ii, cs_ir, cs_ri, cs_rr, cs_iir, cs_irr, cs_iii, cs_iri, cs_rii, cs_rir, cs_rri, cs_rrr, cs_iiii, cs_iiir, cs_iiri, cs_iirr, cs_irii, cs_irir, cs_irri, cs_irrr, cs_riii, cs_riir, cs_riri, cs_rirr, cs_rrii, cs_rrir, cs_rrri, cs_rrrr, hS_1, hS_2, hS_3, hS_4, hS_5, hS_6, hS_7, hS_8, hS_9, hS_10, hS_11, hS_12, hS_13, hS_14, hS_15, hS_16, hS_17, hS_18, hS_19, hS_20, hS_21, hS_22, hS_23, hS_24, hS_25, hS_26, hS_27, hS_28, hS_29, hS_30, hS_31, hS_32, hS_33, hS_34, hS_35, hS_36, hS_37, hS_38, hS_39, Nat.add_sub_cancel, Nat.add_zero, Nat.zero_add, nI_lt, nI_nlt, nI_le, nI_ge, nI_pos, pk_sub, nI_clamp, s2_ne, s2_o, s2_s, nI_add, inb_n, nI_nn, zq0, zq1, ↓reduceIte]
      refine Eq.trans hch ?_
      rw [xX13_readTowel_167]
      simp (disch := first | assumption | (simp (disch := omega) only [cK_some, ofR_some, ofR_none, Option.toList_some, Option.toList_none, List.cons_append, List.nil_append, isL_i, isL_r, isL_u, isL_2, cs_0, cs_i, cs_r, cs_l, cs_ii, cs_ir, cs_ri, cs_rr, cs_iir, cs_irr, cs_iii, cs_iri, cs_rii, cs_rir, cs_rri, cs_rrr, cs_iiii, cs_iiir, cs_iiri, cs_iirr, cs_irii, cs_irir, cs_irri, cs_irrr, cs_riii, cs_riir, cs_riri, cs_rirr, cs_rrii, cs_rrir, cs_rrri, cs_rrrr, hS_1, hS_2, hS_3, hS_4, hS_5, hS_6, hS_7, hS_8, hS_9, hS_10, hS_11, hS_12, hS_13, hS_14, hS_15, hS_16, hS_17, hS_18, hS_19, hS_20, hS_21, hS_22, hS_23, hS_24, hS_25, hS_26, hS_27, hS_28, hS_29, hS_30, hS_31, hS_32, hS_33, hS_34, hS_35, hS_36, hS_37, hS_38, hS_39, l1, eTn, inb_n, bq4, bq5, n100, not_false_eq_true, isB_0, isB_1, nI_clamp, nI_nneg, Nat.zero_add, Nat.le_refl]; done) | omega | (simp (disch := omega) only [cK_some, ofR_some, ofR_none, Option.toList_some, Option.toList_none, List.cons_append, List.nil_append, isL_i, isL_r, isL_u, isL_2, cs_0, cs_i, cs_r, cs_l, cs_ii, cs_ir, cs_ri, cs_rr, cs_iir, cs_irr, cs_iii, cs_iri, cs_rii, cs_rir, cs_rri, cs_rrr, cs_iiii, cs_iiir, cs_iiri, cs_iirr, cs_irii, cs_irir, cs_irri, cs_irrr, cs_riii, cs_riir, cs_riri, cs_rirr, cs_rrii, cs_rrir, cs_rrri, cs_rrrr, hS_1, hS_2, hS_3, hS_4, hS_5, hS_6, hS_7, hS_8, hS_9, hS_10, hS_11, hS_12, hS_13, hS_14, hS_15, hS_16, hS_17, hS_18, hS_19, hS_20, hS_21, hS_22, hS_23, hS_24, hS_25, hS_26, hS_27, hS_28, hS_29, hS_30, hS_31, hS_32, hS_33, hS_34, hS_35, hS_36, hS_37, hS_38, hS_39, l1, eTn, inb_n, bq4, bq5, n100, not_false_eq_true, isB_0, isB_1, nI_clamp, nI_nneg, Nat.zero_add, Nat.le_refl]; omega)) only [xX13_readTowel_169, xX13_readTowel_170, xX13_readTowel_173, xX13_readTowel_174, xX13_readTowel_177, xX13_readTowel_180, xX13_readTowel_181, xX13_readTowel_184, xX13_readTowel_187, xX13_readTowel_189, xX13_readTowel_190, xX13_readTowel_192, xX13_readTowel_193, xX13_readTowel_196, xX13_readTowel_199, xX13_readTowel_200, xX13_readTowel_203i, xX13_readTowel_203r, xX13_readTowel_204, xX13_readTowel_207, xX13_readTowel_208, xX13_readTowel_209, xX13_readTowel_212, xX13_readTowel_213, xX13_readTowel_216i, xX13_readTowel_216r, xX13_readTowel_217, xX13_readTowel_220, xX13_readTowel_221, xX13_readTowel_222, xX13_readTowel_225, cK_some, ofR_some, ofR_none, Option.toList_some, Option.toList_none, List.cons_append, List.nil_append, isL_i, isL_r, isL_u, isL_2, cs_0, cs_i, cs_r, cs_l, cs_ii, cs_ir, cs_ri, cs_rr, cs_iir, cs_irr, cs_iii, cs_iri, cs_rii, cs_rir, cs_rri, cs_rrr, cs_iiii, cs_iiir, cs_iiri, cs_iirr, cs_irii, cs_irir, cs_irri, cs_irrr, cs_riii, cs_riir, cs_riri, cs_rirr, cs_rrii, cs_rrir, cs_rrri, cs_rrrr, hS_1, hS_2, hS_3, hS_4, hS_5, hS_6, hS_7, hS_8, hS_9, hS_10, hS_11, hS_12, hS_13, hS_14, hS_15, hS_16, hS_17, hS_18, hS_19, hS_20, hS_21, hS_22, hS_23, hS_24, hS_25, hS_26, hS_27, hS_28, hS_29, hS_30, hS_31, hS_32, hS_33, hS_34, hS_35, hS_36, hS_37, hS_38, hS_39, hnl, eRn, l2, e7, e6, nI_add, Nat.add_sub_cancel, Nat.add_zero, Nat.zero_add, nI_lt, nI_nlt, nI_le, nI_ge, nI_pos, pk_sub, nI_clamp, s2_ne, s2_o, s2_s, nI_add, inb_n, nI_nn, zq0, zq1, ↓reduceIte]
    · exact g8'.fr (fun j => by rw [s2_ne (by omega), s2_ne (by omega), eW m (by omega) (by omega) (by omega) (by omega) (by omega) (by omega) (by omega) (by omega)]) (by rw [← hGn, gJ_J]; exact s2_ne (by omega))
    · refine ⟨fun h => ?_, fun s hs => ⟨?_, fun p hp => ?_⟩, ⟨?_, ?_, ?_, ?_, ?_⟩, fun t ht => ?_, fun p hp => ?_, fun k hk => ?_, fun i hi => ?_, ?_⟩
      · rw [eR 0 (by decide) (by decide) (by decide)]; exact hr8.1 h
      · rw [eR 0 (by decide) (by decide) (by decide), eR 1 (by decide) (by decide) (by decide), eR 2 (by decide) (by decide) (by decide), eR 3 (by decide) (by decide) (by decide), eR 4 (by decide) (by decide) (by decide), eR 5 (by decide) (by decide) (by decide)]
        exact (s2s s hs).1
      · rw [s2_ne (by omega), s2_ne (by omega), eW (R + 16) (by omega) (by omega) (by omega) (by omega) (by omega) (by omega) (by omega) (by omega)]
        exact (s2s s hs).2 p hp
      · exact s2_s
      · rw [s2_o (by decide)]; exact s2_s
      · rw [eR 8 (by decide) (by decide) (by decide)]; exact s3.2.2.1
      · rw [eR 9 (by decide) (by decide) (by decide)]; exact s3.2.2.2.1
      · rw [eR 10 (by decide) (by decide) (by decide)]; exact s3.2.2.2.2
      · show s2 (s2 W R 7 (nI (rP r + n3))) R 6 (nI (rT r + 1)) (R + 1) t = nI (up (rSz r) (rT r) n3 t) ∧ s2 (s2 W R 7 (nI (rP r + n3))) R 6 (nI (rT r + 1)) (R + 2) t = nI (up (rHo r) (rT r) n4 t) ∧ s2 (s2 W R 7 (nI (rP r + n3))) R 6 (nI (rT r + 1)) (R + 3) t = nI (up (rWe r) (rT r) n5 t) ∧ s2 (s2 W R 7 (nI (rP r + n3))) R 6 (nI (rT r + 1)) (R + 4) t = nI (up (rFi r) (rT r) (rP r) t)
        have ht' : t < rT r + 1 := ht
        rw [s2_ne (by omega), s2_ne (by omega), s2_ne (by omega), s2_ne (by omega), s2_ne (by omega), s2_ne (by omega), s2_ne (by omega), s2_ne (by omega), v1 (R + 1) (by omega), v1 (R + 2) (by omega), v1 (R + 3) (by omega), v1 (R + 4) (by omega), ← hA]
        by_cases c : t = rT r
        · rw [c]
          refine ⟨?_, ?_, ?_, ?_⟩
          · rw [s2_ne (by omega), s2_ne (by omega), s2_ne (by omega), s2_s, up_s]
          · rw [s2_ne (by omega), s2_ne (by omega), s2_s, up_s]
          · rw [s2_ne (by omega), s2_s, up_s]
          · rw [s2_s, up_s]
        · obtain ⟨w1, w2, w3, w4⟩ := s4 t (by omega)
          refine ⟨?_, ?_, ?_, ?_⟩
          · rw [s2_ne (by omega), s2_ne (by omega), s2_ne (by omega), s2_o c, up_o c, eKc _ (by omega) (by omega) (by omega)]; exact w1
          · rw [s2_ne (by omega), s2_ne (by omega), s2_o c, s2_ne (by omega), up_o c, eKc _ (by omega) (by omega) (by omega)]; exact w2
          · rw [s2_ne (by omega), s2_o c, s2_ne (by omega), s2_ne (by omega), up_o c, eKc _ (by omega) (by omega) (by omega)]; exact w3
          · rw [s2_o c, s2_ne (by omega), s2_ne (by omega), s2_ne (by omega), up_o c, eKc _ (by omega) (by omega) (by omega)]; exact w4
      · show s2 (s2 W R 7 (nI (rP r + n3))) R 6 (nI (rT r + 1)) (R + 5) p = nI (if rP r ≤ p ∧ p < rP r + n3 then rT r else rOw r p)
        have hp' : p < rP r + n3 := hp
        rw [s2_ne (by omega), s2_ne (by omega), v2]
        by_cases c : rP r ≤ p ∧ p < rP r + n3
        · rw [if_pos c, if_pos c]
        · rw [if_neg c, if_neg c, ← hA, s2_ne (by omega), s2_ne (by omega), s2_ne (by omega), s2_ne (by omega), eKc _ (by omega) (by omega) (by omega)]
          exact s5 p (by omega)
      · rw [eF 6 (by decide) (by decide), eF 7 (by decide) (by decide), eF 8 (by decide) (by decide), eF 9 (by decide) (by decide), eF 10 (by decide) (by decide), eF 11 (by decide) (by decide)]
        exact s6 k hk
      · rw [eF 12 (by decide) (by decide), eF 13 (by decide) (by decide), eF 14 (by decide) (by decide), eF 15 (by decide) (by decide)]
        exact s7 i hi
      · refine hNew.fr ?_ ?_ ?_
        · rw [s2_o (by decide), s2_o (by decide), v1 R (by omega), ← hA, s2_ne (by omega), s2_ne (by omega), s2_ne (by omega), s2_ne (by omega)]
        · rw [show s2 (s2 W R 7 (nI (rP r + n3))) R 6 (nI (rT r + 1)) (R + 18) = W (R + 18) from funext fun j => by rw [s2_ne (by omega), s2_ne (by omega)], v1 (R + 18) (by omega), ← hA]
          exact funext fun j => by rw [s2_ne (by omega), s2_ne (by omega), s2_ne (by omega), s2_ne (by omega)]
        · rw [show s2 (s2 W R 7 (nI (rP r + n3))) R 6 (nI (rT r + 1)) (R + 19) = W (R + 19) from funext fun j => by rw [s2_ne (by omega), s2_ne (by omega)], v1 (R + 19) (by omega), ← hA]
          exact funext fun j => by rw [s2_ne (by omega), s2_ne (by omega), s2_ne (by omega), s2_ne (by omega)]
    · rw [← hGn]; exact gs8.l.j
    · exact fs8.r.tr ⟨fun c q1 q2 => funext fun j => by rw [s2_ne (by omega), s2_ne (by omega), eW c (by omega) (by omega) (by omega) (by omega) (by omega) (by omega) (by omega) (by omega)], fun j _ _ _ _ _ _ _ => by rw [s2_ne (by omega), s2_ne (by omega), eW m (by omega) (by omega) (by omega) (by omega) (by omega) (by omega) (by omega) (by omega)]⟩
