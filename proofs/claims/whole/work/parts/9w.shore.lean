/-! shore: both -/
theorem Tp.g {G G' : Gm} {x s u : Nat} (h : Tp G x s u) (e : Gq G G' x (x + 338)) : Tp G' x s u := by
  obtain ⟨⟨t0, t1, t2, t3, t4, t5, t6, t7, t8, t9⟩, hL, ⟨a1, a2⟩, ⟨b1, b2⟩, hd, c1, c2, c3, c4, c5, c6, c7⟩ := h
  have ex := e x (by omega) (by omega)
  have et := e (x + 1) (by omega) (by omega)
  refine ⟨⟨by rw [ex.1]; exact t0, by rw [ex.2]; exact t1, by rw [ex.2]; exact t2, by rw [ex.2]; exact t3, by rw [ex.2]; exact t4, by rw [ex.2]; exact t5, by rw [ex.2]; exact t6, by rw [ex.2]; exact t7, by rw [ex.2]; exact t8, by rw [ex.2]; exact t9⟩, ?_, ⟨a1.g (e.m (by omega) (by omega)), a2.g (e.m (by omega) (by omega))⟩, ⟨b1.g (e.m (by omega) (by omega)), b2.g (e.m (by omega) (by omega))⟩, hd, c1.g (e.m (by omega) (by omega)), c2.g (e.m (by omega) (by omega)), c3.g (e.m (by omega) (by omega)), c4.g (e.m (by omega) (by omega)), c5.g (e.m (by omega) (by omega)), c6.g (e.m (by omega) (by omega)), c7.g (e.m (by omega) (by omega))⟩
  unfold TpL at hL ⊢
  rw [et.1, et.2, (e (x + 1 + 1) (by omega) (by omega)).1, (e (x + 1 + 84) (by omega) (by omega)).1, (e (x + 1 + 85) (by omega) (by omega)).1, (e (x + 1 + 86) (by omega) (by omega)).1, (e (x + 1 + 87) (by omega) (by omega)).1]
  exact hL
theorem ClW.g {G G' : Gm} {I : Im} {x s u : Nat} {o : Option Gh} (hT : Tp G x s u) (h : ClW G I x s o) (e : Gq G G' (x + 2) (x + 338)) : ClW G' I x s o := by
  have hd := hT.2.2.2.2.1
  cases o with
  | none => exact h
  | some g =>
    obtain ⟨sh, r, q, c, U, mk, M⟩ := g
    obtain ⟨⟨a1, ⟨e0, ho⟩, a3, a5, a6, a7, a8, a9, a10, ⟨b1, b2, b3⟩, a12⟩, h2, ⟨d1, d2, d3, d4, ⟨t, d5, d6, d7⟩, d8⟩, h4⟩ := h
    have h12 := ho.2.1.2.2.2.1
    have eS : Gq G G' s (s + 81) := e.m (by omega) (by omega)
    refine ⟨⟨a1, ⟨e0, ho⟩, a3, a5.g eS, a6, a7, a8, a9, a10, ⟨b1.g eS, b2, fun k hk => (b3 k hk).g (e.m (by omega) (by omega)) eS⟩, a12⟩, h2.g (e.m (by omega) (by omega)) eS, ⟨d1, d2, d3, d4, ⟨t, d5, d6, fun j hj => (d7 j hj).g (e.m (by omega) (by omega)) eS⟩, fun i hi => (d8 i hi).g (e.m (by omega) (by omega)) eS⟩, h4⟩
theorem Ms.g {G G' : Gm} {a : Nat} (h : Ms G a) (e : Gq G G' a (a + 19)) : Ms G' a := by
  unfold Ms at h ⊢
  rw [(e a (by omega) (by omega)).2, (e a (by omega) (by omega)).1, (e (a + 1) (by omega) (by omega)).1, (e (a + 2) (by omega) (by omega)).1, (e (a + 3) (by omega) (by omega)).1, (e (a + 4) (by omega) (by omega)).1, (e (a + 5) (by omega) (by omega)).1, (e (a + 6) (by omega) (by omega)).1, (e (a + 7) (by omega) (by omega)).1, (e (a + 8) (by omega) (by omega)).1, (e (a + 9) (by omega) (by omega)).1, (e (a + 10) (by omega) (by omega)).1, (e (a + 11) (by omega) (by omega)).1, (e (a + 12) (by omega) (by omega)).1, (e (a + 13) (by omega) (by omega)).1, (e (a + 14) (by omega) (by omega)).1, (e (a + 15) (by omega) (by omega)).1, (e (a + 16) (by omega) (by omega)).1, (e (a + 17) (by omega) (by omega)).1, (e (a + 18) (by omega) (by omega)).1, (e (a + 19) (by omega) (by omega)).1]
  exact h
theorem MoW.g {G G' : Gm} {I I' : Im} {m : Nat} {o : Option Gh} (h : MoW G I m o) (hB : MoB G' m) (h3 : gR G' m 3 = gR G m 3) (hn : gN G ≤ gN G') (e : ∀ c, m + 12 < c → c < gN G → gT G' c = gT G c ∧ gR G' c = gR G c) (i1 : ∀ c, m + 1 < c → c < gN G → I' c = I c) (i2 : ∀ j, j = 19 ∨ j = 20 → I' m j = I m j) (hg : m + 12 < gN G) : MoW G' I' m o := by
  cases o with
  | none => exact ⟨by rw [h3]; exact h.1, by rw [i2 19 (Or.inl rfl)]; exact h.2.1, by rw [i2 20 (Or.inr rfl)]; exact h.2.2⟩
  | some g =>
    obtain ⟨sh, r, q, c, U, mk, M⟩ := g
    obtain ⟨S, a1, a2, a3, b0, ⟨b1, b2, b3, b4, b5, b6, b7, b8⟩, ⟨c1, c1'⟩, c2, c3, c4, c5, c6, c7⟩ := h
    have hS : ∀ k, k ≤ 19 → I' (S + k) = I (S + k) := fun k hk => i1 _ (by omega) (by omega)
    have h0 : I' S = I S := hS 0 (by omega)
    refine ⟨S, by rw [h3]; exact a1, a2, by omega, b0, ⟨hB.mo (by rw [h3]; exact a1), b2.g (fun c q1 q2 => e c (by omega) (by omega)), b3, ?_, b5, b6.fr b5.1 b5.2.1 (fun j _ hj => by rw [i1 _ (by omega) (by omega)]), b7, b8⟩, ⟨?_, c1'⟩, ?_, ?_, ?_, fun b hb => by rw [hS 11 (by omega)]; exact c5 b hb, by rw [h0]; exact c6, c7.fr (i2 19 (Or.inl rfl)) (i2 20 (Or.inr rfl)) (i1 _ (by omega) (by omega)) (i1 _ (by omega) (by omega))⟩
    · unfold MsV at b4 ⊢
      rw [h0, hS 6 (by omega), hS 9 (by omega), hS 8 (by omega), hS 1 (by omega), hS 4 (by omega), hS 2 (by omega), hS 5 (by omega)]
      exact b4
    · unfold MgV at c1 ⊢
      rw [hS 7 (by omega), hS 3 (by omega)]
      exact c1
    · unfold MzV at c2 ⊢
      rw [hS 10 (by omega)]
      exact c2
    · unfold MvV at c3 ⊢
      rw [hS 16 (by omega)]
      exact c3
    · unfold MpV at c4 ⊢
      rw [h0, hS 12 (by omega), hS 13 (by omega), hS 14 (by omega), hS 15 (by omega)]
      exact c4
theorem w_shore {d x k : Nat} {z1 : Int32} {G : Gm} {I : Im} (W : Wd G I x k) : Call (d + 12) x k G I mX11_shore mX13_shore [.int z1] := by
  obtain ⟨s, u, n, B, o, hT, hB, hN, hV, hV2, hTr, hC, hM, hk⟩ := W
  have hn9 := hV.2.1
  by_cases hz : ¬ z1 < 0 ∧ z1 ≤ nI n
  · obtain ⟨e, he, rfl⟩ := zn_all hz.1
    have hen : e ≤ n := by
      by_cases c : e ≤ n
      · exact c
      · exact absurd hz.2 (nI_ge (by omega) he)
    obtain ⟨G1, I1, f1, hlo, ⟨k1, k2⟩, hs1⟩ := c_shore (d := d + 4) hT hV hen hC.top
    have hd := hT.2.2.2.2.1
    have eG : gN G1 = gN G ∧ (∀ c, gT G1 c = gT G c) ∧ (∀ c, c ≠ x → c ≠ x + 1 → gR G1 c = gR G c) ∧ gS G1 = gS G := by
      cases hx : txt B e with
      | inl y => rw [hx] at hs1; rw [hs1.1]; exact ⟨rfl, fun _ => rfl, fun _ _ _ => rfl, rfl⟩
      | inr r => rw [hx] at hs1; rw [hs1.1]; exact ⟨rfl, fun _ => rfl, fun c h1 h2 => by rw [gR_R, s2_ne h1, gR_R, s2_ne h2], rfl⟩
    have hB1 : MoB G1 (x + 339) := hB.fr (fun c _ _ => eG.2.1 c) (fun j _ _ => by rw [eG.2.2.1 _ (by omega) (by omega)])
    obtain ⟨G2, I2, f2, ⟨w1, w2, w2'⟩, ⟨w3, w4⟩, ⟨w5, w6, w7⟩, hs2⟩ := m_shore (d := d + 4) (n := n) (e := e) (B := B) (G := G1) (I := I1) hB1 (by omega) ⟨by rw [k1 _ (by omega)]; exact hV2.1, hn9, fun j hj => by rw [k1 _ (by omega)]; exact hV2.2.2 j hj⟩ hen hlo
    have eq2 : Gq G1 G2 x (x + 338) := fun c h1 h2 => ⟨w3 c (by omega), (w4 c (by omega) (by omega)).1⟩
    have i2 : ∀ c, c < x + 339 → I2 c = I1 c := fun c hc => w5 c (by omega) (by omega) (by omega)
    refine ⟨_, G1, I1, G2, I2, hB1.1, f1, f2, ?_⟩
    have hE : gT G2 (x + 351) = (3, 1) ∧ x + 352 ≤ gN G2 ∧ gN G2 ≤ x + 352 + 20 * (k + 1) ∧ gS G2 ≤ 20000 + 166 * (k + 1) := ⟨by rw [w3 _ (by omega), eG.2.1]; exact hN.1, by omega, by omega, by have := eG.2.2.2; omega⟩
    have hV1 : TaV I2 (x + 1) 0 (x + 2) 0 B := ⟨by rw [i2 _ (by omega)]; exact k2, Nat.zero_le _, fun j hj => absurd hj (Nat.not_lt_zero j)⟩
    have hV3 : TaV I2 (x + 339) 6 (x + 340) 0 B := ⟨w7, Nat.zero_le _, fun j hj => absurd hj (Nat.not_lt_zero j)⟩
    cases hx : txt B e with
    | inl y =>
      rw [hx] at hs1 hs2
      obtain ⟨rfl, y1, y2, y3, y4⟩ := hs1
      obtain ⟨z1, z2, z3, z4, z5, z6⟩ := hs2
      refine ⟨s, u, 0, B, o, hT.g eq2, w1, hE, hV1, hV3, ⟨?_, ?_, ?_⟩, ?_, ?_, hk.mono⟩
      · rw [z1, i2 x (by omega), y3]
      · rw [z3, i2 x (by omega), y1]
      · rw [z2, i2 x (by omega), y3, if_pos rfl, y2]
      · exact (hC.g hT (eq2.m (by omega) (by omega))).y (hT.g eq2) (fun c a b _ _ c5 c6 => by rw [i2 c (by omega), y4 c (by omega) (by omega) c5 (by omega)])
      · refine hM.g w1 z4 (by omega) (fun c a b => ⟨w3 c b, (w4 c b (by omega)).1⟩) (fun c a b => ?_) (fun j hj => by rw [z6 j (by omega), k1 _ (by omega)]) (by omega)
        by_cases c2 : c = x + 339 + 2
        · rw [c2, z5, k1 _ (by omega)]
        · rw [w5 c b (by omega) c2, k1 c (by omega)]
    | inr r =>
      rw [hx] at hs1 hs2
      obtain ⟨rfl, y1, y2, sh, hCW⟩ := hs1
      obtain ⟨z1, z2, z3, z4, z5, z6, z7, z8, z9, z10⟩ := hs2
      have hT1 := hT.trade
      obtain ⟨hrs, ⟨e0, ho⟩, -⟩ := id hCW.1
      have hq := ho.qp (s := sh)
      have hCl : ClW (gSetR (gSetR G (x + 1) 8 (some s)) x 1 (some u)) I1 x u (some (sh, r, q0R r, 0, (fun _ => q0R r), 0, fun _ => q0R r)) := hCW
      refine ⟨u, s, 0, B, some (sh, r, q0R r, 0, (fun _ => q0R r), 0, fun _ => q0R r), hT1.g eq2, w1, hE, hV1, hV3, ⟨?_, ?_, ?_⟩, ?_, ?_, ⟨⟨Nat.zero_le _, fun _ _ => Nat.zero_le _⟩, fun j hj => absurd hj (Nat.not_lt_zero j), fun j hj => absurd hj (Nat.not_lt_zero j)⟩⟩
      · rw [z1, i2 x (by omega), y2]
      · rw [z3, i2 x (by omega), y1]
      · rw [z2, i2 x (by omega), y2, if_neg (by decide)]
      · exact (hCl.g hT1 (eq2.m (by omega) (by omega))).y (hT1.g eq2) (fun c a b _ _ _ _ => i2 c (by omega))
      · refine ⟨gN (gSetR (gSetR G (x + 1) 8 (some s)) x 1 (some u)), z4, by omega, by omega, hrs, ⟨w1.mo z4, z5, by omega, z6.ms hrs, ho.sp hrs, z9 sh hrs, hq, by decide⟩, ⟨z6.mg ho, hq⟩, z6.mz ho, z6.mv ho hrs, z6.mp ho, fun b hb => (z6.2.2.2.2.2.1 b hb).2.2.2.2.2, z6.2.2.1.2.2.2.2, ⟨z7, Nat.zero_le _, z8, Nat.zero_le _, fun j hj => absurd hj (Nat.not_lt_zero j), fun j hj => absurd hj (Nat.not_lt_zero j)⟩⟩
  · have h1 := c_shoreN (d := d + 11) hT hV hz
    have hV2' : TaV (s2 I x 11 (nI 2)) (x + 339) 6 (x + 339 + 1) n B := ⟨by rw [s2_ne (by omega)]; exact hV2.1, hV2.2.1, fun j hj => by rw [s2_ne (by omega)]; exact hV2.2.2 j hj⟩
    have h2 := m_shoreN (d := d + 11) (z := z1) (G := G) hB.1 hV2' hz
    have hM1 : MoW G (s2 I x 11 (nI 2)) (x + 339) o := hM.m (fun c a _ _ => s2_ne (by omega)) (fun j _ => by rw [s2_ne (by omega)]) (fun j _ => by rw [s2_ne (by omega)])
    refine ⟨_, G, _, G, _, hB.1, h1, h2, ?_⟩
    exact Wd.ask (I := I) (I1 := s2 I x 11 (nI 2)) (tr := nI 2) hT hB hN hV hV2 hTr (hC.x hT (fun c a _ _ _ => s2_ne a)) hM hk (fun c a _ _ => s2_ne a) (fun j a => s2_o a) s2_s (by decide)
      (fun c a _ _ => by rw [s2_ne a, s2_ne a, s2_ne a]) (fun j _ => by rw [s2_ne (by omega), s2_ne (by omega), s2_ne (by omega)]) (fun j a b c _ _ _ _ => by rw [s2_o c, s2_o b, s2_o a]) (by rw [s2_o (by decide), s2_s]) s2_s
