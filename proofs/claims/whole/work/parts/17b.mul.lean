/-! rows of rows: multianewarray (over the library's multianewarray2F) -/
theorem oMul_inv {ok : Bool} {pc : Nat} {ls : List Slot} {st : List Value} {G : Gm} {I : Im} {n : Nx} (h : oMul ok pc ls st G I = some (.inl n)) :
    ∃ (k z : Int32) (r : List Value), st = .int k :: .int z :: r ∧ ok = true ∧ ¬ z < 0 ∧ ¬ k < 0 ∧ z.toNatClampNeg ≤ 100000 ∧ k.toNatClampNeg ≤ 100000 ∧ n = (pc, ls, .ref (gN G) :: r, gMul G z.toNatClampNeg k.toNatClampNeg, iMul G I z.toNatClampNeg) := by
  unfold oMul at h
  split at h
  · split at h
    · next hc => exact ⟨_, _, _, rfl, hc.1, hc.2.1, hc.2.2.1, hc.2.2.2.1, hc.2.2.2.2, nx_inv h⟩
    · cases h
  · cases h
theorem mul_outer (c : ClassId) (N h0 : Nat) : ∀ i : Nat, Jvm.Free.Multi.outerC c N h0 i = arrV c N (fun j => if j < i then .ref (h0 + 1 + j) else .null)
  | 0 => by
    show ({ cls := c, slots := Array.replicate N .null, vm := .none } : Cell) = _
    rw [arrV_new]
    refine congrArg (arrV c N) (funext fun j => ?_)
    simp
  | i + 1 => by
    show (Jvm.Free.Multi.outerC c N h0 i).setSlot i (.ref (h0 + 1 + i)) = _
    rw [mul_outer c N h0 i, arrV_store]
    refine congrArg (arrV c N) (funext fun j => ?_)
    by_cases e : j = i
    · subst e
      simp [updV]
    · by_cases h : j < i
      · simp [updV, e, h, Nat.lt_succ_of_lt h]
      · simp [updV, e, h, show ¬ j < i + 1 by omega]
theorem sw_mul (x : Cx) (m : MD) (i n0 : Nat) : SW x m (.multianewarray i n0) := by
  intro p l e R s mi args below meth c H locs cells slots Q arr pc len ls st G I n C hd hln h hH hL hlo hb hR1 hR2 hRc hRs kk
  obtain rfl : 4 = len := by rcases hln with q | q <;> first | exact q | (exact absurd (show 4 = 0 from q) (by decide))
  change oMul ((mR (mOwn m) i).isSome && n0 == 2) (pc + 4) ls st G I = _ at h
  obtain ⟨k, z, r, rfl, hok, hz, hk, hz1, hk1, rfl⟩ := oMul_inv h
  rw [Bool.and_eq_true] at hok
  obtain ⟨ho1, ho2⟩ := hok
  have ho2 : n0 = 2 := by simpa using ho2
  subst ho2
  cases hm : mR (mOwn m) i with
  | none => rw [hm] at ho1; cases ho1
  | some wi =>
    have hw := C.hts _ (inTW wi (mWok C.own hm) rfl)
    have eN : gN (gMul G z.toNatClampNeg k.toNatClampNeg) - gN G = 1 + z.toNatClampNeg := by show gN G + 1 + _ - gN G = _; omega
    have eS : gS (gMul G z.toNatClampNeg k.toNatClampNeg) - gS G = z.toNatClampNeg + z.toNatClampNeg * k.toNatClampNeg := by show gS G + _ + _ - gS G = _; omega
    dsimp only at hRc hRs hb
    rw [eN] at hRc
    rw [eS] at hRs
    have hb' : gN G + 1 + z.toNatClampNeg ≤ 1000000 := hb
    intro T hT X
    obtain ⟨vm₁, cA, comp, -, fA, fC, -, -, X', step⟩ := X.multianewarray2F C.1 (ty := .int) C.hown hw C.kk.2.2.2.2.2.2 (C.hts _ acInt) (g := F0 mi pc arr (.int k :: .int z :: r.map (cv x))) rfl (by rw [C.2.1]; exact hd) rfl hz hk (by omega) (by show _ * 4 ≤ _; omega) (by omega) rfl rfl hRc hRs
    have ecA : cA = xA x 5 := Option.some.inj (fA.symm.trans (C.kk.2.1 5 (by omega)).2)
    have ecc : comp = xA x 0 := Option.some.inj (fC.symm.trans (C.kk.2.1 0 (by omega)).2)
    subst ecA
    subst ecc
    generalize hF : Jvm.Free.Multi.fill (T.setVm vm₁) (xA x 5) (xA x 0) z.toNatClampNeg k.toNatClampNeg (defaultValue .int) z.toNatClampNeg = F at X' step
    have hTh : (T.setVm vm₁).heap = H := hT
    obtain ⟨f1, f2, -, -⟩ := Jvm.Free.Multi.fill_facts (T.setVm vm₁) (xA x 5) (xA x 0) z.toNatClampNeg k.toNatClampNeg (defaultValue .int) z.toNatClampNeg
    rw [hF, hTh] at f1 f2
    have hold : ∀ a : Nat, a < H.size → F.heap[a]? = H[a]? := fun a ha => by
      have := Jvm.Free.Multi.fill_old (T.setVm vm₁) (xA x 5) (xA x 0) z.toNatClampNeg k.toNatClampNeg (defaultValue .int) (a := a) (by rw [hTh]; exact ha) z.toNatClampNeg
      rw [hF, hTh] at this
      exact this
    have hrow : ∀ j : Nat, j < z.toNatClampNeg → F.heap[H.size + 1 + j]? = some (Jvm.Free.Multi.innerC (xA x 0) k.toNatClampNeg (defaultValue .int)) := fun j hj => by
      have := Jvm.Free.Multi.fill_inner (T.setVm vm₁) (xA x 5) (xA x 0) z.toNatClampNeg k.toNatClampNeg (defaultValue .int) z.toNatClampNeg j hj
      rw [hF, hTh] at this
      exact this
    have hsz := hH.1
    have hHM : HM x (gMul G z.toNatClampNeg k.toNatClampNeg) (iMul G I z.toNatClampNeg) F.heap := by
      refine hH.grow (G' := gMul G z.toNatClampNeg k.toNatClampNeg) (by show gN G ≤ gN G + 1 + _; omega) hb (fun b hb2 => ?_) (fun v hv => ?_) (by rw [f1, hsz]; show xz x + gN G + 1 + _ = xz x + (gN G + 1 + _); omega) hold (fun v h1 h2 => ?_)
      · have e0 : ¬ b = gN G := by omega
        have e1 : ¬ (gN G < b ∧ b < gN G + 1 + z.toNatClampNeg) := by omega
        have e2 : ¬ (gN G ≤ b ∧ b < gN G + 1 + z.toNatClampNeg) := by omega
        refine ⟨?_, ?_, ?_, ?_⟩
        · show (if b = gN G then _ else if gN G < b ∧ b < gN G + 1 + z.toNatClampNeg then _ else gT G b) = _
          rw [if_neg e0, if_neg e1]
        · show (if b = gN G then _ else if gN G < b ∧ b < gN G + 1 + z.toNatClampNeg then _ else gR G b) = _
          rw [if_neg e0, if_neg e1]
        · show (if gN G ≤ b ∧ b < gN G + 1 + z.toNatClampNeg then _ else gJ G b) = _
          rw [if_neg e2]
        · unfold iMul
          rw [if_neg e2]
      · have hv' : gN G + 1 + z.toNatClampNeg ≤ v := hv
        show (if v = gN G then _ else if gN G < v ∧ v < gN G + 1 + z.toNatClampNeg then _ else gT G v) = _
        rw [if_neg (by omega), if_neg (by omega)]
      · have h2' : v < gN G + 1 + z.toNatClampNeg := h2
        by_cases e : v = gN G
        · subst e
          have eT : gT (gMul G z.toNatClampNeg k.toNatClampNeg) (gN G) = (5, z.toNatClampNeg) := by
            show (if gN G = gN G then _ else _) = _
            rw [if_pos rfl]
          refine cellArr (k := 5) (by omega) (by rw [eT]) ?_
          rw [eT, ← hsz, f2, mul_outer]
          congr 2
          funext j
          have eR : gR (gMul G z.toNatClampNeg k.toNatClampNeg) (gN G) j = if j < z.toNatClampNeg then some (gN G + 1 + j) else none := by
            show (if gN G = gN G then (fun j => if j < z.toNatClampNeg then some (gN G + 1 + j) else none) else _) j = _
            rw [if_pos rfl]
          show _ = cv x (ofR (gR (gMul G z.toNatClampNeg k.toNatClampNeg) (gN G) j))
          rw [eR]
          by_cases hj : j < z.toNatClampNeg
          · rw [if_pos hj, if_pos hj]
            show Value.ref (H.size + 1 + j) = Value.ref (adr x (gN G + 1 + j))
            unfold adr
            rw [if_pos (by omega), show H.size + 1 + j = xz x + (gN G + 1 + j) by omega]
          · rw [if_neg hj, if_neg hj]
            rfl
        · have hin : gN G < v ∧ v < gN G + 1 + z.toNatClampNeg := by omega
          have eT : gT (gMul G z.toNatClampNeg k.toNatClampNeg) v = (0, k.toNatClampNeg) := by
            show (if v = gN G then _ else if gN G < v ∧ v < gN G + 1 + z.toNatClampNeg then _ else gT G v) = _
            rw [if_neg e, if_pos hin]
          refine cellArr (k := 0) (by omega) (by rw [eT]) ?_
          rw [eT, show xz x + v = H.size + 1 + (v - gN G - 1) by omega, hrow _ (by omega)]
          unfold Jvm.Free.Multi.innerC
          rw [arrV_new]
          congr 2
          funext j
          show _ = cv x (Value.int (iMul G I z.toNatClampNeg v j))
          have e2 : iMul G I z.toNatClampNeg v j = 0 := by
            unfold iMul
            rw [if_pos (by omega)]
          rw [e2]
          rfl
    have h3 := kk F.heap locs arr hHM hL hlo
    rw [eN, eS] at h3
    have ea : adr x (gN G) = H.size := by
      unfold adr
      rw [if_pos (by omega), hsz]
    have h4 : W p l e R s mi args below meth c F.heap locs (cells + (1 + z.toNatClampNeg)) (slots + (z.toNatClampNeg + z.toNatClampNeg * k.toNatClampNeg)) Q (F0 mi (pc + 4) arr (.ref (adr x (gN G)) :: r.map (cv x))) := h3
    rw [ea] at h4
    have X2 : Stand p l e R s mi args below meth c F locs (cells + (1 + z.toNatClampNeg)) (slots + (z.toNatClampNeg + z.toNatClampNeg * k.toNatClampNeg)) := by
      have e1 : cells + 1 + z.toNatClampNeg = cells + (1 + z.toNatClampNeg) := by omega
      have e2 : slots + z.toNatClampNeg + z.toNatClampNeg * k.toNatClampNeg = slots + (z.toNatClampNeg + z.toNatClampNeg * k.toNatClampNeg) := by omega
      rw [e1, e2] at X'
      exact X'
    obtain ⟨t, a1, b1⟩ := h4 F rfl X2
    refine ⟨t, step t ?_, b1⟩
    have e3 : T.heap.size = H.size := by rw [hT]
    rw [e3]
    exact a1
