/-! the steps on rows, and those that make cells -/
theorem akd_of {t : Nat} : (if t ≤ 2 then 0 else if t = 3 then 1 else 2) = akd t := rfl
theorem oAld_inv {ok : Nat → Bool} {pc : Nat} {ls : List Slot} {st : List Value} {G : Gm} {I : Im} {n : Nx} (h : oAld ok pc ls st G I = some (.inl n)) :
    ∃ (i : Int32) (a : Nat) (r : List Value), st = .int i :: .ref a :: r ∧ ok (gT G a).1 = true ∧ inb i (gT G a).2 = true ∧ n = (pc, ls, cval (akd (gT G a).1) G I a i.toNatClampNeg :: r, G, I) := by
  unfold oAld at h
  split at h
  · split at h
    · next hc => exact ⟨_, _, _, rfl, hc.1, hc.2, nx_inv h⟩
    · cases h
  · cases h
theorem sw_ald {x : Cx} {p : Program} {l : Launch} {e : Env} {R : Room} {s : State} {mi : MethodId} {args : Array Value} {below : List Frame} {meth : Method} {c : Code} {H : Heap} {a k : Nat} {i : Int32} {G : Gm} {I : Im} (hH : HM x G I H) (hk : k ≤ 5) (ht : (gT G a).1 = k) (hi : inb i (gT G a).2 = true) :
    ¬ (i < 0 ∨ (arrV (xA x k) (gT G a).2 (fun j => cv x (cval (akd k) G I a j))).slots.size ≤ i.toNatClampNeg) ∧ (arrV (xA x k) (gT G a).2 (fun j => cv x (cval (akd k) G I a j))).slots[i.toNatClampNeg]? = some (cv x (cval (akd k) G I a i.toNatClampNeg)) := by
  have h1 := inb_iff.mp hi
  have hlt : i.toNatClampNeg < (gT G a).2 := Nat.not_le.mp fun q => h1 (Or.inr q)
  rw [arrV_size]
  exact ⟨h1, arrV_read _ _ hlt⟩
theorem sw_iaload (x : Cx) (m : MD) : SW x m .iaload := by
  intro p l e R s mi args below meth c H locs cells slots Q arr pc len ls st G I n C hd hln h hH hL hlo hb hR1 hR2 hRc hRs kk
  obtain rfl : 1 = len := by rcases hln with q | q <;> first | exact q | (exact absurd (show 1 = 0 from q) (by decide))
  change oAld (fun t => t == 0) (pc + 1) ls st G I = _ at h
  obtain ⟨i, a, r, rfl, hok, hi, rfl⟩ := oAld_inv h
  have ht : (gT G a).1 = 0 := by simpa using hok
  obtain ⟨h1, h2⟩ := sw_ald (p := p) (l := l) (e := e) (R := R) (s := s) (mi := mi) (args := args) (below := below) (meth := meth) (c := c) hH (by omega) ht hi
  rw [ht] at kk
  exact W.iald C.1 C.2.1 (hH.arr (by omega) ht) ((C.kk.2.1 0 (by omega)).1 _ _) (fun q => by cases q) h1 h2 rfl rfl hd (kk.same hH hL hlo)
theorem sw_laload (x : Cx) (m : MD) : SW x m .laload := by
  intro p l e R s mi args below meth c H locs cells slots Q arr pc len ls st G I n C hd hln h hH hL hlo hb hR1 hR2 hRc hRs kk
  obtain rfl : 1 = len := by rcases hln with q | q <;> first | exact q | (exact absurd (show 1 = 0 from q) (by decide))
  change oAld (fun t => t == 3) (pc + 1) ls st G I = _ at h
  obtain ⟨i, a, r, rfl, hok, hi, rfl⟩ := oAld_inv h
  have ht : (gT G a).1 = 3 := by simpa using hok
  obtain ⟨h1, h2⟩ := sw_ald (p := p) (l := l) (e := e) (R := R) (s := s) (mi := mi) (args := args) (below := below) (meth := meth) (c := c) hH (by omega) ht hi
  rw [ht] at kk
  exact W.lald C.1 C.2.1 (hH.arr (by omega) ht) ((C.kk.2.1 3 (by omega)).1 _ _) (fun q => by cases q) h1 h2 rfl rfl hd (kk.same hH hL hlo)
theorem sw_baload (x : Cx) (m : MD) : SW x m .baload := by
  intro p l e R s mi args below meth c H locs cells slots Q arr pc len ls st G I n C hd hln h hH hL hlo hb hR1 hR2 hRc hRs kk
  obtain rfl : 1 = len := by rcases hln with q | q <;> first | exact q | (exact absurd (show 1 = 0 from q) (by decide))
  change oAld (fun t => t == 1 || t == 2) (pc + 1) ls st G I = _ at h
  obtain ⟨i, a, r, rfl, hok, hi, rfl⟩ := oAld_inv h
  have ht : (gT G a).1 = 1 ∨ (gT G a).1 = 2 := by simpa using hok
  rcases ht with ht | ht
  · obtain ⟨h1, h2⟩ := sw_ald (p := p) (l := l) (e := e) (R := R) (s := s) (mi := mi) (args := args) (below := below) (meth := meth) (c := c) hH (by omega) ht hi
    rw [ht] at kk
    exact W.bald C.1 C.2.1 (hH.arr (by omega) ht) ((C.kk.2.1 1 (by omega)).1 _ _) (fun q => by cases q) h1 h2 rfl rfl hd (kk.same hH hL hlo)
  · obtain ⟨h1, h2⟩ := sw_ald (p := p) (l := l) (e := e) (R := R) (s := s) (mi := mi) (args := args) (below := below) (meth := meth) (c := c) hH (by omega) ht hi
    rw [ht] at kk
    exact W.zald C.1 C.2.1 (hH.arr (by omega) ht) ((C.kk.2.1 2 (by omega)).1 _ _) (fun q => by cases q) h1 h2 rfl rfl hd (kk.same hH hL hlo)
theorem sw_aaload (x : Cx) (m : MD) : SW x m .aaload := by
  intro p l e R s mi args below meth c H locs cells slots Q arr pc len ls st G I n C hd hln h hH hL hlo hb hR1 hR2 hRc hRs kk
  obtain rfl : 1 = len := by rcases hln with q | q <;> first | exact q | (exact absurd (show 1 = 0 from q) (by decide))
  change oAld (fun t => t == 4 || t == 5) (pc + 1) ls st G I = _ at h
  obtain ⟨i, a, r, rfl, hok, hi, rfl⟩ := oAld_inv h
  have ht : (gT G a).1 = 4 ∨ (gT G a).1 = 5 := by simpa using hok
  rcases ht with ht | ht
  · obtain ⟨h1, h2⟩ := sw_ald (p := p) (l := l) (e := e) (R := R) (s := s) (mi := mi) (args := args) (below := below) (meth := meth) (c := c) hH (by omega) ht hi
    rw [ht] at kk
    exact W.aald C.1 C.2.1 (hH.arr (by omega) ht) ((C.kk.2.1 4 (by omega)).1 _ _) rfl (fun q => by cases q) h1 h2 rfl rfl hd (kk.same hH hL hlo)
  · obtain ⟨h1, h2⟩ := sw_ald (p := p) (l := l) (e := e) (R := R) (s := s) (mi := mi) (args := args) (below := below) (meth := meth) (c := c) hH (by omega) ht hi
    rw [ht] at kk
    exact W.aald C.1 C.2.1 (hH.arr (by omega) ht) ((C.kk.2.1 5 (by omega)).1 _ _) rfl (fun q => by cases q) h1 h2 rfl rfl hd (kk.same hH hL hlo)
/-- a row is written: what the row of the kit gives -/
theorem ast_core {x : Cx} {p : Program} {l : Launch} {e : Env} {R : Room} {s : State} {mi : MethodId} {args : Array Value} {below : List Frame} {meth : Method} {c : Code} {H : Heap} {locs : List Loc} {cells slots : Nat} {Q : State → Prop} {arr : Array Slot} {pc' : Nat} {m : MD} {a k i : Nat} {v : Value} {r : List Value} {G G' : Gm} {I I' : Im} {ls : List Slot}
    (hk : k ≤ 5) (ht : (gT G a).1 = k) (hH : HM x G I H) (hL : LsR x ls arr (mMax m)) (hlo : ∀ q ∈ locs, xz x ≤ q.base)
    (hG : gN G' = gN G ∧ gT G' = gT G) (hGS : gS G' = gS G) (hoth : ∀ b, b ≠ a → gR G' b = gR G b ∧ gJ G' b = gJ G b ∧ I' b = I b) (hval : ∀ j, cval (akd k) G' I' a j = if j = i then v else cval (akd k) G I a j)
    (kk : KT x p l e R s mi args below meth c m cells slots Q G (pc', ls, r, G', I')) :
    ∀ H' : Heap, H'[adr x a]? = some ((arrV (xA x k) (gT G a).2 (fun j => cv x (cval (akd k) G I a j))).setSlot i (cv x v)) → H'.size = H.size → (∀ q, q ≠ adr x a → H'[q]? = H[q]?) → W p l e R s mi args below meth c H' (locs ++ [⟨adr x a, i⟩]) cells slots Q (F0 mi pc' arr (r.map (cv x))) := by
  intro H' e1 e2 e3
  have h99 : (gT G a).1 ≠ 99 := by omega
  have ha := hH.ad h99
  have hlt := hH.lt h99
  refine kk.samN ⟨hG.1, hGS⟩ (hH.put hlt hG hoth e2 (by rw [← ha]; exact e3) (cellArr hk (by rw [hG.2]; exact ht) ?_)) hL ?_
  · rw [← ha, e1, arrV_store, hG.2]
    congr 2
    funext j
    rw [hval j]
    by_cases e : j = i
    · simp [updV, e]
    · simp [updV, e]
  · intro q hq
    rcases List.mem_append.mp hq with h | h
    · exact hlo q h
    · rw [List.mem_singleton.mp h]
      show xz x ≤ adr x a
      omega
theorem oAst_inv {ok : Nat → Bool} {pc : Nat} {ls : List Slot} {st : List Value} {G : Gm} {I : Im} {n : Nx} (h : oAst ok nFd pc ls st G I = some (.inl n)) :
    ∃ (v : Value) (i : Int32) (a : Nat) (r : List Value), st = v :: .int i :: .ref a :: r ∧ ok (gT G a).1 = true ∧ inb i (gT G a).2 = true ∧
      ((∃ w, v = .int w ∧ (gT G a).1 = 0 ∧ n = (pc, ls, r, G, s2 I a i.toNatClampNeg w)) ∨ (∃ w, v = .int w ∧ (gT G a).1 = 1 ∧ n = (pc, ls, r, G, s2 I a i.toNatClampNeg (vp_nar .byte w))) ∨ (∃ w, v = .int w ∧ (gT G a).1 = 2 ∧ n = (pc, ls, r, G, s2 I a i.toNatClampNeg (vp_nar .boolean w))) ∨
       (∃ w, v = .long w ∧ (gT G a).1 = 3 ∧ n = (pc, ls, r, gSetJ G a i.toNatClampNeg w, I)) ∨ (∃ w, v = .ref w ∧ (gT G a).1 = 4 ∧ gT G w = (16, nFd 6) ∧ n = (pc, ls, r, gSetR G a i.toNatClampNeg (some w), I))) := by
  unfold oAst at h
  split at h
  · rename_i v i a r
    split at h
    · next hc =>
      refine ⟨v, i, a, r, rfl, hc.1, hc.2, ?_⟩
      split at h
      · rename_i w
        by_cases h0 : (gT G a).1 = 0
        · rw [if_pos h0] at h
          exact Or.inl ⟨w, rfl, h0, nx_inv h⟩
        · rw [if_neg h0] at h
          by_cases h1 : (gT G a).1 = 1
          · rw [if_pos h1] at h
            exact Or.inr (Or.inl ⟨w, rfl, h1, nx_inv h⟩)
          · rw [if_neg h1] at h
            by_cases h2 : (gT G a).1 = 2
            · rw [if_pos h2] at h
              exact Or.inr (Or.inr (Or.inl ⟨w, rfl, h2, nx_inv h⟩))
            · rw [if_neg h2] at h; cases h
      · rename_i w
        by_cases h0 : (gT G a).1 = 3
        · rw [if_pos h0] at h
          exact Or.inr (Or.inr (Or.inr (Or.inl ⟨w, rfl, h0, nx_inv h⟩)))
        · rw [if_neg h0] at h; cases h
      · rename_i w
        by_cases h0 : (gT G a).1 = 4 ∧ gT G w = (16, nFd 6)
        · rw [if_pos h0] at h
          exact Or.inr (Or.inr (Or.inr (Or.inr ⟨w, rfl, h0.1, h0.2, nx_inv h⟩)))
        · rw [if_neg h0] at h; cases h
      · cases h
    · cases h
  · cases h
theorem ald_in {x : Cx} {G : Gm} {I : Im} {a k : Nat} {i : Int32} (hi : inb i (gT G a).2 = true) : ¬ (i < 0 ∨ (arrV (xA x k) (gT G a).2 (fun j => cv x (cval (akd k) G I a j))).slots.size ≤ i.toNatClampNeg) := by
  rw [arrV_size]
  exact inb_iff.mp hi
theorem sw_iastore (x : Cx) (m : MD) : SW x m .iastore := by
  intro p l e R s mi args below meth c H locs cells slots Q arr pc len ls st G I n C hd hln h hH hL hlo hb hR1 hR2 hRc hRs kk
  obtain rfl : 1 = len := by rcases hln with q | q <;> first | exact q | (exact absurd (show 1 = 0 from q) (by decide))
  change oAst (fun t => t == 0) nFd (pc + 1) ls st G I = _ at h
  obtain ⟨v, i, a, r, rfl, hok, hi, hv⟩ := oAst_inv h
  have ht : (gT G a).1 = 0 := by simpa using hok
  rcases hv with ⟨w, rfl, h0, rfl⟩ | ⟨w, rfl, h0, rfl⟩ | ⟨w, rfl, h0, rfl⟩ | ⟨w, rfl, h0, rfl⟩ | ⟨w, rfl, h0, -, rfl⟩
  · exact W.iast C.1 C.2.1 (hH.arr (by omega) ht) ((C.kk.2.1 0 (by omega)).1 _ _) (fun q => by cases q) (ald_in hi) rfl rfl hd (ast_core (v := .int w) (i := i.toNatClampNeg) (by omega) ht hH hL hlo ⟨rfl, rfl⟩ rfl (fun b hb => ⟨rfl, rfl, s2_ne hb⟩) (fun j => by show Value.int (s2 I a i.toNatClampNeg w a j) = _; rw [s2_eq]; by_cases e : j = i.toNatClampNeg <;> simp [e, cval, akd]) kk)
  all_goals omega
theorem sw_bastore (x : Cx) (m : MD) : SW x m .bastore := by
  intro p l e R s mi args below meth c H locs cells slots Q arr pc len ls st G I n C hd hln h hH hL hlo hb hR1 hR2 hRc hRs kk
  obtain rfl : 1 = len := by rcases hln with q | q <;> first | exact q | (exact absurd (show 1 = 0 from q) (by decide))
  change oAst (fun t => t == 1 || t == 2) nFd (pc + 1) ls st G I = _ at h
  obtain ⟨v, i, a, r, rfl, hok, hi, hv⟩ := oAst_inv h
  have ht : (gT G a).1 = 1 ∨ (gT G a).1 = 2 := by simpa using hok
  rcases hv with ⟨w, rfl, h0, rfl⟩ | ⟨w, rfl, h0, rfl⟩ | ⟨w, rfl, h0, rfl⟩ | ⟨w, rfl, h0, rfl⟩ | ⟨w, rfl, h0, -, rfl⟩
  · omega
  · exact W.bast C.1 C.2.1 (hH.arr (by omega) h0) ((C.kk.2.1 1 (by omega)).1 _ _) (fun q => by cases q) (ald_in hi) rfl rfl hd (ast_core (v := .int (vp_nar .byte w)) (i := i.toNatClampNeg) (by omega) h0 hH hL hlo ⟨rfl, rfl⟩ rfl (fun b hb => ⟨rfl, rfl, s2_ne hb⟩) (fun j => by show Value.int (s2 I a i.toNatClampNeg _ a j) = _; rw [s2_eq]; by_cases e : j = i.toNatClampNeg <;> simp [e, cval, akd]) kk)
  · exact W.zast C.1 C.2.1 (hH.arr (by omega) h0) ((C.kk.2.1 2 (by omega)).1 _ _) (fun q => by cases q) (ald_in hi) rfl rfl hd (ast_core (v := .int (vp_nar .boolean w)) (i := i.toNatClampNeg) (by omega) h0 hH hL hlo ⟨rfl, rfl⟩ rfl (fun b hb => ⟨rfl, rfl, s2_ne hb⟩) (fun j => by show Value.int (s2 I a i.toNatClampNeg _ a j) = _; rw [s2_eq]; by_cases e : j = i.toNatClampNeg <;> simp [e, cval, akd]) kk)
  all_goals omega
theorem sw_lastore (x : Cx) (m : MD) : SW x m .lastore := by
  intro p l e R s mi args below meth c H locs cells slots Q arr pc len ls st G I n C hd hln h hH hL hlo hb hR1 hR2 hRc hRs kk
  obtain rfl : 1 = len := by rcases hln with q | q <;> first | exact q | (exact absurd (show 1 = 0 from q) (by decide))
  change oAst (fun t => t == 3) nFd (pc + 1) ls st G I = _ at h
  obtain ⟨v, i, a, r, rfl, hok, hi, hv⟩ := oAst_inv h
  have ht : (gT G a).1 = 3 := by simpa using hok
  rcases hv with ⟨w, rfl, h0, rfl⟩ | ⟨w, rfl, h0, rfl⟩ | ⟨w, rfl, h0, rfl⟩ | ⟨w, rfl, h0, rfl⟩ | ⟨w, rfl, h0, -, rfl⟩
  · omega
  · omega
  · omega
  · exact W.last C.1 C.2.1 (hH.arr (by omega) h0) ((C.kk.2.1 3 (by omega)).1 _ _) (fun q => by cases q) (ald_in hi) rfl rfl hd (ast_core (v := .long w) (G' := gSetJ G a i.toNatClampNeg w) (i := i.toNatClampNeg) (by omega) h0 hH hL hlo ⟨rfl, rfl⟩ rfl (fun b hb => ⟨rfl, s2_ne hb, rfl⟩) (fun j => by show Value.long (s2 (gJ G) a i.toNatClampNeg w a j) = _; rw [s2_eq]; by_cases e : j = i.toNatClampNeg <;> simp [e, cval, akd]) kk)
  · omega
theorem sw_aastore (x : Cx) (m : MD) : SW x m .aastore := by
  intro p l e R s mi args below meth c H locs cells slots Q arr pc len ls st G I n C hd hln h hH hL hlo hb hR1 hR2 hRc hRs kk
  obtain rfl : 1 = len := by rcases hln with q | q <;> first | exact q | (exact absurd (show 1 = 0 from q) (by decide))
  change oAst (fun t => t == 4) nFd (pc + 1) ls st G I = _ at h
  obtain ⟨v, i, a, r, rfl, hok, hi, hv⟩ := oAst_inv h
  have ht : (gT G a).1 = 4 := by simpa using hok
  rcases hv with ⟨w, rfl, h0, rfl⟩ | ⟨w, rfl, h0, rfl⟩ | ⟨w, rfl, h0, rfl⟩ | ⟨w, rfl, h0, rfl⟩ | ⟨w, rfl, h0, hw, rfl⟩
  · omega
  · omega
  · omega
  · omega
  · obtain ⟨kA, comp, g1, g2, g3, g4⟩ := (C.kk.2.1 4 (by omega)).2
    obtain ⟨hS, hfc, kC, hkC, hkind⟩ := C.kk.1 6 (by omega)
    obtain ⟨cell, q1, q2, q3, q4⟩ := hH.obj (v := w) (ci := 6) (by omega) hw
    have ec : comp = xC x 6 := Option.some.inj (g3.symm.trans hfc)
    have h1 := inb_iff.mp hi
    refine W.aast C.1 C.2.1 (t := .object RX6) (hH.arr (by omega) h0) (fun q hq => by cases hq) (fun q => by cases q) (k := kA) g1 g2 rfl (kcomp := kC) (by rw [ec]; exact hkC) ⟨fun q => h1 (Or.inl q), ?_⟩ (v := adr x w) q1 (fun q hq => by rw [q3] at hq; cases hq) (kv := kC) (by rw [q2]; exact hkC) (by rw [q2, ec]; exact va_asg _ _) rfl rfl hd (ast_core (v := .ref w) (G' := gSetR G a i.toNatClampNeg (some w)) (i := i.toNatClampNeg) (by omega) h0 hH hL hlo ⟨rfl, rfl⟩ rfl (fun b hb => ⟨s2_ne hb, rfl, rfl⟩) (fun j => by show ofR (s2 (gR G) a i.toNatClampNeg (some w) a j) = _; rw [s2_eq]; by_cases e : j = i.toNatClampNeg <;> simp [e, cval, akd, ofR]) kk)
    rw [arrV_size]
    exact Nat.not_le.mp fun q => h1 (Or.inr q)
/-- one cell more in the heap -/
theorem HM.new {x : Cx} {G : Gm} {I : Im} {H H' : Heap} {t : Nat × Nat} (h : HM x G I H) (hb : gN G + 1 ≤ 1000000) (hs : H'.size = H.size + 1) (hq : ∀ q, q < H.size → H'[q]? = H[q]?) (hc : cellAt x (gNew G t) (iNew I (gN G)) H' (gN G)) : HM x (gNew G t) (iNew I (gN G)) H' := by
  refine h.grow (G' := gNew G t) (by show gN G ≤ gN G + 1; omega) hb (fun b hb2 => ?_) (fun v hv => ?_) (by rw [hs, h.1]; rfl) hq (fun v h1 h2 => ?_)
  · have e : b ≠ gN G := by omega
    exact ⟨by show s1 _ _ _ b = _; unfold s1; rw [if_neg e], by show s1 _ _ _ b = _; unfold s1; rw [if_neg e], by show s1 _ _ _ b = _; unfold s1; rw [if_neg e], by unfold iNew s1; rw [if_neg e]⟩
  · have e : v ≠ gN G := by have : gN G + 1 ≤ v := hv; omega
    show s1 _ _ _ v = _
    unfold s1
    rw [if_neg e]
  · have h3 : v < gN G + 1 := h2
    have e : v = gN G := by omega
    rw [e]
    exact hc
theorem gNew_T {G : Gm} {t : Nat × Nat} : gT (gNew G t) (gN G) = t := by
  show s1 _ _ _ _ = _
  unfold s1
  rw [if_pos rfl]
theorem gNew_val {G : Gm} {t : Nat × Nat} {I : Im} (kd j : Nat) : cval kd (gNew G t) (iNew I (gN G)) (gN G) j = if kd = 0 then .int 0 else if kd = 1 then .long 0 else .null := by
  have e1 : iNew I (gN G) (gN G) j = 0 := by unfold iNew s1; rw [if_pos rfl]
  have e2 : gJ (gNew G t) (gN G) j = 0 := by show s1 (gJ G) (gN G) (fun _ => 0) (gN G) j = 0; unfold s1; rw [if_pos rfl]
  have e3 : gR (gNew G t) (gN G) j = none := by show s1 (gR G) (gN G) (fun _ => none) (gN G) j = none; unfold s1; rw [if_pos rfl]
  unfold cval
  rw [e1, e2, e3]
  rfl
theorem dvOf {t : FieldType} (h : tyKd t ≤ 2) : defaultValue t = if tyKd t = 0 then .int 0 else if tyKd t = 1 then .long 0 else .null := by
  cases t <;> first | rfl | (exact absurd h (by decide))
theorem sw_new (x : Cx) (m : MD) (i : Nat) : SW x m (.new i) := by
  intro p l e R s mi args below meth c H locs cells slots Q arr pc len ls st G I n C hd hln h hH hL hlo hb hR1 hR2 hRc hRs kk
  obtain rfl : 3 = len := by rcases hln with q | q <;> first | exact q | (exact absurd (show 3 = 0 from q) (by decide))
  change (match nR (mOwn m) i with | some ci => _ | none => none) = _ at h
  cases hq : nR (mOwn m) i with
  | none => rw [hq] at h; cases h
  | some ci =>
    rw [hq] at h
    have h := nx_inv h
    subst h
    obtain ⟨hw, hci⟩ := nWok C.own hq
    have hKn := C.kk.1 ci.1 hci
    have eN : gN (gNew G (10 + ci.1, nFd ci.1)) - gN G = 1 := by show gN G + 1 - gN G = 1; omega
    have eS : gS (gNew G (10 + ci.1, nFd ci.1)) - gS G = nFd ci.1 := by show gS G + nFd ci.1 - gS G = _; omega
    dsimp only at hRc hRs hb
    rw [eN] at hRc
    rw [eS] at hRs
    refine W.newcK C.1 C.2.1 C.hown (C.hts _ (inTW ci.2 hw rfl)) (C.hts _ (iWok hci).1) (C.hts _ (iWok hci).2) rfl hd hRc hRs hKn.2.1 rfl fun H1 kC hkC e1 z1 o1 => ?_
    have hz := hH.1
    have h3 := kk H1 locs arr (hH.new hb z1 o1 (cellObj hci gNew_T ?_)) hL hlo
    · rw [eN, eS] at h3
      have ea : adr x (gN G) = H.size := by
        unfold adr
        rw [if_pos (by have : gN G + 1 ≤ 1000000 := hb; omega), hz]
      have h4 : W p l e R s mi args below meth c H1 locs (cells + 1) (slots + nFd ci.1) Q (F0 mi (pc + 3) arr (.ref (adr x (gN G)) :: st.map (cv x))) := h3
      rw [ea] at h4
      exact h4
    · have hob := u_born (fun k => tFd ci.1 k) C.hts (uWok hci) hKn hkC e1 (tyOk hci)
      rw [hz] at hob
      exact hob.to (fun j hj => by rw [gNew_val, dvOf (dclOk hci hj).2]; split <;> first | rfl | (split <;> rfl))
