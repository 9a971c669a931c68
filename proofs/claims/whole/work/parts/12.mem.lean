/-! the steps that touch the memory -/
theorem fWok {own i : Nat} {q : Nat × Nat × Bool × Nat} (ho : own < 14) (h : fR own i = some q) : tables_1[q.2.2.2]? = some (fWd own i q) ∧ q.1 < 14 ∧ q.2.1 < nFd q.1 :=
  of_decide_eq_true (List.all_eq_true.mp (List.all_eq_true.mp fW_all own (List.mem_range.mpr ho)) _ (lk_mem h))
theorem kWok {own i : Nat} {q : Int32 × Nat} (ho : own < 14) (h : kR own i = some q) : tables_1[q.2]? = some (.constant (RXs own) i q.1) :=
  of_decide_eq_true (List.all_eq_true.mp (List.all_eq_true.mp kW_all own (List.mem_range.mpr ho)) _ (lk_mem h))
theorem lWok {own i : Nat} {q : Int64 × Nat} (ho : own < 14) (h : lR own i = some q) : tables_1[q.2]? = some (.constantLong (RXs own) i q.1) :=
  of_decide_eq_true (List.all_eq_true.mp (List.all_eq_true.mp lW_all own (List.mem_range.mpr ho)) _ (lk_mem h))
theorem sWok {own i : Nat} {q : Nat × Nat} (ho : own < 14) (h : sR own i = some q) : tables_1[q.2]? = some (.stringRef (RXs own) i (sT q.1)) ∧ q.1 < 49 :=
  of_decide_eq_true (List.all_eq_true.mp (List.all_eq_true.mp sW_all own (List.mem_range.mpr ho)) _ (lk_mem h))
theorem nWok {own i : Nat} {q : Nat × Nat} (ho : own < 14) (h : nR own i = some q) : tables_1[q.2]? = some (.classLink (RXs own) i (RXs q.1)) ∧ q.1 < 14 :=
  of_decide_eq_true (List.all_eq_true.mp (List.all_eq_true.mp nW_all own (List.mem_range.mpr ho)) _ (lk_mem h))
theorem aWok {own i q : Nat} (ho : own < 14) (h : aR own i = some q) : tables_1[q]? = some (.classLink (RXs own) i RX6) :=
  of_decide_eq_true (List.all_eq_true.mp (List.all_eq_true.mp aW_all own (List.mem_range.mpr ho)) _ (lk_mem h))
theorem mWok {own i q : Nat} (ho : own < 14) (h : mR own i = some q) : tables_1[q]? = some (.classLink (RXs own) i "[[I") :=
  of_decide_eq_true (List.all_eq_true.mp (List.all_eq_true.mp mW_all own (List.mem_range.mpr ho)) _ (lk_mem h))
theorem jWok {own i : Nat} {q : Nat × Nat} (ho : own < 14) (h : jR own i = some q) : tables_1[q.2]? = some (.methodLink (RXs own) i (jY q.1)) :=
  of_decide_eq_true (List.all_eq_true.mp (List.all_eq_true.mp jW_all own (List.mem_range.mpr ho)) _ (lk_mem h))
theorem uWok {ci : Nat} (hc : ci < 14) : ∀ w ∈ u_ws (RXs ci) (TXs ci) (nFd ci), w ∈ TW := by
  intro w hw
  have h := List.all_eq_true.mp uW_all ci (List.mem_range.mpr hc)
  rw [Bool.and_eq_true] at h
  have h1 := of_decide_eq_true h.1
  have h2 := List.all_eq_true.mp h.2 w hw
  rw [h1] at hw
  obtain ⟨i, -, hi⟩ := List.mem_filterMap.mp hw
  exact inTW i hi h2
theorem iWok {ci : Nat} (hc : ci < 14) : Cond.instantiable (RXs ci) (nFd ci) ∈ TW ∧ Cond.initialized (RXs ci) ∈ TW := by
  have h := List.all_eq_true.mp iW_all ci (List.mem_range.mpr hc)
  rw [Bool.and_eq_true] at h
  exact ⟨inTW _ (of_decide_eq_true h.1) rfl, inTW _ (of_decide_eq_true h.2) rfl⟩
theorem c14 {P : Nat → Prop} (h0 : P 0) (h1 : P 1) (h2 : P 2) (h3 : P 3) (h4 : P 4) (h5 : P 5) (h6 : P 6) (h7 : P 7) (h8 : P 8) (h9 : P 9) (h10 : P 10) (h11 : P 11) (h12 : P 12) (h13 : P 13) {i : Nat} (hi : i < 14) : P i := by
  rcases (show i = 0 ∨ i = 1 ∨ i = 2 ∨ i = 3 ∨ i = 4 ∨ i = 5 ∨ i = 6 ∨ i = 7 ∨ i = 8 ∨ i = 9 ∨ i = 10 ∨ i = 11 ∨ i = 12 ∨ i = 13 by omega) with rfl | rfl | rfl | rfl | rfl | rfl | rfl | rfl | rfl | rfl | rfl | rfl | rfl | rfl <;> assumption
theorem tyOk {ci : Nat} (hc : ci < 14) : ∀ k, k < nFd ci → parseFieldDescriptor (TXs ci k).2.2.1 = some (tFd ci k) := c14 (P := fun ci => ∀ k, k < nFd ci → parseFieldDescriptor (TXs ci k).2.2.1 = some (tFd ci k)) tyX0_ok tyX1_ok tyX2_ok tyX3_ok tyX4_ok tyX5_ok tyX6_ok tyX7_ok tyX8_ok tyX9_ok tyX10_ok tyX11_ok tyX12_ok tyX13_ok hc
theorem nmOk {ci : Nat} (hc : ci < 14) : ∀ a, a < nFd ci → ∀ b, b < nFd ci → a ≠ b → (TXs ci a).2.1 ≠ (TXs ci b).2.1 := c14 (P := fun ci => ∀ a, a < nFd ci → ∀ b, b < nFd ci → a ≠ b → (TXs ci a).2.1 ≠ (TXs ci b).2.1) nmX0 nmX1 nmX2 nmX3 nmX4 nmX5 nmX6 nmX7 nmX8 nmX9 nmX10 nmX11 nmX12 nmX13 hc
theorem dcl_all : (List.range 14).all (fun ci => (List.range (nFd ci)).all (fun k => decide ((TXs ci k).1 = RXs ci ∧ tyKd (tFd ci k) ≤ 2))) = true := by decide +kernel
theorem dclOk {ci k : Nat} (hc : ci < 14) (hk : k < nFd ci) : (TXs ci k).1 = RXs ci ∧ tyKd (tFd ci k) ≤ 2 :=
  of_decide_eq_true (List.all_eq_true.mp (List.all_eq_true.mp dcl_all ci (List.mem_range.mpr hc)) _ (List.mem_range.mpr hk))
theorem inb_iff {i : Int32} {n : Nat} : inb i n = true ↔ ¬ (i < 0 ∨ n ≤ i.toNatClampNeg) := by
  unfold inb
  simp
theorem MC.own {x : Cx} {p : Program} {s : State} {mi : MethodId} {args : Array Value} {meth : Method} {c : Code} {m : MD} (C : MC x p s mi args meth c m) : mOwn m < 14 := C.2.2.2.2.2.2.2.2.2.1.1
theorem MC.kk {x : Cx} {p : Program} {s : State} {mi : MethodId} {args : Array Value} {meth : Method} {c : Code} {m : MD} (C : MC x p s mi args meth c m) : KK x s := C.2.2.2.2.2.2.2.2.1
theorem MC.hts {x : Cx} {p : Program} {s : State} {mi : MethodId} {args : Array Value} {meth : Method} {c : Code} {m : MD} (C : MC x p s mi args meth c m) : ∀ w ∈ TW, w.before args s = true := C.2.2.2.2.2.2.2.1
theorem MC.hown {x : Cx} {p : Program} {s : State} {mi : MethodId} {args : Array Value} {meth : Method} {c : Code} {m : MD} (C : MC x p s mi args meth c m) : s.vm.findClass (RXs (mOwn m)) = some mi.cls := C.2.2.2.2.2.1
/-- the slots of a class are apart -/
theorem xapart {x : Cx} {s : State} {args : Array Value} (hts : ∀ w ∈ TW, w.before args s = true) (hK : KK x s) {ci : Nat} (hc : ci < 14) : ∀ a b, a < nFd ci → b < nFd ci → a ≠ b → xI x ci a ≠ xI x ci b := by
  intro a b ha hb hne
  obtain ⟨hS, -⟩ := hK.1 ci hc
  obtain ⟨_, _, _, fa, hia, ea⟩ := hS a ha
  obtain ⟨_, _, _, fb, hib, eb⟩ := hS b hb
  rw [← ea, ← eb]
  refine u_apart (u_lays hts (uWok hc) ha) (u_lays hts (uWok hc) hb) hia hib ?_
  rw [(State.fieldFound?_type hia (tyOk hc a ha)).1, (State.fieldFound?_type hib (tyOk hc b hb)).1]
  exact nmOk hc a ha b hb hne
theorem cellObj {x : Cx} {G : Gm} {I : Im} {H : Heap} {v ci : Nat} (hc : ci < 14) (ht : gT G v = (10 + ci, nFd ci)) (h : t_OB (xz x + v) (xC x ci) (nFd ci) (xI x ci) H (fun j => cv x (cval (tyKd (tFd ci j)) G I v j))) : cellAt x G I H v := by
  refine ⟨fun k hk hq => ?_, fun cj hj hq => ?_⟩
  · rw [ht] at hq
    have hq' : 10 + ci = k := hq
    omega
  · rw [ht] at hq
    have e : 10 + ci = 10 + cj := congrArg Prod.fst hq
    have e2 : ci = cj := by omega
    subst e2
    exact h
theorem cellArr {x : Cx} {G : Gm} {I : Im} {H : Heap} {v k : Nat} (hk : k ≤ 5) (ht : (gT G v).1 = k) (h : H[xz x + v]? = some (arrV (xA x k) (gT G v).2 (fun j => cv x (cval (akd k) G I v j)))) : cellAt x G I H v := by
  refine ⟨fun j hj hq => ?_, fun cj hj hq => ?_⟩
  · rw [ht] at hq
    subst hq
    exact h
  · rw [hq] at ht
    have ht' : 10 + cj = k := ht
    omega
theorem s2_eq {α : Type} {f : Nat → Nat → α} {a k : Nat} {x : α} (j : Nat) : s2 f a k x a j = if j = k then x else f a j := by
  unfold s2
  rw [if_pos rfl]
theorem s2_ne {α : Type} {f : Nat → Nat → α} {a k b : Nat} {x : α} (h : b ≠ a) : s2 f a k x b = f b := by
  unfold s2
  rw [if_neg h]
theorem oGet_inv {q : Option (Nat × Nat × Bool × Nat)} {pc : Nat} {ls : List Slot} {st : List Value} {G : Gm} {I : Im} {n : Nx} (h : oGet q nFd tFd pc ls st G I = some (.inl n)) :
    ∃ (ci k : Nat) (z : Bool × Nat) (a : Nat) (r : List Value), q = some (ci, k, z) ∧ st = .ref a :: r ∧ gT G a = (10 + ci, nFd ci) ∧ k < nFd ci ∧ n = (pc, ls, cval (tyKd (tFd ci k)) G I a k :: r, G, I) := by
  unfold oGet at h
  split at h
  · rename_i ci k z a r
    split at h
    · next hc => exact ⟨_, _, _, _, _, rfl, rfl, hc.1, hc.2.1, nx_inv h⟩
    · cases h
  · cases h
theorem sw_getfield (x : Cx) (m : MD) (i : Nat) : SW x m (.getfield i) := by
  intro p l e R s mi args below meth c H locs cells slots Q arr pc len ls st G I n C hd hln h hH hL hlo hb hR1 hR2 hRc hRs kk
  have hx := C.1
  have hcb := C.2.1
  obtain rfl : 3 = len := by rcases hln with q | q <;> first | exact q | (exact absurd (show 3 = 0 from q) (by decide))
  obtain ⟨ci, k, z, a, r, hq, rfl, ht, hk, rfl⟩ := oGet_inv h
  obtain ⟨hw, hci, -⟩ := fWok C.own hq
  obtain ⟨cell, q1, q2, q3, q4⟩ := hH.obj hci ht
  obtain ⟨hS, hfc, kC, hkC, hkind⟩ := C.kk.1 ci hci
  obtain ⟨cf, kf, fi, f, hi, hsl⟩ := hS k hk
  have hst := (u_facts hfc hkC (u_lays C.hts (uWok hci) hk) hi).1
  have hslot : cell.slots[f.slot]? = some (cv x (cval (tyKd (tFd ci k)) G I a k)) := by rw [hsl]; exact q4 k hk
  obtain ⟨nest, wi⟩ := z
  cases nest with
  | false =>
    refine W.getf hx hcb C.hown (ref := (TXs ci k).1) (name := (TXs ci k).2.1) (desc := (TXs ci k).2.2.1) ?_ hi hst q1 (by rw [q3]; exact fun h => by cases h) hslot rfl rfl hd (kk.same hH hL hlo)
    exact C.hts _ (inTW wi hw rfl)
  | true =>
    refine va_Wgetf hx hcb C.hown (ref := (TXs ci k).1) (name := (TXs ci k).2.1) (desc := (TXs ci k).2.2.1) (host := hostOf (mOwn m)) ?_ hi hst q1 (by rw [q3]; exact fun h => by cases h) hslot rfl rfl hd (kk.same hH hL hlo)
    exact va_Nw.use rfl (C.kk.2.2.1 _ C.own _ (lk_mem hq) rfl)
/-- a field is written: what the row gives -/
theorem put_core {x : Cx} {p : Program} {l : Launch} {e : Env} {R : Room} {s : State} {mi : MethodId} {args : Array Value} {below : List Frame} {meth : Method} {c : Code} {H : Heap} {locs : List Loc} {cells slots : Nat} {Q : State → Prop} {arr : Array Slot} {pc : Nat} {m : MD} {i ci k wi a : Nat} {nest : Bool} {v : Value} {r : List Value} {G G' : Gm} {I I' : Im} {ls : List Slot}
    (C : MC x p s mi args meth c m) (hd : decode (mBy m) pc = .ok (.putfield i, 3)) (hq : fR (mOwn m) i = some (ci, k, nest, wi)) (ht : gT G a = (10 + ci, nFd ci)) (hk : k < nFd ci) (hfin : fFd ci k = false ∨ ((mNm m).name = "<init>" ∧ mOwn m = ci))
    (hn : narrow (tFd ci k) (cv x v) = cv x v) (hf : fits (tFd ci k) (cv x v) = true) (hH : HM x G I H) (hL : LsR x ls arr (mMax m)) (hlo : ∀ q ∈ locs, xz x ≤ q.base)
    (hG : gN G' = gN G ∧ gT G' = gT G) (hoth : ∀ b, b ≠ a → gR G' b = gR G b ∧ gJ G' b = gJ G b ∧ I' b = I b) (hval : ∀ j, j < nFd ci → cval (tyKd (tFd ci j)) G' I' a j = if j = k then v else cval (tyKd (tFd ci j)) G I a j)
    (kk : ∀ (H' : Heap) (locs' : List Loc), HM x G' I' H' → (∀ q ∈ locs', xz x ≤ q.base) → W p l e R s mi args below meth c H' locs' cells slots Q (F0 mi (pc + 3) arr (r.map (cv x)))) :
    W p l e R s mi args below meth c H locs cells slots Q (F0 mi pc arr ((v :: .ref a :: r).map (cv x))) := by
  obtain ⟨hw, hci, -⟩ := fWok C.own hq
  have hx := C.1
  have hcb := C.2.1
  have h99 : (gT G a).1 ≠ 99 := by rw [ht]; show 10 + ci ≠ 99; omega
  have ha := hH.ad h99
  have hlt := hH.lt h99
  obtain ⟨cell, q1, q2, q3, q4⟩ := hH.obj hci ht
  obtain ⟨hS, hfc, kC, hkC, hkind⟩ := C.kk.1 ci hci
  obtain ⟨cf, kf, fi, f, hi, hsl⟩ := hS k hk
  have hst := (u_facts hfc hkC (u_lays C.hts (uWok hci) hk) hi).1
  have hap := xapart C.hts C.kk hci
  have key : ∀ H' : Heap, H'[adr x a]? = some (cell.setSlot f.slot (cv x v)) → H'.size = H.size → (∀ q, q ≠ adr x a → H'[q]? = H[q]?) → W p l e R s mi args below meth c H' (locs ++ [⟨adr x a, f.slot⟩]) cells slots Q (F0 mi (pc + 3) arr (r.map (cv x))) := by
    intro H' e1 e2 e3
    rw [hsl] at e1 ⊢
    refine kk H' _ ?_ ?_
    · refine hH.put hlt hG hoth e2 (by rw [← ha]; exact e3) (cellObj hci (by rw [hG.2]; exact ht) ?_)
      rw [← ha]
      refine t_OB.to (V := updV (fun j => cv x (cval (tyKd (tFd ci j)) G I a j)) k (cv x v)) ⟨_, e1, q2, q3, t_set q4 hap hk (cv x v)⟩ (fun j hj => ?_)
      rw [hval j hj]
      by_cases e : j = k
      · simp [updV, e]
      · simp [updV, e]
    · intro q hq
      rcases List.mem_append.mp hq with h | h
      · exact hlo q h
      · rw [List.mem_singleton.mp h]
        show xz x ≤ adr x a
        omega
  have hslotlt : f.slot < cell.slots.size := by rw [hsl]; exact k2_hasslot (q4 k hk)
  have hlay := C.hts _ (uWok hci _ (u_in_lay hk))
  unfold u_lay at hlay
  by_cases hff : (TXs ci k).2.2.2 = true
  · rw [if_pos hff] at hlay
    rcases hfin with hz | ⟨hz1, hz2⟩
    · unfold fFd at hz
      rw [hff] at hz
      cases hz
    · have hcf : mi.cls = cf := by
        obtain ⟨_, _, c', _, _, _, -, -, hf', -, -, -, hown2, -⟩ := Cond.laysFinal_spec hlay
        have e1 : c' = cf := by have := hi.symm.trans hf'; simp at this; exact this.1.symm
        rw [(dclOk hci hk).1] at hown2
        rw [← e1]
        have h9 := C.hown
        rw [hz2] at h9
        exact Option.some.inj (h9.symm.trans hown2)
      have h6 := u_fits hfc hkC hkind (Or.inr hlay) hi (tyOk hci k hk) hn hf
      cases nest with
      | false => exact W.putFinK hx hcb C.hown (C.hts _ (inTW wi hw rfl)) hi hst hcf (by rw [C.2.2.2.2.2.2.1]; exact hz1) (by rw [q2]; exact h6) q1 q3 hslotlt rfl rfl hd key
      | true =>
        refine va_Wputf hx hcb C.hown (ref := (TXs ci k).1) (name := (TXs ci k).2.1) (desc := (TXs ci k).2.2.1) (host := hostOf (mOwn m)) (va_Nw.use rfl (C.kk.2.2.1 _ C.own _ (lk_mem hq) rfl)) hi hst (Or.inr ⟨hcf, by rw [C.2.2.2.2.2.2.1]; exact hz1⟩) q1 (by rw [q3]; exact fun h => by cases h) hslotlt h6.1 (by rw [q2, q3]; exact h6.2) rfl rfl hd ?_
        have hal := (Array.getElem?_eq_some_iff.mp q1).1
        exact key _ (by simp [Array.getElem?_setIfInBounds, hal]) (by simp) (fun q hq => by simp [Array.getElem?_setIfInBounds, Ne.symm hq])
  · rw [if_neg hff] at hlay
    have h6 := u_store hfc hkC hkind hlay hi (tyOk hci k hk) hn hf
    cases nest with
    | false => exact W.putK hx hcb (f := f) ⟨C.hown, C.hts _ (inTW wi hw rfl), ⟨_, _, _, hi⟩, hst⟩ (by rw [q2]; exact h6) q1 q3 hslotlt rfl rfl hd key
    | true => exact va_WputK hx hcb C.hown (host := hostOf (mOwn m)) (va_Nw.use rfl (C.kk.2.2.1 _ C.own _ (lk_mem hq) rfl)) hi hst (by rw [q2]; exact h6) q1 q3 hslotlt rfl rfl hd key
theorem sw_putfield (x : Cx) (m : MD) (i : Nat) : SW x m (.putfield i) := by
  intro p l e R s mi args below meth c H locs cells slots Q arr pc len ls st G I n C hd hln h hH hL hlo hb hR1 hR2 hRc hRs kk
  obtain rfl : 3 = len := by rcases hln with q | q <;> first | exact q | (exact absurd (show 3 = 0 from q) (by decide))
  change oPut (fR (mOwn m) i) nFd tFd fFd m (pc + 3) ls st G I = _ at h
  unfold oPut at h
  split at h
  · rename_i q1 q2 ci k z v a r hq
    split at h
    · next hc =>
      obtain ⟨ht, hk, hfin⟩ := hc
      have hci : ci < 14 := (fWok C.own hq).2.1
      split at h
      · rename_i w
        split at h
        · next h3 =>
          have h := nx_inv h
          subst h
          refine put_core (v := .int w) (G' := G) (I' := s2 I a k w) (ls := ls) C hd hq ht hk hfin h3.2.1 h3.2.2 hH hL hlo ⟨rfl, rfl⟩ (fun b hb => ⟨rfl, rfl, s2_ne hb⟩) (fun j hj => ?_) (fun H' locs' hH' hlo' => kk.same hH' hL hlo')
          unfold cval
          rw [s2_eq]
          by_cases e : j = k
          · subst e
            rw [if_pos rfl, if_pos h3.1, if_pos rfl]
          · rw [if_neg e, if_neg e]
        · cases h
      · rename_i w
        split at h
        · next h3 =>
          have h := nx_inv h
          subst h
          refine put_core (v := .long w) (G' := gSetJ G a k w) (I' := I) (ls := ls) C hd hq ht hk hfin (by rw [h3]; rfl) (by rw [h3]; rfl) hH hL hlo ⟨rfl, rfl⟩ (fun b hb => ⟨rfl, s2_ne hb, rfl⟩) (fun j hj => ?_) (fun H' locs' hH' hlo' => kk.samN ⟨rfl, rfl⟩ hH' hL hlo')
          unfold cval
          show (if _ then _ else if _ then Value.long (s2 (gJ G) a k w a j) else ofR (gR G a j)) = _
          rw [s2_eq]
          by_cases e : j = k
          · subst e
            rw [h3, if_pos rfl, if_pos rfl]
            rfl
          · rw [if_neg e, if_neg e]
        · cases h
      · rename_i w
        split at h
        · next h3 =>
          have h := nx_inv h
          subst h
          have hr : (∃ n, tFd ci k = .object n) ∨ ∃ t, tFd ci k = .array t := by
            cases h9 : tFd ci k with
            | object n => exact Or.inl ⟨n, rfl⟩
            | array t => exact Or.inr ⟨t, rfl⟩
            | _ => rw [h9] at h3; cases h3
          refine put_core (v := .ref w) (G' := gSetR G a k (some w)) (I' := I) (ls := ls) C hd hq ht hk hfin (by rcases hr with ⟨n, e⟩ | ⟨n, e⟩ <;> rw [e] <;> rfl) (by rcases hr with ⟨n, e⟩ | ⟨n, e⟩ <;> rw [e] <;> rfl) hH hL hlo ⟨rfl, rfl⟩ (fun b hb => ⟨s2_ne hb, rfl, rfl⟩) (fun j hj => ?_) (fun H' locs' hH' hlo' => kk.samN ⟨rfl, rfl⟩ hH' hL hlo')
          unfold cval
          show (if _ then _ else if _ then Value.long (gJ G a j) else ofR (s2 (gR G) a k (some w) a j)) = _
          rw [s2_eq]
          by_cases e : j = k
          · subst e
            rw [h3, if_pos rfl, if_pos rfl]
            rfl
          · rw [if_neg e, if_neg e]
        · cases h
      · cases h
    · cases h
  · cases h
