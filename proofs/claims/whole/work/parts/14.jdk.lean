/-! constants, new rows, the JDK's own -/
theorem sw_ldcC {x : Cx} {m : MD} {i : Nat} {pc len : Nat} {ls : List Slot} {st : List Value} {G : Gm} {I : Im} {n : Nx} (h : (match kR (mOwn m) i with
    | some v => nx (pc + len) ls (.int v.1 :: st) G I
    | none => match sR (mOwn m) i with
      | some a => nx (pc + len) ls (.ref (1000000 + a.1) :: st) G I
      | none => none) = some (.inl n)) (ho : mOwn m < 14) :
    (∃ v wi, kR (mOwn m) i = some (v, wi) ∧ n = (pc + len, ls, .int v :: st, G, I)) ∨ (∃ a wi, sR (mOwn m) i = some (a, wi) ∧ n = (pc + len, ls, .ref (1000000 + a) :: st, G, I)) := by
  cases hk : kR (mOwn m) i with
  | some v =>
    rw [hk] at h
    exact Or.inl ⟨v.1, v.2, rfl, nx_inv h⟩
  | none =>
    rw [hk] at h
    dsimp only at h
    cases hs : sR (mOwn m) i with
    | some a =>
      rw [hs] at h
      exact Or.inr ⟨a.1, a.2, rfl, nx_inv h⟩
    | none => rw [hs] at h; cases h
theorem adr_s (x : Cx) (a : Nat) : adr x (1000000 + a) = xk x a := by
  unfold adr
  rw [if_neg (by omega), Nat.add_sub_cancel_left]
theorem sw_ldc (x : Cx) (m : MD) (i : Nat) : SW x m (.ldc i) := by
  intro p l e R s mi args below meth c H locs cells slots Q arr pc len ls st G I n C hd hln h hH hL hlo hb hR1 hR2 hRc hRs kk
  obtain rfl : 2 = len := by rcases hln with q | q <;> first | exact q | (exact absurd (show 2 = 0 from q) (by decide))
  rcases sw_ldcC (x := x) h C.own with ⟨v, wi, hk, rfl⟩ | ⟨a, wi, hk, rfl⟩
  · exact lv_ldc C.1 C.2.1 C.hown (C.hts _ (inTW wi (kWok C.own hk) rfl)) hd (kk.same hH hL hlo)
  · have h2 : W p l e R s mi args below meth c H locs cells slots Q (F0 mi (pc + 2) arr (.ref (adr x (1000000 + a)) :: st.map (cv x))) := kk.same hH hL hlo
    rw [adr_s] at h2
    exact va_ldcS C.1 C.2.1 C.hown (C.kk.2.2.2.2.1.1 _ C.own _ (lk_mem hk)) hd h2
theorem sw_ldc_w (x : Cx) (m : MD) (i : Nat) : SW x m (.ldc_w i) := by
  intro p l e R s mi args below meth c H locs cells slots Q arr pc len ls st G I n C hd hln h hH hL hlo hb hR1 hR2 hRc hRs kk
  obtain rfl : 3 = len := by rcases hln with q | q <;> first | exact q | (exact absurd (show 3 = 0 from q) (by decide))
  rcases sw_ldcC (x := x) h C.own with ⟨v, wi, hk, rfl⟩ | ⟨a, wi, hk, rfl⟩
  · exact lv_ldcw C.1 C.2.1 C.hown (C.hts _ (inTW wi (kWok C.own hk) rfl)) hd (kk.same hH hL hlo)
  · have h2 : W p l e R s mi args below meth c H locs cells slots Q (F0 mi (pc + 3) arr (.ref (adr x (1000000 + a)) :: st.map (cv x))) := kk.same hH hL hlo
    rw [adr_s] at h2
    have hZ := C.kk.2.2.2.2.1.1 _ C.own _ (lk_mem hk)
    intro T hT X
    obtain ⟨t, a1, b1⟩ := h2 T hT X
    exact ⟨t, X.ldcStringW C.1 C.hown (text := sT a) (a := xk x a) hZ.1 hZ.2 (g := F0 mi pc arr (st.map (cv x))) rfl (by rw [C.2.1]; exact hd) t a1, b1⟩
theorem sw_ldc2_w (x : Cx) (m : MD) (i : Nat) : SW x m (.ldc2_w i) := by
  intro p l e R s mi args below meth c H locs cells slots Q arr pc len ls st G I n C hd hln h hH hL hlo hb hR1 hR2 hRc hRs kk
  obtain rfl : 3 = len := by rcases hln with q | q <;> first | exact q | (exact absurd (show 3 = 0 from q) (by decide))
  change (match lR (mOwn m) i with | some v => _ | none => none) = _ at h
  cases hk : lR (mOwn m) i with
  | none => rw [hk] at h; cases h
  | some v =>
    rw [hk] at h
    have h := nx_inv h
    subst h
    exact lv_ldc2 C.1 C.2.1 C.hown (C.hts _ (inTW v.2 (lWok C.own hk) rfl)) hd (kk.same hH hL hlo)
theorem oNewA_inv {kd pc : Nat} {ls : List Slot} {st : List Value} {G : Gm} {I : Im} {n : Nx} (h : oNewA kd pc ls st G I = some (.inl n)) :
    ∃ (z : Int32) (r : List Value), st = .int z :: r ∧ kd ≤ 4 ∧ ¬ z < 0 ∧ z.toNatClampNeg ≤ 100000 ∧ n = (pc, ls, .ref (gN G) :: r, gNew G (kd, z.toNatClampNeg), iNew I (gN G)) := by
  unfold oNewA at h
  split at h
  · split at h
    · next hc => exact ⟨_, _, rfl, hc.1, hc.2.1, hc.2.2, nx_inv h⟩
    · cases h
  · cases h
theorem newA_core {x : Cx} {p : Program} {l : Launch} {e : Env} {R : Room} {s : State} {mi : MethodId} {args : Array Value} {below : List Frame} {meth : Method} {c : Code} {H H1 : Heap} {locs : List Loc} {cells slots : Nat} {Q : State → Prop} {arr : Array Slot} {pc' : Nat} {m : MD} {k N : Nat} {r : List Value} {G : Gm} {I : Im} {ls : List Slot}
    (hk : k ≤ 5) (hH : HM x G I H) (hL : LsR x ls arr (mMax m)) (hlo : ∀ q ∈ locs, xz x ≤ q.base) (hb : gN G + 1 ≤ 1000000) (dv : Value) (hdv : cv x (if akd k = 0 then .int 0 else if akd k = 1 then .long 0 else .null) = dv)
    (e1 : H1[H.size]? = some (arrV (xA x k) N (fun _ => dv))) (z1 : H1.size = H.size + 1) (o1 : ∀ q, q < H.size → H1[q]? = H[q]?)
    (kk : KT x p l e R s mi args below meth c m cells slots Q G (pc', ls, .ref (gN G) :: r, gNew G (k, N), iNew I (gN G))) :
    W p l e R s mi args below meth c H1 locs (cells + 1) (slots + N) Q (F0 mi pc' arr (.ref H.size :: r.map (cv x))) := by
  have hz := hH.1
  have eN : gN (gNew G (k, N)) - gN G = 1 := by show gN G + 1 - gN G = 1; omega
  have eS : gS (gNew G (k, N)) - gS G = N := by show gS G + N - gS G = _; omega
  have h3 := kk H1 locs arr (hH.new hb z1 o1 (cellArr hk (by rw [gNew_T]) ?_)) hL hlo
  · rw [eN, eS] at h3
    have ea : adr x (gN G) = H.size := by
      unfold adr
      rw [if_pos (by omega), hz]
    have h4 : W p l e R s mi args below meth c H1 locs (cells + 1) (slots + N) Q (F0 mi pc' arr (.ref (adr x (gN G)) :: r.map (cv x))) := h3
    rw [ea] at h4
    exact h4
  · rw [← hz, e1, gNew_T]
    congr 2
    funext j
    rw [gNew_val, hdv]
theorem raN {x : Cx} {s : State} {k : Nat} {cA : ClassId} (hK : KK x s) (hk : k ≤ 3) (h : s.vm.findClass ("[" ++ (aTy k).toString) = some cA) : cA = xA x k := by
  have h2 := (hK.2.1 k (by omega)).2
  rcases (show k = 0 ∨ k = 1 ∨ k = 2 ∨ k = 3 by omega) with rfl | rfl | rfl | rfl <;> exact Option.some.inj (h.symm.trans h2)
theorem sw_newarray (x : Cx) (m : MD) (t : ArrayType) : SW x m (.newarray t) := by
  intro p l e R s mi args below meth c H locs cells slots Q arr pc len ls st G I n C hd hln h hH hL hlo hb hR1 hR2 hRc hRs kk
  obtain rfl : 2 = len := by rcases hln with q | q <;> first | exact q | (exact absurd (show 2 = 0 from q) (by decide))
  obtain ⟨z, r, rfl, hk, hz0, hz1, rfl⟩ := oNewA_inv h
  have eN : gN (gNew G (kArr t, z.toNatClampNeg)) - gN G = 1 := by show gN G + 1 - gN G = 1; omega
  have eS : gS (gNew G (kArr t, z.toNatClampNeg)) - gS G = z.toNatClampNeg := by show gS G + _ - gS G = _; omega
  dsimp only at hRc hRs hb
  rw [eN] at hRc
  rw [eS] at hRs
  have hb' : gN G + 1 ≤ 1000000 := hb
  cases t with
  | int =>
    refine va_newaK (atype := .int) C.1 C.2.1 (C.hts _ acInt) rfl hd rfl hz0 rfl (by show _ * 4 ≤ _; omega) hRc hRs rfl (fun H1 cA e1 z1 o1 hAr hNm => ?_)
    rw [raN (k := 0) C.kk (by omega) hNm] at e1
    exact newA_core (k := 0) (by omega) hH hL hlo hb' _ rfl e1 z1 o1 kk
  | byte =>
    refine va_newaK (atype := .byte) C.1 C.2.1 (C.hts _ acByte) rfl hd rfl hz0 rfl (by show _ * 1 ≤ _; omega) hRc hRs rfl (fun H1 cA e1 z1 o1 hAr hNm => ?_)
    rw [raN (k := 1) C.kk (by omega) hNm] at e1
    exact newA_core (k := 1) (by omega) hH hL hlo hb' _ rfl e1 z1 o1 kk
  | boolean =>
    refine va_newaK (atype := .boolean) C.1 C.2.1 (C.hts _ acBool) rfl hd rfl hz0 rfl (by show _ * 1 ≤ _; omega) hRc hRs rfl (fun H1 cA e1 z1 o1 hAr hNm => ?_)
    rw [raN (k := 2) C.kk (by omega) hNm] at e1
    exact newA_core (k := 2) (by omega) hH hL hlo hb' _ rfl e1 z1 o1 kk
  | long =>
    refine va_newaK (atype := .long) C.1 C.2.1 (C.hts _ acLong) rfl hd rfl hz0 rfl (by show _ * 8 ≤ _; omega) hRc hRs rfl (fun H1 cA e1 z1 o1 hAr hNm => ?_)
    rw [raN (k := 3) C.kk (by omega) hNm] at e1
    exact newA_core (k := 3) (by omega) hH hL hlo hb' _ rfl e1 z1 o1 kk
  | _ => exact absurd hk (by decide)
theorem sw_anewarray (x : Cx) (m : MD) (i : Nat) : SW x m (.anewarray i) := by
  intro p l e R s mi args below meth c H locs cells slots Q arr pc len ls st G I n C hd hln h hH hL hlo hb hR1 hR2 hRc hRs kk
  obtain rfl : 3 = len := by rcases hln with q | q <;> first | exact q | (exact absurd (show 3 = 0 from q) (by decide))
  change (if (aR (mOwn m) i).isSome = true then oNewA 4 (pc + 3) ls st G I else none) = _ at h
  cases ha : aR (mOwn m) i with
  | none => rw [ha] at h; cases h
  | some wi =>
    rw [ha, if_pos (show (some wi).isSome = true from rfl)] at h
    obtain ⟨z, r, rfl, hk, hz0, hz1, rfl⟩ := oNewA_inv h
    have eN : gN (gNew G (4, z.toNatClampNeg)) - gN G = 1 := by show gN G + 1 - gN G = 1; omega
    have eS : gS (gNew G (4, z.toNatClampNeg)) - gS G = z.toNatClampNeg := by show gS G + _ - gS G = _; omega
    dsimp only at hRc hRs hb
    rw [eN] at hRc
    rw [eS] at hRs
    have hb' : gN G + 1 ≤ 1000000 := hb
    refine W.anew C.1 C.2.1 C.hown (C.hts _ (inTW wi (aWok C.own ha) rfl)) (va_AO.use C.kk.2.2.2.2.2.1) rfl hd rfl hz0 (by omega) hRc hRs fun cA kA comp h1 h2 h3 h4 => ?_
    obtain ⟨_, _, -, -, -, g4⟩ := (C.kk.2.1 4 (by omega)).2
    have ec : cA = xA x 4 := Option.some.inj (h1.symm.trans g4)
    subst ec
    refine newA_core (k := 4) (by omega) hH hL hlo hb' .null rfl ?_ (by simp) (fun q hq => ?_) kk
    · rw [← arrV_new]
      simp
    · rw [Array.getElem?_push, if_neg (Nat.ne_of_lt hq)]
/-- one int row copied into another -/
theorem W_copyi {p : Program} {l : Launch} {e : Env} {R : Room} {s : State} {m : MethodId} {args : Array Value} {below : List Frame} {meth : Method} {c : Code} {H : Heap} {locs : List Loc} {cells slots : Nat} {Q : State → Prop} {cc : ByteArray} {pc : Nat} {ls : Array Slot} {rest : List Value}
    (hexec : p.tables.exec = Jvm.exec) (hb : c.code = cc) (hml : c.maxLocals = ls.size) {own : String} {index : Nat} (hown : s.vm.findClass own = some m.cls) (hlink : (Cond.methodLink own index arraycopyName).before args s = true) (hnat : (Cond.native arraycopyName).before args s = true) (hstat : (Cond.static arraycopyName).before args s = true) (hini : (Cond.initialized "java/lang/System").before args s = true)
    {a0 a : Nat} {cA : ClassId} {n0 n1 : Nat} {f g : Nat → Int32} (hA : ArrOfT s cA .int) (hc0 : H[a0]? = some (arrV cA n0 (fun j => .int (f j)))) (hc1 : H[a]? = some (arrV cA n1 (fun j => .int (g j))))
    {sp dp n : Int32} (h1 : ¬ sp < 0) (h2 : ¬ dp < 0) (h3 : ¬ n < 0) (h4 : sp.toNatClampNeg + n.toNatClampNeg ≤ n0) (h5 : dp.toNatClampNeg + n.toNatClampNeg ≤ n1)
    (hframes : 1 ≤ R.frames) (hlocals : (rest.map fun v => v.category).sum + (nativeFrameWords "java/lang/System" "arraycopy" 5 + 11) ≤ R.locals) (hdg : decode cc pc = .ok (.invokestatic index, 3))
    (kk : ∀ (H1 : Heap) (L : List Loc), H1[a]? = some (arrV cA n1 (fun j => .int (va_cpy f g sp.toNatClampNeg dp.toNatClampNeg n.toNatClampNeg j))) → H1.size = H.size → (∀ q, q ≠ a → H1[q]? = H[q]?) → (∀ q ∈ L, q.base = a) → W p l e R s m args below meth c H1 (locs ++ L) cells slots Q (F0 m (pc + 3) ls rest)) :
    W p l e R s m args below meth c H locs cells slots Q (F0 m pc ls (.int n :: .int dp :: .ref a :: .int sp :: .ref a0 :: rest)) := by
  have nn : ∀ z : Int32, ¬ z < 0 → z.toInt = (z.toNatClampNeg : Int) := by
    intro z hz
    have hz0 : (0 : Int) ≤ z.toInt := by
      have := Int32.not_lt.mp hz
      simpa using Int32.le_iff_toInt_le.mp this
    show z.toInt = ((z.toInt.toNat : Nat) : Int)
    omega
  intro T hT X
  obtain ⟨-, k0, hk0, cm0, hkk0⟩ := hA n0 (fun j => .int (f j))
  obtain ⟨-, k1, hk1, cm1, hkk1⟩ := hA n1 (fun j => .int (g j))
  obtain ⟨vm', X', step⟩ := X.arraycopy hexec hown hlink hnat hstat hini (src := a0) (dst := a) (cs := arrV cA n0 (fun j => .int (f j))) (cd := arrV cA n1 (fun j => .int (g j))) (srcPos := sp) (destPos := dp) (n := n) (by rw [hT]; exact hc0) (by rw [hT]; exact hc1)
    (fun _ h => by cases h) (fun _ h => by cases h) (fun h => by cases h) (fun h => by cases h) hk0 hk1 hkk0 hkk1 (by simp) h1 h2 h3
    (by rw [nn sp h1, nn n h3]; show ¬ _ > ((arrV cA n0 (fun j => .int (f j))).slots.size : Int); rw [arrV_size]; omega)
    (by rw [nn dp h2, nn n h3]; show ¬ _ > ((arrV cA n1 (fun j => .int (g j))).slots.size : Int); rw [arrV_size]; omega)
    (fun vm₁ _ i hi => by
      have e : (arrV cA n0 (fun j => .int (f j))).slots.getD (sp.toNatClampNeg + i) .null = .int (f (sp.toNatClampNeg + i)) := by
        rw [Array.getD_eq_getD_getElem?, arrV_read _ _ (by omega)]
        rfl
      refine ⟨?_, ?_⟩
      · rw [e]
        rfl
      · rw [e]
        exact trivial)
    (g := F0 m pc ls (.int n :: .int dp :: .ref a :: .int sp :: .ref a0 :: rest)) rfl (by rw [hml]) (rest := rest) rfl (by rw [hb]; exact hdg) hframes (by show 2 * 0 + _ + _ ≤ _; omega)
  have e1 : copied (arrV cA n0 (fun j => .int (f j))) (arrV cA n1 (fun j => .int (g j))) sp dp n = arrV cA n1 (fun j => .int (va_cpy f g sp.toNatClampNeg dp.toNatClampNeg n.toNatClampNeg j)) := va_copied (fun z => .int z) cA cA f g h4
  rw [e1] at X' step
  have hl : a < H.size := (Array.getElem?_eq_some_iff.mp hc1).1
  have hheap : ((T.setVm vm').setCell a (arrV cA n1 (fun j => .int (va_cpy f g sp.toNatClampNeg dp.toNatClampNeg n.toNatClampNeg j)))).heap = H.setIfInBounds a (arrV cA n1 (fun j => .int (va_cpy f g sp.toNatClampNeg dp.toNatClampNeg n.toNatClampNeg j))) := by rw [← hT]; rfl
  obtain ⟨t, a1, b1⟩ := kk _ _ (show (H.setIfInBounds a _)[a]? = some _ by simp [Array.getElem?_setIfInBounds, hl]) (by simp) (fun q hq => by simp [Array.getElem?_setIfInBounds, Ne.symm hq]) (fun q hq => by
      obtain ⟨z, -, hz⟩ := List.mem_map.mp hq
      rw [← hz]) _ hheap X'
  exact ⟨t, step t a1, b1⟩
