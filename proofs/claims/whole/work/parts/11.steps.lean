/-! each step of our machine is the machine's -/
/-- what a method's frame stands on -/
def MC (x : Cx) (p : Program) (s : State) (mi : MethodId) (args : Array Value) (meth : Method) (c : Code) (m : MD) : Prop :=
  p.tables.exec = Jvm.exec ∧ c.code = mBy m ∧ meth.sig.returnType = mRet m ∧ meth.locks = false ∧ c.maxLocals = mMax m ∧ s.vm.findClass (RXs (mOwn m)) = some mi.cls ∧ meth.name = (mNm m).name ∧ (∀ w ∈ TW, w.before args s = true) ∧ KK x s ∧ MOK m
/-- what may follow -/
def KT (x : Cx) (p : Program) (l : Launch) (e : Env) (R : Room) (s : State) (mi : MethodId) (args : Array Value) (below : List Frame) (meth : Method) (c : Code) (m : MD) (cells slots : Nat) (Q : State → Prop) (G : Gm) (n : Nx) : Prop :=
  ∀ (H' : Heap) (locs' : List Loc) (arr' : Array Slot), HM x n.2.2.2.1 n.2.2.2.2 H' → LsR x n.2.1 arr' (mMax m) → (∀ q ∈ locs', xz x ≤ q.base) →
    W p l e R s mi args below meth c H' locs' (cells + (gN n.2.2.2.1 - gN G)) (slots + (gS n.2.2.2.1 - gS G)) Q (F0 mi n.1 arr' (n.2.2.1.map (cv x)))
def SW (x : Cx) (m : MD) (ins : Instr) : Prop :=
  ∀ (p : Program) (l : Launch) (e : Env) (R : Room) (s : State) (mi : MethodId) (args : Array Value) (below : List Frame) (meth : Method) (c : Code) (H : Heap) (locs : List Loc) (cells slots : Nat) (Q : State → Prop) (arr : Array Slot) (pc len : Nat) (ls : List Slot) (st : List Value) (G : Gm) (I : Im) (n : Nx),
    MC x p s mi args meth c m → decode (mBy m) pc = .ok (ins, len) → (lnI ins = 0 ∨ lnI ins = len) → stepI m pc len ins ls st G I = some (.inl n) → HM x G I H → LsR x ls arr (mMax m) → (∀ q ∈ locs, xz x ≤ q.base) →
    gN n.2.2.2.1 ≤ 1000000 → 8 ≤ R.frames → 400 ≤ R.locals → cells + (gN n.2.2.2.1 - gN G) ≤ R.cells → slots + (gS n.2.2.2.1 - gS G) ≤ R.slots →
    KT x p l e R s mi args below meth c m cells slots Q G n → W p l e R s mi args below meth c H locs cells slots Q (F0 mi pc arr (st.map (cv x)))
theorem KT.same {x : Cx} {p : Program} {l : Launch} {e : Env} {R : Room} {s : State} {mi : MethodId} {args : Array Value} {below : List Frame} {meth : Method} {c : Code} {m : MD} {cells slots : Nat} {Q : State → Prop} {G : Gm} {I' : Im} {pc' : Nat} {ls' : List Slot} {st' : List Value}
    (kk : KT x p l e R s mi args below meth c m cells slots Q G (pc', ls', st', G, I')) {H' : Heap} {locs' : List Loc} {arr' : Array Slot} (hH : HM x G I' H') (hL : LsR x ls' arr' (mMax m)) (hlo : ∀ q ∈ locs', xz x ≤ q.base) :
    W p l e R s mi args below meth c H' locs' cells slots Q (F0 mi pc' arr' (st'.map (cv x))) := by
  have h := kk H' locs' arr' hH hL hlo
  simp only [Nat.sub_self, Nat.add_zero] at h
  exact h
theorem KT.samN {x : Cx} {p : Program} {l : Launch} {e : Env} {R : Room} {s : State} {mi : MethodId} {args : Array Value} {below : List Frame} {meth : Method} {c : Code} {m : MD} {cells slots : Nat} {Q : State → Prop} {G G' : Gm} {I' : Im} {pc' : Nat} {ls' : List Slot} {st' : List Value}
    (kk : KT x p l e R s mi args below meth c m cells slots Q G (pc', ls', st', G', I')) (hG : gN G' = gN G ∧ gS G' = gS G) {H' : Heap} {locs' : List Loc} {arr' : Array Slot} (hH : HM x G' I' H') (hL : LsR x ls' arr' (mMax m)) (hlo : ∀ q ∈ locs', xz x ≤ q.base) :
    W p l e R s mi args below meth c H' locs' cells slots Q (F0 mi pc' arr' (st'.map (cv x))) := by
  have h := kk H' locs' arr' hH hL hlo
  simp only [hG.1, hG.2, Nat.sub_self, Nat.add_zero] at h
  exact h
theorem nx_inv {pc : Nat} {ls : List Slot} {st : List Value} {G : Gm} {I : Im} {n : Nx} (h : nx pc ls st G I = some (.inl n)) : n = (pc, ls, st, G, I) := by
  unfold nx at h
  cases h
  rfl
theorem jmp_inv {pc : Nat} {off : Int} {ls : List Slot} {st : List Value} {G : Gm} {I : Im} {n : Nx} (h : jmp pc off ls st G I = some (.inl n)) : ∃ tgt : Nat, (pc : Int) + off = (tgt : Int) ∧ n = (tgt, ls, st, G, I) := by
  unfold jmp at h
  by_cases hc : 0 ≤ (pc : Int) + off
  · rw [if_pos hc] at h
    exact ⟨((pc : Int) + off).toNat, by omega, nx_inv h⟩
  · rw [if_neg hc] at h
    cases h
theorem o2_inv {f : Int32 → Int32 → Int32} {pc : Nat} {ls : List Slot} {st : List Value} {G : Gm} {I : Im} {n : Nx} (h : o2 f pc ls st G I = some (.inl n)) : ∃ (y a : Int32) (r : List Value), st = .int y :: .int a :: r ∧ n = (pc, ls, .int (f a y) :: r, G, I) := by
  unfold o2 at h
  split at h
  · exact ⟨_, _, _, rfl, nx_inv h⟩
  · cases h
theorem o2z_inv {f : Int32 → Int32 → Int32} {pc : Nat} {ls : List Slot} {st : List Value} {G : Gm} {I : Im} {n : Nx} (h : o2z f pc ls st G I = some (.inl n)) : ∃ (y a : Int32) (r : List Value), st = .int y :: .int a :: r ∧ ¬ y = 0 ∧ n = (pc, ls, .int (f a y) :: r, G, I) := by
  unfold o2z at h
  split at h
  · rename_i y a r
    by_cases hc : y = 0
    · rw [if_pos hc] at h; cases h
    · rw [if_neg hc] at h
      exact ⟨_, _, _, rfl, hc, nx_inv h⟩
  · cases h
theorem o2l_inv {f : Int64 → Int64 → Int64} {pc : Nat} {ls : List Slot} {st : List Value} {G : Gm} {I : Im} {n : Nx} (h : o2l f pc ls st G I = some (.inl n)) : ∃ (y a : Int64) (r : List Value), st = .long y :: .long a :: r ∧ n = (pc, ls, .long (f a y) :: r, G, I) := by
  unfold o2l at h
  split at h
  · exact ⟨_, _, _, rfl, nx_inv h⟩
  · cases h
theorem oLd_inv0 {i pc : Nat} {ls : List Slot} {st : List Value} {G : Gm} {I : Im} {n : Nx} (h : oLd 0 i pc ls st G I = some (.inl n)) : ∃ a : Int32, ls[i]? = some (.val (.int a)) ∧ n = (pc, ls, .int a :: st, G, I) := by
  unfold oLd at h
  split at h
  · exact ⟨_, by assumption, nx_inv h⟩
  · omega
  · omega
  · cases h
theorem oLd_inv1 {i pc : Nat} {ls : List Slot} {st : List Value} {G : Gm} {I : Im} {n : Nx} (h : oLd 1 i pc ls st G I = some (.inl n)) : ∃ a : Int64, ls[i]? = some (.val (.long a)) ∧ n = (pc, ls, .long a :: st, G, I) := by
  unfold oLd at h
  split at h
  · omega
  · exact ⟨_, by assumption, nx_inv h⟩
  · omega
  · cases h
theorem oLd_inv2 {i pc : Nat} {ls : List Slot} {st : List Value} {G : Gm} {I : Im} {n : Nx} (h : oLd 2 i pc ls st G I = some (.inl n)) : ∃ a : Nat, ls[i]? = some (.val (.ref a)) ∧ n = (pc, ls, .ref a :: st, G, I) := by
  unfold oLd at h
  split at h
  · omega
  · omega
  · exact ⟨_, by assumption, nx_inv h⟩
  · cases h
theorem oSt_inv0 {i pc : Nat} {ls : List Slot} {st : List Value} {G : Gm} {I : Im} {n : Nx} (h : oSt 0 i pc ls st G I = some (.inl n)) : ∃ (a : Int32) (r : List Value) (ls' : List Slot), st = .int a :: r ∧ stL ls i (.int a) = some ls' ∧ n = (pc, ls', r, G, I) := by
  unfold oSt at h
  split at h
  · split at h
    · next hq => exact ⟨_, _, _, rfl, hq, nx_inv h⟩
    · cases h
  · omega
  · omega
  · cases h
theorem oSt_inv1 {i pc : Nat} {ls : List Slot} {st : List Value} {G : Gm} {I : Im} {n : Nx} (h : oSt 1 i pc ls st G I = some (.inl n)) : ∃ (a : Int64) (r : List Value) (ls' : List Slot), st = .long a :: r ∧ stL2 ls i (.long a) = some ls' ∧ n = (pc, ls', r, G, I) := by
  unfold oSt at h
  split at h
  · omega
  · split at h
    · next hq => exact ⟨_, _, _, rfl, hq, nx_inv h⟩
    · cases h
  · omega
  · cases h
theorem oSt_inv2 {i pc : Nat} {ls : List Slot} {st : List Value} {G : Gm} {I : Im} {n : Nx} (h : oSt 2 i pc ls st G I = some (.inl n)) : ∃ (a : Nat) (r : List Value) (ls' : List Slot), st = .ref a :: r ∧ stL ls i (.ref a) = some ls' ∧ n = (pc, ls', r, G, I) := by
  unfold oSt at h
  split at h
  · omega
  · omega
  · split at h
    · next hq => exact ⟨_, _, _, rfl, hq, nx_inv h⟩
    · cases h
  · cases h
theorem stL_lt {ls ls' : List Slot} {i : Nat} {v : Value} (h : stL ls i v = some ls') : i < ls.length := by
  unfold stL at h
  by_cases hc : i < ls.length ∧ (i = 0 ∨ isLong ls[i - 1]? = false)
  · exact hc.1
  · rw [if_neg hc] at h; cases h
theorem stL2_lt {ls ls' : List Slot} {i : Nat} {v : Value} (h : stL2 ls i v = some ls') : i + 1 < ls.length := by
  unfold stL2 at h
  by_cases hc : i + 1 < ls.length ∧ (i = 0 ∨ isLong ls[i - 1]? = false)
  · exact hc.1
  · rw [if_neg hc] at h; cases h
theorem sw_iconst (x : Cx) (m : MD) (i : Int) : SW x m (.iconst i) := by
  intro p l e R s mi args below meth c H locs cells slots Q arr pc len ls st G I n C hd hln h hH hL hlo hb hR1 hR2 hRc hRs kk
  have hx := C.1
  have hcb := C.2.1
  obtain rfl : 1 = len := by rcases hln with q | q <;> first | exact q | (exact absurd (show 1 = 0 from q) (by decide))
  have h := nx_inv h
  subst h
  exact lv_iconst hx hcb hd rfl (kk.same hH hL hlo)
theorem sw_bipush (x : Cx) (m : MD) (i : Int) : SW x m (.bipush i) := by
  intro p l e R s mi args below meth c H locs cells slots Q arr pc len ls st G I n C hd hln h hH hL hlo hb hR1 hR2 hRc hRs kk
  have hx := C.1
  have hcb := C.2.1
  obtain rfl : 2 = len := by rcases hln with q | q <;> first | exact q | (exact absurd (show 2 = 0 from q) (by decide))
  have h := nx_inv h
  subst h
  exact lv_bipush hx hcb hd rfl (kk.same hH hL hlo)
theorem sw_sipush (x : Cx) (m : MD) (i : Int) : SW x m (.sipush i) := by
  intro p l e R s mi args below meth c H locs cells slots Q arr pc len ls st G I n C hd hln h hH hL hlo hb hR1 hR2 hRc hRs kk
  have hx := C.1
  have hcb := C.2.1
  obtain rfl : 3 = len := by rcases hln with q | q <;> first | exact q | (exact absurd (show 3 = 0 from q) (by decide))
  have h := nx_inv h
  subst h
  exact lv_sipush hx hcb hd rfl (kk.same hH hL hlo)
theorem sw_lconst (x : Cx) (m : MD) (i : Fin 2) : SW x m (.lconst i) := by
  intro p l e R s mi args below meth c H locs cells slots Q arr pc len ls st G I n C hd hln h hH hL hlo hb hR1 hR2 hRc hRs kk
  have hx := C.1
  have hcb := C.2.1
  obtain rfl : 1 = len := by rcases hln with q | q <;> first | exact q | (exact absurd (show 1 = 0 from q) (by decide))
  have h := nx_inv h
  subst h
  exact lv_lconst hx hcb hd rfl (kk.same hH hL hlo)
theorem sw_iadd (x : Cx) (m : MD) : SW x m (.iadd) := by
  intro p l e R s mi args below meth c H locs cells slots Q arr pc len ls st G I n C hd hln h hH hL hlo hb hR1 hR2 hRc hRs kk
  have hx := C.1
  have hcb := C.2.1
  obtain rfl : 1 = len := by rcases hln with q | q <;> first | exact q | (exact absurd (show 1 = 0 from q) (by decide))
  obtain ⟨y, a, r, rfl, rfl⟩ := o2_inv h
  exact lv_iadd hx hcb hd (kk.same hH hL hlo)
theorem sw_isub (x : Cx) (m : MD) : SW x m (.isub) := by
  intro p l e R s mi args below meth c H locs cells slots Q arr pc len ls st G I n C hd hln h hH hL hlo hb hR1 hR2 hRc hRs kk
  have hx := C.1
  have hcb := C.2.1
  obtain rfl : 1 = len := by rcases hln with q | q <;> first | exact q | (exact absurd (show 1 = 0 from q) (by decide))
  obtain ⟨y, a, r, rfl, rfl⟩ := o2_inv h
  exact lv_isub hx hcb hd (kk.same hH hL hlo)
theorem sw_imul (x : Cx) (m : MD) : SW x m (.imul) := by
  intro p l e R s mi args below meth c H locs cells slots Q arr pc len ls st G I n C hd hln h hH hL hlo hb hR1 hR2 hRc hRs kk
  have hx := C.1
  have hcb := C.2.1
  obtain rfl : 1 = len := by rcases hln with q | q <;> first | exact q | (exact absurd (show 1 = 0 from q) (by decide))
  obtain ⟨y, a, r, rfl, rfl⟩ := o2_inv h
  exact lv_imul hx hcb hd (kk.same hH hL hlo)
theorem sw_iand (x : Cx) (m : MD) : SW x m (.iand) := by
  intro p l e R s mi args below meth c H locs cells slots Q arr pc len ls st G I n C hd hln h hH hL hlo hb hR1 hR2 hRc hRs kk
  have hx := C.1
  have hcb := C.2.1
  obtain rfl : 1 = len := by rcases hln with q | q <;> first | exact q | (exact absurd (show 1 = 0 from q) (by decide))
  obtain ⟨y, a, r, rfl, rfl⟩ := o2_inv h
  exact lv_iand hx hcb hd (kk.same hH hL hlo)
theorem sw_ior (x : Cx) (m : MD) : SW x m (.ior) := by
  intro p l e R s mi args below meth c H locs cells slots Q arr pc len ls st G I n C hd hln h hH hL hlo hb hR1 hR2 hRc hRs kk
  have hx := C.1
  have hcb := C.2.1
  obtain rfl : 1 = len := by rcases hln with q | q <;> first | exact q | (exact absurd (show 1 = 0 from q) (by decide))
  obtain ⟨y, a, r, rfl, rfl⟩ := o2_inv h
  exact lv_ior hx hcb hd (kk.same hH hL hlo)
theorem sw_ixor (x : Cx) (m : MD) : SW x m (.ixor) := by
  intro p l e R s mi args below meth c H locs cells slots Q arr pc len ls st G I n C hd hln h hH hL hlo hb hR1 hR2 hRc hRs kk
  have hx := C.1
  have hcb := C.2.1
  obtain rfl : 1 = len := by rcases hln with q | q <;> first | exact q | (exact absurd (show 1 = 0 from q) (by decide))
  obtain ⟨y, a, r, rfl, rfl⟩ := o2_inv h
  exact lv_ixor hx hcb hd (kk.same hH hL hlo)
theorem sw_ishl (x : Cx) (m : MD) : SW x m (.ishl) := by
  intro p l e R s mi args below meth c H locs cells slots Q arr pc len ls st G I n C hd hln h hH hL hlo hb hR1 hR2 hRc hRs kk
  have hx := C.1
  have hcb := C.2.1
  obtain rfl : 1 = len := by rcases hln with q | q <;> first | exact q | (exact absurd (show 1 = 0 from q) (by decide))
  obtain ⟨y, a, r, rfl, rfl⟩ := o2_inv h
  exact lv_ishl hx hcb hd (kk.same hH hL hlo)
theorem sw_ishr (x : Cx) (m : MD) : SW x m (.ishr) := by
  intro p l e R s mi args below meth c H locs cells slots Q arr pc len ls st G I n C hd hln h hH hL hlo hb hR1 hR2 hRc hRs kk
  have hx := C.1
  have hcb := C.2.1
  obtain rfl : 1 = len := by rcases hln with q | q <;> first | exact q | (exact absurd (show 1 = 0 from q) (by decide))
  obtain ⟨y, a, r, rfl, rfl⟩ := o2_inv h
  exact lv_ishr hx hcb hd (kk.same hH hL hlo)
theorem sw_idiv (x : Cx) (m : MD) : SW x m (.idiv) := by
  intro p l e R s mi args below meth c H locs cells slots Q arr pc len ls st G I n C hd hln h hH hL hlo hb hR1 hR2 hRc hRs kk
  have hx := C.1
  have hcb := C.2.1
  obtain rfl : 1 = len := by rcases hln with q | q <;> first | exact q | (exact absurd (show 1 = 0 from q) (by decide))
  obtain ⟨y, a, r, rfl, hy, rfl⟩ := o2z_inv h
  exact lv_idiv hx hcb hd hy (kk.same hH hL hlo)
theorem sw_irem (x : Cx) (m : MD) : SW x m (.irem) := by
  intro p l e R s mi args below meth c H locs cells slots Q arr pc len ls st G I n C hd hln h hH hL hlo hb hR1 hR2 hRc hRs kk
  have hx := C.1
  have hcb := C.2.1
  obtain rfl : 1 = len := by rcases hln with q | q <;> first | exact q | (exact absurd (show 1 = 0 from q) (by decide))
  obtain ⟨y, a, r, rfl, hy, rfl⟩ := o2z_inv h
  exact lv_irem hx hcb hd hy (kk.same hH hL hlo)
theorem sw_ladd (x : Cx) (m : MD) : SW x m (.ladd) := by
  intro p l e R s mi args below meth c H locs cells slots Q arr pc len ls st G I n C hd hln h hH hL hlo hb hR1 hR2 hRc hRs kk
  have hx := C.1
  have hcb := C.2.1
  obtain rfl : 1 = len := by rcases hln with q | q <;> first | exact q | (exact absurd (show 1 = 0 from q) (by decide))
  obtain ⟨y, a, r, rfl, rfl⟩ := o2l_inv h
  exact lv_ladd hx hcb hd (kk.same hH hL hlo)
theorem sw_lmul (x : Cx) (m : MD) : SW x m (.lmul) := by
  intro p l e R s mi args below meth c H locs cells slots Q arr pc len ls st G I n C hd hln h hH hL hlo hb hR1 hR2 hRc hRs kk
  have hx := C.1
  have hcb := C.2.1
  obtain rfl : 1 = len := by rcases hln with q | q <;> first | exact q | (exact absurd (show 1 = 0 from q) (by decide))
  obtain ⟨y, a, r, rfl, rfl⟩ := o2l_inv h
  exact lv_lmul hx hcb hd (kk.same hH hL hlo)
theorem sw_ineg (x : Cx) (m : MD) : SW x m (.ineg) := by
  intro p l e R s mi args below meth c H locs cells slots Q arr pc len ls st G I n C hd hln h hH hL hlo hb hR1 hR2 hRc hRs kk
  have hx := C.1
  have hcb := C.2.1
  obtain rfl : 1 = len := by rcases hln with q | q <;> first | exact q | (exact absurd (show 1 = 0 from q) (by decide))
  change (match st with | .int a :: r => _ | _ => none) = _ at h
  split at h
  · have h := nx_inv h
    subst h
    exact lv_ineg hx hcb hd (kk.same hH hL hlo)
  · cases h
theorem sw_i2l (x : Cx) (m : MD) : SW x m (.i2l) := by
  intro p l e R s mi args below meth c H locs cells slots Q arr pc len ls st G I n C hd hln h hH hL hlo hb hR1 hR2 hRc hRs kk
  have hx := C.1
  have hcb := C.2.1
  obtain rfl : 1 = len := by rcases hln with q | q <;> first | exact q | (exact absurd (show 1 = 0 from q) (by decide))
  change (match st with | .int a :: r => _ | _ => none) = _ at h
  split at h
  · have h := nx_inv h
    subst h
    exact lv_i2l hx hcb hd rfl (kk.same hH hL hlo)
  · cases h
theorem sw_l2i (x : Cx) (m : MD) : SW x m (.l2i) := by
  intro p l e R s mi args below meth c H locs cells slots Q arr pc len ls st G I n C hd hln h hH hL hlo hb hR1 hR2 hRc hRs kk
  have hx := C.1
  have hcb := C.2.1
  obtain rfl : 1 = len := by rcases hln with q | q <;> first | exact q | (exact absurd (show 1 = 0 from q) (by decide))
  change (match st with | .long a :: r => _ | _ => none) = _ at h
  split at h
  · have h := nx_inv h
    subst h
    exact lv_l2i hx hcb hd rfl (kk.same hH hL hlo)
  · cases h
theorem sw_i2b (x : Cx) (m : MD) : SW x m (.i2b) := by
  intro p l e R s mi args below meth c H locs cells slots Q arr pc len ls st G I n C hd hln h hH hL hlo hb hR1 hR2 hRc hRs kk
  have hx := C.1
  have hcb := C.2.1
  obtain rfl : 1 = len := by rcases hln with q | q <;> first | exact q | (exact absurd (show 1 = 0 from q) (by decide))
  change (match st with | .int a :: r => _ | _ => none) = _ at h
  split at h
  · have h := nx_inv h
    subst h
    exact lv_i2b hx hcb hd rfl (kk.same hH hL hlo)
  · cases h
theorem sw_lrem (x : Cx) (m : MD) : SW x m (.lrem) := by
  intro p l e R s mi args below meth c H locs cells slots Q arr pc len ls st G I n C hd hln h hH hL hlo hb hR1 hR2 hRc hRs kk
  have hx := C.1
  have hcb := C.2.1
  obtain rfl : 1 = len := by rcases hln with q | q <;> first | exact q | (exact absurd (show 1 = 0 from q) (by decide))
  change (match st with | .long y :: .long a :: r => _ | _ => none) = _ at h
  split at h
  · rename_i y a r
    by_cases hc : y = 0
    · rw [if_pos hc] at h; cases h
    · rw [if_neg hc] at h
      have h := nx_inv h
      subst h
      exact lv_lrem hx hcb hd hc (kk.same hH hL hlo)
  · cases h
theorem sw_lcmp (x : Cx) (m : MD) : SW x m (.lcmp) := by
  intro p l e R s mi args below meth c H locs cells slots Q arr pc len ls st G I n C hd hln h hH hL hlo hb hR1 hR2 hRc hRs kk
  have hx := C.1
  have hcb := C.2.1
  obtain rfl : 1 = len := by rcases hln with q | q <;> first | exact q | (exact absurd (show 1 = 0 from q) (by decide))
  change (match st with | .long y :: .long a :: r => _ | _ => none) = _ at h
  split at h
  · have h := nx_inv h
    subst h
    exact W.lcmp hx hcb hd (kk.same hH hL hlo)
  · cases h
theorem sw_dup (x : Cx) (m : MD) : SW x m (.dup) := by
  intro p l e R s mi args below meth c H locs cells slots Q arr pc len ls st G I n C hd hln h hH hL hlo hb hR1 hR2 hRc hRs kk
  have hx := C.1
  have hcb := C.2.1
  obtain rfl : 1 = len := by rcases hln with q | q <;> first | exact q | (exact absurd (show 1 = 0 from q) (by decide))
  change (match st with | .int a :: r => _ | .ref a :: r => _ | _ => none) = _ at h
  split at h
  · have h := nx_inv h
    subst h
    exact lv_dup hx hcb hd rfl (kk.same hH hL hlo)
  · have h := nx_inv h
    subst h
    exact lv_dup hx hcb hd rfl (kk.same hH hL hlo)
  · cases h
theorem sw_dup2 (x : Cx) (m : MD) : SW x m (.dup2) := by
  intro p l e R s mi args below meth c H locs cells slots Q arr pc len ls st G I n C hd hln h hH hL hlo hb hR1 hR2 hRc hRs kk
  have hx := C.1
  have hcb := C.2.1
  obtain rfl : 1 = len := by rcases hln with q | q <;> first | exact q | (exact absurd (show 1 = 0 from q) (by decide))
  change (match st with | .int y :: .ref a :: r => _ | _ => none) = _ at h
  split at h
  · have h := nx_inv h
    subst h
    exact lv_dup2_11 hx hcb hd rfl rfl (kk.same hH hL hlo)
  · cases h
theorem sw_pop (x : Cx) (m : MD) : SW x m (.pop) := by
  intro p l e R s mi args below meth c H locs cells slots Q arr pc len ls st G I n C hd hln h hH hL hlo hb hR1 hR2 hRc hRs kk
  have hx := C.1
  have hcb := C.2.1
  obtain rfl : 1 = len := by rcases hln with q | q <;> first | exact q | (exact absurd (show 1 = 0 from q) (by decide))
  change (match st with | .int a :: r => _ | .ref a :: r => _ | _ => none) = _ at h
  split at h
  · have h := nx_inv h
    subst h
    exact lv_pop hx hcb hd rfl (kk.same hH hL hlo)
  · have h := nx_inv h
    subst h
    exact lv_pop hx hcb hd rfl (kk.same hH hL hlo)
  · cases h
theorem sw_iload (x : Cx) (m : MD) (i : Nat) : SW x m (.iload i) := by
  intro p l e R s mi args below meth c H locs cells slots Q arr pc len ls st G I n C hd hln h hH hL hlo hb hR1 hR2 hRc hRs kk
  have hx := C.1
  have hcb := C.2.1
  obtain rfl : 2 = len := by rcases hln with q | q <;> first | exact q | (exact absurd (show 2 = 0 from q) (by decide))
  obtain ⟨a, ha, rfl⟩ := oLd_inv0 h
  exact lv_iload hx hcb hd (hL.2.2.2 _ _ ha) (kk.same hH hL hlo)
theorem sw_iload_n (x : Cx) (m : MD) (i : Fin 4) : SW x m (.iload_n i) := by
  intro p l e R s mi args below meth c H locs cells slots Q arr pc len ls st G I n C hd hln h hH hL hlo hb hR1 hR2 hRc hRs kk
  have hx := C.1
  have hcb := C.2.1
  obtain rfl : 1 = len := by rcases hln with q | q <;> first | exact q | (exact absurd (show 1 = 0 from q) (by decide))
  obtain ⟨a, ha, rfl⟩ := oLd_inv0 h
  exact lv_iload_n hx hcb hd rfl (hL.2.2.2 _ _ ha) (kk.same hH hL hlo)
theorem sw_lload (x : Cx) (m : MD) (i : Nat) : SW x m (.lload i) := by
  intro p l e R s mi args below meth c H locs cells slots Q arr pc len ls st G I n C hd hln h hH hL hlo hb hR1 hR2 hRc hRs kk
  have hx := C.1
  have hcb := C.2.1
  obtain rfl : 2 = len := by rcases hln with q | q <;> first | exact q | (exact absurd (show 2 = 0 from q) (by decide))
  obtain ⟨a, ha, rfl⟩ := oLd_inv1 h
  exact lv_lload hx hcb hd (hL.2.2.2 _ _ ha) (kk.same hH hL hlo)
theorem sw_lload_n (x : Cx) (m : MD) (i : Fin 4) : SW x m (.lload_n i) := by
  intro p l e R s mi args below meth c H locs cells slots Q arr pc len ls st G I n C hd hln h hH hL hlo hb hR1 hR2 hRc hRs kk
  have hx := C.1
  have hcb := C.2.1
  obtain rfl : 1 = len := by rcases hln with q | q <;> first | exact q | (exact absurd (show 1 = 0 from q) (by decide))
  obtain ⟨a, ha, rfl⟩ := oLd_inv1 h
  exact lv_lload_n hx hcb hd rfl (hL.2.2.2 _ _ ha) (kk.same hH hL hlo)
theorem sw_aload (x : Cx) (m : MD) (i : Nat) : SW x m (.aload i) := by
  intro p l e R s mi args below meth c H locs cells slots Q arr pc len ls st G I n C hd hln h hH hL hlo hb hR1 hR2 hRc hRs kk
  have hx := C.1
  have hcb := C.2.1
  obtain rfl : 2 = len := by rcases hln with q | q <;> first | exact q | (exact absurd (show 2 = 0 from q) (by decide))
  obtain ⟨a, ha, rfl⟩ := oLd_inv2 h
  exact lv_aload hx hcb hd (hL.2.2.2 _ _ ha) (kk.same hH hL hlo)
theorem sw_aload_n (x : Cx) (m : MD) (i : Fin 4) : SW x m (.aload_n i) := by
  intro p l e R s mi args below meth c H locs cells slots Q arr pc len ls st G I n C hd hln h hH hL hlo hb hR1 hR2 hRc hRs kk
  have hx := C.1
  have hcb := C.2.1
  obtain rfl : 1 = len := by rcases hln with q | q <;> first | exact q | (exact absurd (show 1 = 0 from q) (by decide))
  obtain ⟨a, ha, rfl⟩ := oLd_inv2 h
  exact lv_aload_n hx hcb hd rfl (hL.2.2.2 _ _ ha) (kk.same hH hL hlo)
theorem sw_istore (x : Cx) (m : MD) (i : Nat) : SW x m (.istore i) := by
  intro p l e R s mi args below meth c H locs cells slots Q arr pc len ls st G I n C hd hln h hH hL hlo hb hR1 hR2 hRc hRs kk
  have hx := C.1
  have hcb := C.2.1
  obtain rfl : 2 = len := by rcases hln with q | q <;> first | exact q | (exact absurd (show 2 = 0 from q) (by decide))
  obtain ⟨a, r, ls', rfl, hs, rfl⟩ := oSt_inv0 h
  exact lv_istore hx hcb hd hL.has (by have := stL_lt hs; rw [hL.1] at this; exact this) rfl (fun arr' h' => kk.same hH (hL.st hs (fun _ q => q) h') hlo)
theorem sw_istore_n (x : Cx) (m : MD) (i : Fin 4) : SW x m (.istore_n i) := by
  intro p l e R s mi args below meth c H locs cells slots Q arr pc len ls st G I n C hd hln h hH hL hlo hb hR1 hR2 hRc hRs kk
  have hx := C.1
  have hcb := C.2.1
  obtain rfl : 1 = len := by rcases hln with q | q <;> first | exact q | (exact absurd (show 1 = 0 from q) (by decide))
  obtain ⟨a, r, ls', rfl, hs, rfl⟩ := oSt_inv0 h
  exact lv_istore_n hx hcb hd rfl hL.has (by have := stL_lt hs; rw [hL.1] at this; exact this) rfl (fun arr' h' => kk.same hH (hL.st hs (fun _ q => q) h') hlo)
theorem sw_lstore (x : Cx) (m : MD) (i : Nat) : SW x m (.lstore i) := by
  intro p l e R s mi args below meth c H locs cells slots Q arr pc len ls st G I n C hd hln h hH hL hlo hb hR1 hR2 hRc hRs kk
  have hx := C.1
  have hcb := C.2.1
  obtain rfl : 2 = len := by rcases hln with q | q <;> first | exact q | (exact absurd (show 2 = 0 from q) (by decide))
  obtain ⟨a, r, ls', rfl, hs, rfl⟩ := oSt_inv1 h
  exact lv_lstore hx hcb hd hL.has (by have := stL2_lt hs; rw [hL.1] at this; exact this) rfl (fun arr' h' => kk.same hH (hL.st2 hs (fun _ q => q) h') hlo)
theorem sw_lstore_n (x : Cx) (m : MD) (i : Fin 4) : SW x m (.lstore_n i) := by
  intro p l e R s mi args below meth c H locs cells slots Q arr pc len ls st G I n C hd hln h hH hL hlo hb hR1 hR2 hRc hRs kk
  have hx := C.1
  have hcb := C.2.1
  obtain rfl : 1 = len := by rcases hln with q | q <;> first | exact q | (exact absurd (show 1 = 0 from q) (by decide))
  obtain ⟨a, r, ls', rfl, hs, rfl⟩ := oSt_inv1 h
  exact lv_lstore_n hx hcb hd rfl hL.has (by have := stL2_lt hs; rw [hL.1] at this; exact this) rfl (fun arr' h' => kk.same hH (hL.st2 hs (fun _ q => q) h') hlo)
theorem sw_astore (x : Cx) (m : MD) (i : Nat) : SW x m (.astore i) := by
  intro p l e R s mi args below meth c H locs cells slots Q arr pc len ls st G I n C hd hln h hH hL hlo hb hR1 hR2 hRc hRs kk
  have hx := C.1
  have hcb := C.2.1
  obtain rfl : 2 = len := by rcases hln with q | q <;> first | exact q | (exact absurd (show 2 = 0 from q) (by decide))
  obtain ⟨a, r, ls', rfl, hs, rfl⟩ := oSt_inv2 h
  exact lv_astore hx hcb hd hL.has (by have := stL_lt hs; rw [hL.1] at this; exact this) rfl (fun arr' h' => kk.same hH (hL.st hs (fun _ q => q) h') hlo)
theorem sw_astore_n (x : Cx) (m : MD) (i : Fin 4) : SW x m (.astore_n i) := by
  intro p l e R s mi args below meth c H locs cells slots Q arr pc len ls st G I n C hd hln h hH hL hlo hb hR1 hR2 hRc hRs kk
  have hx := C.1
  have hcb := C.2.1
  obtain rfl : 1 = len := by rcases hln with q | q <;> first | exact q | (exact absurd (show 1 = 0 from q) (by decide))
  obtain ⟨a, r, ls', rfl, hs, rfl⟩ := oSt_inv2 h
  exact lv_astore_n hx hcb hd rfl hL.has (by have := stL_lt hs; rw [hL.1] at this; exact this) rfl (fun arr' h' => kk.same hH (hL.st hs (fun _ q => q) h') hlo)
theorem sw_iinc (x : Cx) (m : MD) (i : Nat) (z : Int) : SW x m (.iinc i z) := by
  intro p l e R s mi args below meth c H locs cells slots Q arr pc len ls st G I n C hd hln h hH hL hlo hb hR1 hR2 hRc hRs kk
  have hx := C.1
  have hcb := C.2.1
  obtain rfl : 3 = len := by rcases hln with q | q <;> first | exact q | (exact absurd (show 3 = 0 from q) (by decide))
  change (match ls[i]? with | some (.val (.int a)) => _ | _ => none) = _ at h
  split at h
  · rename_i a ha
    cases hs : stL ls i (.int (a + Int32.ofInt z)) with
    | none => rw [hs] at h; cases h
    | some ls' =>
      rw [hs] at h
      have h := nx_inv h
      subst h
      exact lv_iinc hx hcb hd (hL.has2 ha) (k := 0) rfl rfl (by have := stL_lt hs; rw [hL.1] at this; exact this) rfl (fun arr' h' => kk.same hH (hL.st hs (fun _ q => List.mem_cons_of_mem _ q) h') hlo)
  · cases h
theorem sw_goto (x : Cx) (m : MD) (off : Int) : SW x m (.goto off) := by
  intro p l e R s mi args below meth c H locs cells slots Q arr pc len ls st G I n C hd hln h hH hL hlo hb hR1 hR2 hRc hRs kk
  have hx := C.1
  have hcb := C.2.1
  obtain rfl : 3 = len := by rcases hln with q | q <;> first | exact q | (exact absurd (show 3 = 0 from q) (by decide))
  obtain ⟨t, ht, rfl⟩ := jmp_inv h
  exact lv_goto hx hcb hd ht (kk.same hH hL hlo)
theorem sw_ifCond (x : Cx) (m : MD) (cd : ClassFile.Cond) (off : Int) : SW x m (.ifCond cd off) := by
  intro p l e R s mi args below meth c H locs cells slots Q arr pc len ls st G I n C hd hln h hH hL hlo hb hR1 hR2 hRc hRs kk
  have hx := C.1
  have hcb := C.2.1
  obtain rfl : 3 = len := by rcases hln with q | q <;> first | exact q | (exact absurd (show 3 = 0 from q) (by decide))
  change (match st with | .int a :: r => _ | _ => none) = _ at h
  split at h
  · rename_i a r
    by_cases hz : 0 ≤ (pc : Int) + off
    · rw [if_pos hz] at h
      have ht : (pc : Int) + off = ((((pc : Int) + off).toNat : Nat) : Int) := by omega
      cases cd with
      | eq =>
        change (if a = 0 then nx ((pc : Int) + off).toNat ls r G I else nx (pc + 3) ls r G I) = _ at h
        by_cases hc : a = 0
        · rw [if_pos hc] at h
          have h := nx_inv h
          subst h
          exact lv_if_eq hx hcb hd ht (fun _ => kk.same hH hL hlo) (fun q => by first | exact absurd hc q | exact absurd q hc)
        · rw [if_neg hc] at h
          have h := nx_inv h
          subst h
          exact lv_if_eq hx hcb hd ht (fun q => by first | exact absurd q hc | exact absurd hc q) (fun _ => kk.same hH hL hlo)
      | ne =>
        change (if ¬ a = 0 then nx ((pc : Int) + off).toNat ls r G I else nx (pc + 3) ls r G I) = _ at h
        by_cases hc : ¬ a = 0
        · rw [if_pos hc] at h
          have h := nx_inv h
          subst h
          exact lv_if_ne hx hcb hd ht (fun _ => kk.same hH hL hlo) (fun q => by first | exact absurd hc q | exact absurd q hc)
        · rw [if_neg hc] at h
          have h := nx_inv h
          subst h
          exact lv_if_ne hx hcb hd ht (fun q => by first | exact absurd q hc | exact absurd hc q) (fun _ => kk.same hH hL hlo)
      | lt =>
        change (if a < 0 then nx ((pc : Int) + off).toNat ls r G I else nx (pc + 3) ls r G I) = _ at h
        by_cases hc : a < 0
        · rw [if_pos hc] at h
          have h := nx_inv h
          subst h
          exact lv_if_lt hx hcb hd ht (fun _ => kk.same hH hL hlo) (fun q => by first | exact absurd hc q | exact absurd q hc)
        · rw [if_neg hc] at h
          have h := nx_inv h
          subst h
          exact lv_if_lt hx hcb hd ht (fun q => by first | exact absurd q hc | exact absurd hc q) (fun _ => kk.same hH hL hlo)
      | ge =>
        change (if 0 ≤ a then nx ((pc : Int) + off).toNat ls r G I else nx (pc + 3) ls r G I) = _ at h
        by_cases hc : 0 ≤ a
        · rw [if_pos hc] at h
          have h := nx_inv h
          subst h
          exact lv_if_ge hx hcb hd ht (fun _ => kk.same hH hL hlo) (fun q => by first | exact absurd hc q | exact absurd q hc)
        · rw [if_neg hc] at h
          have h := nx_inv h
          subst h
          exact lv_if_ge hx hcb hd ht (fun q => by first | exact absurd q hc | exact absurd hc q) (fun _ => kk.same hH hL hlo)
      | gt =>
        change (if 0 < a then nx ((pc : Int) + off).toNat ls r G I else nx (pc + 3) ls r G I) = _ at h
        by_cases hc : 0 < a
        · rw [if_pos hc] at h
          have h := nx_inv h
          subst h
          exact lv_if_gt hx hcb hd ht (fun _ => kk.same hH hL hlo) (fun q => by first | exact absurd hc q | exact absurd q hc)
        · rw [if_neg hc] at h
          have h := nx_inv h
          subst h
          exact lv_if_gt hx hcb hd ht (fun q => by first | exact absurd q hc | exact absurd hc q) (fun _ => kk.same hH hL hlo)
      | le =>
        change (if a ≤ 0 then nx ((pc : Int) + off).toNat ls r G I else nx (pc + 3) ls r G I) = _ at h
        by_cases hc : a ≤ 0
        · rw [if_pos hc] at h
          have h := nx_inv h
          subst h
          exact lv_if_le hx hcb hd ht (fun _ => kk.same hH hL hlo) (fun q => by first | exact absurd hc q | exact absurd q hc)
        · rw [if_neg hc] at h
          have h := nx_inv h
          subst h
          exact lv_if_le hx hcb hd ht (fun q => by first | exact absurd q hc | exact absurd hc q) (fun _ => kk.same hH hL hlo)
    · rw [if_neg hz] at h; cases h
  · cases h
theorem sw_if_icmp (x : Cx) (m : MD) (cd : ClassFile.Cond) (off : Int) : SW x m (.if_icmp cd off) := by
  intro p l e R s mi args below meth c H locs cells slots Q arr pc len ls st G I n C hd hln h hH hL hlo hb hR1 hR2 hRc hRs kk
  have hx := C.1
  have hcb := C.2.1
  obtain rfl : 3 = len := by rcases hln with q | q <;> first | exact q | (exact absurd (show 3 = 0 from q) (by decide))
  change (match st with | .int b :: .int a :: r => _ | _ => none) = _ at h
  split at h
  · rename_i b a r
    by_cases hz : 0 ≤ (pc : Int) + off
    · rw [if_pos hz] at h
      have ht : (pc : Int) + off = ((((pc : Int) + off).toNat : Nat) : Int) := by omega
      cases cd with
      | eq =>
        change (if a = b then nx ((pc : Int) + off).toNat ls r G I else nx (pc + 3) ls r G I) = _ at h
        by_cases hc : a = b
        · rw [if_pos hc] at h
          have h := nx_inv h
          subst h
          exact lv_icmp_eq hx hcb hd ht (fun _ => kk.same hH hL hlo) (fun q => by first | exact absurd hc q | exact absurd q hc)
        · rw [if_neg hc] at h
          have h := nx_inv h
          subst h
          exact lv_icmp_eq hx hcb hd ht (fun q => by first | exact absurd q hc | exact absurd hc q) (fun _ => kk.same hH hL hlo)
      | ne =>
        change (if ¬ a = b then nx ((pc : Int) + off).toNat ls r G I else nx (pc + 3) ls r G I) = _ at h
        by_cases hc : ¬ a = b
        · rw [if_pos hc] at h
          have h := nx_inv h
          subst h
          exact lv_icmp_ne hx hcb hd ht (fun _ => kk.same hH hL hlo) (fun q => by first | exact absurd hc q | exact absurd q hc)
        · rw [if_neg hc] at h
          have h := nx_inv h
          subst h
          exact lv_icmp_ne hx hcb hd ht (fun q => by first | exact absurd q hc | exact absurd hc q) (fun _ => kk.same hH hL hlo)
      | lt =>
        change (if a < b then nx ((pc : Int) + off).toNat ls r G I else nx (pc + 3) ls r G I) = _ at h
        by_cases hc : a < b
        · rw [if_pos hc] at h
          have h := nx_inv h
          subst h
          exact lv_icmp_lt hx hcb hd ht (fun _ => kk.same hH hL hlo) (fun q => by first | exact absurd hc q | exact absurd q hc)
        · rw [if_neg hc] at h
          have h := nx_inv h
          subst h
          exact lv_icmp_lt hx hcb hd ht (fun q => by first | exact absurd q hc | exact absurd hc q) (fun _ => kk.same hH hL hlo)
      | ge =>
        change (if b ≤ a then nx ((pc : Int) + off).toNat ls r G I else nx (pc + 3) ls r G I) = _ at h
        by_cases hc : b ≤ a
        · rw [if_pos hc] at h
          have h := nx_inv h
          subst h
          exact lv_icmp_ge hx hcb hd ht (fun _ => kk.same hH hL hlo) (fun q => by first | exact absurd hc q | exact absurd q hc)
        · rw [if_neg hc] at h
          have h := nx_inv h
          subst h
          exact lv_icmp_ge hx hcb hd ht (fun q => by first | exact absurd q hc | exact absurd hc q) (fun _ => kk.same hH hL hlo)
      | gt =>
        change (if b < a then nx ((pc : Int) + off).toNat ls r G I else nx (pc + 3) ls r G I) = _ at h
        by_cases hc : b < a
        · rw [if_pos hc] at h
          have h := nx_inv h
          subst h
          exact lv_icmp_gt hx hcb hd ht (fun _ => kk.same hH hL hlo) (fun q => by first | exact absurd hc q | exact absurd q hc)
        · rw [if_neg hc] at h
          have h := nx_inv h
          subst h
          exact lv_icmp_gt hx hcb hd ht (fun q => by first | exact absurd q hc | exact absurd hc q) (fun _ => kk.same hH hL hlo)
      | le =>
        change (if a ≤ b then nx ((pc : Int) + off).toNat ls r G I else nx (pc + 3) ls r G I) = _ at h
        by_cases hc : a ≤ b
        · rw [if_pos hc] at h
          have h := nx_inv h
          subst h
          exact lv_icmp_le hx hcb hd ht (fun _ => kk.same hH hL hlo) (fun q => by first | exact absurd hc q | exact absurd q hc)
        · rw [if_neg hc] at h
          have h := nx_inv h
          subst h
          exact lv_icmp_le hx hcb hd ht (fun q => by first | exact absurd q hc | exact absurd hc q) (fun _ => kk.same hH hL hlo)
    · rw [if_neg hz] at h; cases h
  · cases h
theorem sw_ifnull (x : Cx) (m : MD) (off : Int) : SW x m (.ifnull off) := by
  intro p l e R s mi args below meth c H locs cells slots Q arr pc len ls st G I n C hd hln h hH hL hlo hb hR1 hR2 hRc hRs kk
  have hx := C.1
  have hcb := C.2.1
  obtain rfl : 3 = len := by rcases hln with q | q <;> first | exact q | (exact absurd (show 3 = 0 from q) (by decide))
  change (match st with | .null :: r => _ | .ref a :: r => _ | _ => none) = _ at h
  split at h
  · obtain ⟨t, ht, rfl⟩ := jmp_inv h
    exact lv_ifnullN hx hcb hd ht (kk.same hH hL hlo)
  · have h := nx_inv h
    subst h
    exact lv_ifnull hx hcb hd (kk.same hH hL hlo)
  · cases h
theorem sw_ifnonnull (x : Cx) (m : MD) (off : Int) : SW x m (.ifnonnull off) := by
  intro p l e R s mi args below meth c H locs cells slots Q arr pc len ls st G I n C hd hln h hH hL hlo hb hR1 hR2 hRc hRs kk
  have hx := C.1
  have hcb := C.2.1
  obtain rfl : 3 = len := by rcases hln with q | q <;> first | exact q | (exact absurd (show 3 = 0 from q) (by decide))
  change (match st with | .null :: r => _ | .ref a :: r => _ | _ => none) = _ at h
  split at h
  · have h := nx_inv h
    subst h
    exact lv_ifnonnullN hx hcb hd (kk.same hH hL hlo)
  · obtain ⟨t, ht, rfl⟩ := jmp_inv h
    exact lv_ifnonnull hx hcb hd ht (kk.same hH hL hlo)
  · cases h
theorem sw_tableswitch (x : Cx) (m : MD) (dd lo hi : Int) (offs : Array Int) : SW x m (.tableswitch dd lo hi offs) := by
  intro p l e R s mi args below meth c H locs cells slots Q arr pc len ls st G I n C hd hln h hH hL hlo hb hR1 hR2 hRc hRs kk
  have hx := C.1
  have hcb := C.2.1
  change (match st with | .int a :: r => _ | _ => none) = _ at h
  split at h
  · rename_i a r
    by_cases hc : a.toInt < lo ∨ hi < a.toInt
    · rw [if_pos hc] at h
      obtain ⟨t, ht, rfl⟩ := jmp_inv h
      exact lv_tableOut hx hcb hd hc ht (kk.same hH hL hlo)
    · rw [if_neg hc] at h
      cases ho : offs[(a.toInt - lo).toNat]? with
      | none => rw [ho] at h; cases h
      | some off =>
        rw [ho] at h
        obtain ⟨t, ht, rfl⟩ := jmp_inv h
        exact lv_tableIn hx hcb hd (fun q => hc (Or.inl q)) (fun q => hc (Or.inr q)) ho ht (kk.same hH hL hlo)
  · cases h
