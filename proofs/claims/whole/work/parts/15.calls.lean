/-! the JDK's methods as steps; of the texts' two and of rows of rows we ask JX (closed further behind) -/
def JLen (x : Cx) : Prop :=
  ∀ (p : Program) (l : Launch) (e : Env) (R : Room) (s : State) (mi : MethodId) (args : Array Value) (below : List Frame) (meth : Method) (c : Code) (m : MD) (H : Heap) (locs : List Loc) (cells slots : Nat) (Q : State → Prop) (arr : Array Slot) (pc i wi a : Nat) (t : List Int32) (r : List Value),
    MC x p s mi args meth c m → decode (mBy m) pc = .ok (.invokevirtual i, 3) → jR (mOwn m) i = some (4, wi) → strB a = some t → (∀ q, q < xz x → H[q]? = (xH x)[q]?) → xz x ≤ H.size → (∀ q ∈ locs, xz x ≤ q.base) → 8 ≤ R.frames → 400 ≤ R.locals → cells ≤ R.cells → slots ≤ R.slots → (r.map fun v => v.category).sum ≤ 8 → arr.size = mMax m →
    (∀ locs', (∀ q ∈ locs', xz x ≤ q.base) → W p l e R s mi args below meth c H locs' cells slots Q (F0 mi (pc + 3) arr (.int (nI t.length) :: r))) → W p l e R s mi args below meth c H locs cells slots Q (F0 mi pc arr (.ref (adr x a) :: r))
def JChar (x : Cx) : Prop :=
  ∀ (p : Program) (l : Launch) (e : Env) (R : Room) (s : State) (mi : MethodId) (args : Array Value) (below : List Frame) (meth : Method) (c : Code) (m : MD) (H : Heap) (locs : List Loc) (cells slots : Nat) (Q : State → Prop) (arr : Array Slot) (pc i wi a : Nat) (j : Int32) (t : List Int32) (r : List Value),
    MC x p s mi args meth c m → decode (mBy m) pc = .ok (.invokevirtual i, 3) → jR (mOwn m) i = some (5, wi) → strB a = some t → inb j t.length = true → (∀ q, q < xz x → H[q]? = (xH x)[q]?) → xz x ≤ H.size → (∀ q ∈ locs, xz x ≤ q.base) → 8 ≤ R.frames → 400 ≤ R.locals → cells ≤ R.cells → slots ≤ R.slots → (r.map fun v => v.category).sum ≤ 8 → arr.size = mMax m →
    (∀ locs', (∀ q ∈ locs', xz x ≤ q.base) → W p l e R s mi args below meth c H locs' cells slots Q (F0 mi (pc + 3) arr (.int (t.getD j.toNatClampNeg 0) :: r))) → W p l e R s mi args below meth c H locs cells slots Q (F0 mi pc arr (.int j :: .ref (adr x a) :: r))
def JX (x : Cx) : Prop := JLen x ∧ JChar x ∧ ∀ (m : MD) (i n : Nat), SW x m (.multianewarray i n)
theorem cvsum (x : Cx) (r : List Value) : ((r.map (cv x)).map fun v => v.category).sum = (r.map fun v => v.category).sum := by
  rw [List.map_map]
  congr 1
  apply List.map_congr_left
  intro v _
  exact cv_cat x v
theorem wMathMax : Cond.static Lib.Math.max.name ∈ TW ∧ Cond.initialized "java/lang/Math" ∈ TW ∧ Cond.code Lib.Math.max.name Lib.Math.max.code 2 (some .int) ∈ TW := ⟨inTW 837 (by decide +kernel) rfl, inTW 14 (by decide +kernel) rfl, inTW 838 (by decide +kernel) rfl⟩
theorem wMathMin : Cond.static Lib.Math.min.name ∈ TW ∧ Cond.initialized "java/lang/Math" ∈ TW ∧ Cond.code Lib.Math.min.name Lib.Math.min.code 2 (some .int) ∈ TW := ⟨inTW 592 (by decide +kernel) rfl, inTW 14 (by decide +kernel) rfl, inTW 593 (by decide +kernel) rfl⟩
theorem wCopy : Cond.static arraycopyName ∈ TW ∧ Cond.native arraycopyName ∈ TW ∧ Cond.initialized "java/lang/System" ∈ TW := ⟨inTW 860 (by decide +kernel) rfl, inTW 861 (by decide +kernel) rfl, inTW 19 (by decide +kernel) rfl⟩
theorem wInit : Cond.instanceMethod Lib.objectInit ∈ TW ∧ Cond.code Lib.objectInit ⟨#[0xb1]⟩ 1 none ∈ TW := ⟨inTW 31 (by decide +kernel) rfl, inTW 32 (by decide +kernel) rfl⟩
theorem oJdk_inv {sort : Nat} {q : Option Nat} {pc : Nat} {ls : List Slot} {st : List Value} {G : Gm} {I : Im} {n : Nx} (h : oJdk sort q strB pc ls st G I = some (.inl n)) :
    (∃ a r, sort = 1 ∧ q = some 0 ∧ st = .ref a :: r ∧ (r.map fun v => v.category).sum ≤ 8 ∧ n = (pc, ls, r, G, I)) ∨
    (∃ y z r, sort = 2 ∧ q = some 1 ∧ st = .int y :: .int z :: r ∧ (r.map fun v => v.category).sum ≤ 8 ∧ n = (pc, ls, .int (if z < y then y else z) :: r, G, I)) ∨
    (∃ y z r, sort = 2 ∧ q = some 2 ∧ st = .int y :: .int z :: r ∧ (r.map fun v => v.category).sum ≤ 8 ∧ n = (pc, ls, .int (if y < z then y else z) :: r, G, I)) ∨
    (∃ k dp b sp a r, sort = 2 ∧ q = some 3 ∧ st = .int k :: .int dp :: .ref b :: .int sp :: .ref a :: r ∧ ((r.map fun v => v.category).sum ≤ 8 ∧ (gT G a).1 = 0 ∧ (gT G b).1 = 0 ∧ ¬ a = b ∧ ¬ sp < 0 ∧ ¬ dp < 0 ∧ ¬ k < 0 ∧ sp.toNatClampNeg + k.toNatClampNeg ≤ (gT G a).2 ∧ dp.toNatClampNeg + k.toNatClampNeg ≤ (gT G b).2) ∧ n = (pc, ls, r, G, s1 I b (va_cpy (I a) (I b) sp.toNatClampNeg dp.toNatClampNeg k.toNatClampNeg))) ∨
    (∃ a t r, sort = 0 ∧ q = some 4 ∧ st = .ref a :: r ∧ strB a = some t ∧ (r.map fun v => v.category).sum ≤ 8 ∧ n = (pc, ls, .int (nI t.length) :: r, G, I)) ∨
    (∃ j a t r, sort = 0 ∧ q = some 5 ∧ st = .int j :: .ref a :: r ∧ strB a = some t ∧ (r.map fun v => v.category).sum ≤ 8 ∧ inb j t.length = true ∧ n = (pc, ls, .int (t.getD j.toNatClampNeg 0) :: r, G, I)) := by
  unfold oJdk at h
  split at h
  · split at h
    · next hc => exact Or.inl ⟨_, _, rfl, rfl, rfl, hc, nx_inv h⟩
    · cases h
  · split at h
    · next hc => exact Or.inr (Or.inl ⟨_, _, _, rfl, rfl, rfl, hc, nx_inv h⟩)
    · cases h
  · split at h
    · next hc => exact Or.inr (Or.inr (Or.inl ⟨_, _, _, rfl, rfl, rfl, hc, nx_inv h⟩))
    · cases h
  · split at h
    · next hc => exact Or.inr (Or.inr (Or.inr (Or.inl ⟨_, _, _, _, _, _, rfl, rfl, rfl, hc, nx_inv h⟩)))
    · cases h
  · split at h
    · split at h
      · next ht hc => exact Or.inr (Or.inr (Or.inr (Or.inr (Or.inl ⟨_, _, _, rfl, rfl, rfl, ht, hc, nx_inv h⟩))))
      · cases h
    · cases h
  · split at h
    · split at h
      · next ht hc => exact Or.inr (Or.inr (Or.inr (Or.inr (Or.inr ⟨_, _, _, _, rfl, rfl, rfl, ht, hc.1, hc.2, nx_inv h⟩))))
      · cases h
    · cases h
  · cases h
theorem oCall_ninl {sort : Nat} {q : Option (Bool × MD × Nat)} {pc : Nat} {st : List Value} {G : Gm} {n : Nx} : ¬ oCall sort q nFd pc st G = some (.inl n) := by
  intro h
  unfold oCall at h
  split at h
  · split at h
    · cases h
    · cases h
  · cases h
theorem sw_invokespecial (x : Cx) (m : MD) (i : Nat) : SW x m (.invokespecial i) := by
  intro p l e R s mi args below meth c H locs cells slots Q arr pc len ls st G I n C hd hln h hH hL hlo hb hR1 hR2 hRc hRs kk
  obtain rfl : 3 = len := by rcases hln with q | q <;> first | exact q | (exact absurd (show 3 = 0 from q) (by decide))
  change (match jR (mOwn m) i with | some q => _ | none => _) = _ at h
  cases hj : jR (mOwn m) i with
  | none => rw [hj] at h; exact absurd h oCall_ninl
  | some q =>
    rw [hj] at h
    rcases oJdk_inv h with ⟨a, r, -, hq, rfl, hc, rfl⟩ | ⟨y, z, r, hs, -⟩ | ⟨y, z, r, hs, -⟩ | ⟨k, dp, b, sp, a, r, hs, -⟩ | ⟨a, t, r, hs, -⟩ | ⟨j, a, t, r, hs, -⟩
    · obtain ⟨q1, wi⟩ := q
      cases hq
      have hw := C.hts _ (inTW wi (jWok C.own hj) rfl)
      exact W.objInit C.1 C.2.1 C.hown hw (C.hts _ wInit.1) (C.hts _ wInit.2) rfl (by show arr.size = _; rw [hL.2.1, C.2.2.2.2.1]) rfl hd (by omega) (by show 2 * 0 + _ + 12 ≤ _; rw [cvsum]; omega) (kk.same hH hL hlo)
    all_goals omega
theorem sw_invokestatic (x : Cx) (m : MD) (i : Nat) : SW x m (.invokestatic i) := by
  intro p l e R s mi args below meth c H locs cells slots Q arr pc len ls st G I n C hd hln h hH hL hlo hb hR1 hR2 hRc hRs kk
  obtain rfl : 3 = len := by rcases hln with q | q <;> first | exact q | (exact absurd (show 3 = 0 from q) (by decide))
  change (match jR (mOwn m) i with | some q => _ | none => _) = _ at h
  cases hj : jR (mOwn m) i with
  | none => rw [hj] at h; exact absurd h oCall_ninl
  | some q =>
    rw [hj] at h
    obtain ⟨q1, wi⟩ := q
    have hw := C.hts _ (inTW wi (jWok C.own hj) rfl)
    have hml : c.maxLocals = arr.size := by rw [hL.2.1, C.2.2.2.2.1]
    rcases oJdk_inv h with ⟨a, r, hs, -⟩ | ⟨y, z, r, -, hq, rfl, hc, rfl⟩ | ⟨y, z, r, -, hq, rfl, hc, rfl⟩ | ⟨k, dp, b, sp, a, r, -, hq, rfl, hc, rfl⟩ | ⟨a, t, r, hs, -⟩ | ⟨j, a, t, r, hs, -⟩
    · omega
    · cases hq
      have hRc' : cells ≤ R.cells := by omega
      have hRs' : slots ≤ R.slots := by omega
      exact va_mmax C.1 C.2.1 hml C.hown hw (C.hts _ wMathMax.1) (C.hts _ wMathMax.2.1) (C.hts _ wMathMax.2.2) (by omega) (by rw [cvsum]; omega) hRc' hRs' hd (kk.same hH hL hlo)
    · cases hq
      have hRc' : cells ≤ R.cells := by omega
      have hRs' : slots ≤ R.slots := by omega
      exact va_mmin C.1 C.2.1 hml C.hown hw (C.hts _ wMathMin.1) (C.hts _ wMathMin.2.1) (C.hts _ wMathMin.2.2) (by omega) (by rw [cvsum]; omega) hRc' hRs' hd (kk.same hH hL hlo)
    · cases hq
      obtain ⟨hc0, ha, hb0, hab, h1, h2, h3, h4, h5⟩ := hc
      have hb99 : (gT G b).1 ≠ 99 := by omega
      have eb := hH.ad hb99
      refine W_copyi C.1 C.2.1 hml C.hown hw (C.hts _ wCopy.2.1) (C.hts _ wCopy.1) (C.hts _ wCopy.2.2) ((C.kk.2.1 0 (by omega)).1) (hH.arr (by omega) ha) (hH.arr (by omega) hb0) h1 h2 h3 h4 h5 (by omega) (by rw [cvsum]; show _ + (5 + 2 + 11) ≤ _; omega) hd fun H1 L e1 z1 o1 hLb => ?_
      refine kk.same (hH.put (hH.lt hb99) ⟨rfl, rfl⟩ (fun v hv => ⟨rfl, rfl, by unfold s1; rw [if_neg hv]⟩) z1 (by rw [← eb]; exact o1) (cellArr (k := 0) (by omega) hb0 ?_)) hL ?_
      · rw [← eb, e1]
        congr 2
        funext j
        show _ = cv x (Value.int (s1 I b _ b j))
        unfold s1
        rw [if_pos rfl]
        rfl
      · intro q hq
        rcases List.mem_append.mp hq with h | h
        · exact hlo q h
        · rw [hLb q h]
          omega
    all_goals omega
theorem sw_invokevirtual (x : Cx) (hJ : JX x) (m : MD) (i : Nat) : SW x m (.invokevirtual i) := by
  intro p l e R s mi args below meth c H locs cells slots Q arr pc len ls st G I n C hd hln h hH hL hlo hb hR1 hR2 hRc hRs kk
  obtain rfl : 3 = len := by rcases hln with q | q <;> first | exact q | (exact absurd (show 3 = 0 from q) (by decide))
  change (match jR (mOwn m) i with | some q => _ | none => _) = _ at h
  cases hj : jR (mOwn m) i with
  | none => rw [hj] at h; exact absurd h oCall_ninl
  | some q =>
    rw [hj] at h
    obtain ⟨q1, wi⟩ := q
    have hz : xz x ≤ H.size := by rw [hH.1]; omega
    have hold : ∀ q, q < xz x → H[q]? = (xH x)[q]? := hH.2.2.2.2
    have hRc' : cells ≤ R.cells := by omega
    have hRs' : slots ≤ R.slots := by omega
    rcases oJdk_inv h with ⟨a, r, hs, -⟩ | ⟨y, z, r, hs, -⟩ | ⟨y, z, r, hs, -⟩ | ⟨k, dp, b, sp, a, r, hs, -⟩ | ⟨a, t, r, -, hq, rfl, ht, hc, rfl⟩ | ⟨j, a, t, r, -, hq, rfl, ht, hc, hi, rfl⟩
    · omega
    · omega
    · omega
    · omega
    · cases hq
      exact hJ.1 p l e R s mi args below meth c m H locs cells slots Q arr pc i wi a t _ C hd hj ht hold hz hlo hR1 hR2 hRc' hRs' (by rw [cvsum]; exact hc) hL.2.1 (fun locs' hlo' => kk.same hH hL hlo')
    · cases hq
      exact hJ.2.1 p l e R s mi args below meth c m H locs cells slots Q arr pc i wi a j t _ C hd hj ht hi hold hz hlo hR1 hR2 hRc' hRs' (by rw [cvsum]; exact hc) hL.2.1 (fun locs' hlo' => kk.same hH hL hlo')
theorem sw_ireturn (x : Cx) (m : MD) : SW x m .ireturn := by
  intro p l e R s mi args below meth c H locs cells slots Q arr pc len ls st G I n C hd hln h hH hL hlo hb hR1 hR2 hRc hRs kk
  exfalso
  change (match st, mRet m with | [.int a], some ty => _ | _, _ => none) = _ at h
  split at h
  · first | (cases h; done) | (split at h <;> cases h)
  · cases h
theorem sw_lreturn (x : Cx) (m : MD) : SW x m .lreturn := by
  intro p l e R s mi args below meth c H locs cells slots Q arr pc len ls st G I n C hd hln h hH hL hlo hb hR1 hR2 hRc hRs kk
  exfalso
  change (match st, mRet m with | [.long a], some .long => _ | _, _ => none) = _ at h
  split at h
  · first | (cases h; done) | (split at h <;> cases h)
  · cases h
theorem sw_areturn (x : Cx) (m : MD) : SW x m .areturn := by
  intro p l e R s mi args below meth c H locs cells slots Q arr pc len ls st G I n C hd hln h hH hL hlo hb hR1 hR2 hRc hRs kk
  exfalso
  change (match st, mRet m with | [.ref a], some (.object _) => _ | _, _ => none) = _ at h
  split at h
  · first | (cases h; done) | (split at h <;> cases h)
  · cases h
theorem sw_return_ (x : Cx) (m : MD) : SW x m .return_ := by
  intro p l e R s mi args below meth c H locs cells slots Q arr pc len ls st G I n C hd hln h hH hL hlo hb hR1 hR2 hRc hRs kk
  exfalso
  change (match st, mRet m with | [], none => _ | _, _ => none) = _ at h
  split at h
  · first | (cases h; done) | (split at h <;> cases h)
  · cases h
/-- every straight step -/
theorem sw_all (x : Cx) (hJ : JX x) (m : MD) (ins : Instr) : SW x m ins := by
  cases ins with
  | iconst i => exact sw_iconst x m i
  | bipush i => exact sw_bipush x m i
  | sipush i => exact sw_sipush x m i
  | lconst i => exact sw_lconst x m i
  | ldc i => exact sw_ldc x m i
  | ldc_w i => exact sw_ldc_w x m i
  | ldc2_w i => exact sw_ldc2_w x m i
  | iload i => exact sw_iload x m i
  | lload i => exact sw_lload x m i
  | aload i => exact sw_aload x m i
  | iload_n i => exact sw_iload_n x m i
  | lload_n i => exact sw_lload_n x m i
  | aload_n i => exact sw_aload_n x m i
  | istore i => exact sw_istore x m i
  | lstore i => exact sw_lstore x m i
  | astore i => exact sw_astore x m i
  | istore_n i => exact sw_istore_n x m i
  | lstore_n i => exact sw_lstore_n x m i
  | astore_n i => exact sw_astore_n x m i
  | iinc i z => exact sw_iinc x m i z
  | iadd => exact sw_iadd x m
  | isub => exact sw_isub x m
  | imul => exact sw_imul x m
  | idiv => exact sw_idiv x m
  | irem => exact sw_irem x m
  | iand => exact sw_iand x m
  | ior => exact sw_ior x m
  | ixor => exact sw_ixor x m
  | ishl => exact sw_ishl x m
  | ishr => exact sw_ishr x m
  | ineg => exact sw_ineg x m
  | i2l => exact sw_i2l x m
  | l2i => exact sw_l2i x m
  | i2b => exact sw_i2b x m
  | ladd => exact sw_ladd x m
  | lmul => exact sw_lmul x m
  | lrem => exact sw_lrem x m
  | lcmp => exact sw_lcmp x m
  | dup => exact sw_dup x m
  | dup2 => exact sw_dup2 x m
  | pop => exact sw_pop x m
  | ifCond cd off => exact sw_ifCond x m cd off
  | if_icmp cd off => exact sw_if_icmp x m cd off
  | ifnull off => exact sw_ifnull x m off
  | ifnonnull off => exact sw_ifnonnull x m off
  | goto off => exact sw_goto x m off
  | tableswitch d lo hi offs => exact sw_tableswitch x m d lo hi offs
  | getfield i => exact sw_getfield x m i
  | putfield i => exact sw_putfield x m i
  | iaload => exact sw_iaload x m
  | baload => exact sw_baload x m
  | laload => exact sw_laload x m
  | aaload => exact sw_aaload x m
  | iastore => exact sw_iastore x m
  | bastore => exact sw_bastore x m
  | lastore => exact sw_lastore x m
  | aastore => exact sw_aastore x m
  | new i => exact sw_new x m i
  | newarray t => exact sw_newarray x m t
  | anewarray i => exact sw_anewarray x m i
  | multianewarray i n => exact hJ.2.2 m i n
  | invokevirtual i => exact sw_invokevirtual x hJ m i
  | invokespecial i => exact sw_invokespecial x m i
  | invokestatic i => exact sw_invokestatic x m i
  | ireturn => exact sw_ireturn x m
  | lreturn => exact sw_lreturn x m
  | areturn => exact sw_areturn x m
  | return_ => exact sw_return_ x m
  | _ =>
    intro p l e R s mi args below meth c H locs cells slots Q arr pc len ls st G I n C hd hln h hH hL hlo hb hR1 hR2 hRc hRs kk
    cases h
