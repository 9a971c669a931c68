/-! rewriting rows of ex, an instruction each -/
theorem ex_nx {d : Nat} {m : MD} {pc : Nat} {ls : List Slot} {st : List Value} {G : Gm} {I : Im} {ins : Instr} {len : Nat} (h : lk (mCd m) pc = some (ins, len)) {pc' : Nat} {ls' : List Slot} {st' : List Value} {I' : Im} (hs : stepI m pc len ins ls st G I = nx pc' ls' st' G I') :
    ex d m pc ls st G I = ex d m pc' ls' st' G I' := by
  rw [ex_go h]
  dsimp only
  rw [hs]
  unfold nx exO
  dsimp only
  rw [if_pos ⟨Nat.le_refl _, Nat.le_refl _⟩]
theorem ex_nxG {d : Nat} {m : MD} {pc : Nat} {ls : List Slot} {st : List Value} {G : Gm} {I : Im} {ins : Instr} {len : Nat} (h : lk (mCd m) pc = some (ins, len)) {pc' : Nat} {ls' : List Slot} {st' : List Value} {G' : Gm} {I' : Im} (hs : stepI m pc len ins ls st G I = nx pc' ls' st' G' I') (hG : gN G ≤ gN G' ∧ gS G ≤ gS G') :
    ex d m pc ls st G I = ex d m pc' ls' st' G' I' := by
  rw [ex_go h]
  dsimp only
  rw [hs]
  unfold nx exO
  dsimp only
  rw [if_pos hG]
theorem ex_rt {d : Nat} {m : MD} {pc : Nat} {ls : List Slot} {st : List Value} {G : Gm} {I : Im} {ins : Instr} {len : Nat} (h : lk (mCd m) pc = some (ins, len)) (hr : isRet ins = true) {v : Option Value} (hs : stepI m pc len ins ls st G I = some (.inr (.inl v))) :
    ex d m pc ls st G I = some (v, G, I) := by
  rw [ex_go h]
  dsimp only
  rw [hs]
  unfold exO
  dsimp only
  rw [if_pos hr]
/-- behind a call -/
def cK (o : Option Rs) (k : Rs → Option Rs) : Option Rs := match o with
  | none => none
  | some r => k r
theorem cK_some (r : Rs) (k : Rs → Option Rs) : cK (some r) k = k r := rfl
/-- a method's run -/
noncomputable def run (d : Nat) (m : MD) (as : List Value) (G : Gm) (I : Im) : Option Rs := ex d m 0 (entL m as) [] G I
theorem ex_cl {d : Nat} {m m' : MD} {pc : Nat} {ls : List Slot} {st as rest : List Value} {G : Gm} {I : Im} {ins : Instr} {len pc' : Nat} (h : lk (mCd m) pc = some (ins, len)) (hi : isInv ins = true) (hz : (lg_sl as).length ≤ mMax m') (hs : stepI m pc len ins ls st G I = some (.inr (.inr (m', as, rest, pc')))) :
    ex (d + 1) m pc ls st G I = cK (run d m' as G I) (fun r => ex (d + 1) m pc' ls (r.1.toList ++ rest) r.2.1 r.2.2) := by
  rw [ex_go h]
  dsimp only
  rw [hs]
  unfold exO
  dsimp only
  rw [if_pos ⟨hz, hi⟩]
  unfold run cK
  cases ex d m' 0 (entL m' as) [] G I <;> rfl
section XR
variable {d : Nat} {m : MD} {pc : Nat} {ls : List Slot} {st : List Value} {G : Gm} {I : Im}
theorem e_const {i : Int} {v : Int32} (h : lk (mCd m) pc = some (.iconst i, 1)) (hv : Int32.ofInt i = v) : ex d m pc ls st G I = ex d m (pc + 1) ls (.int v :: st) G I := by subst hv; exact ex_nx h rfl
theorem e_bipush {i : Int} {v : Int32} (h : lk (mCd m) pc = some (.bipush i, 2)) (hv : (Int8.ofInt i).toInt32 = v) : ex d m pc ls st G I = ex d m (pc + 2) ls (.int v :: st) G I := by subst hv; exact ex_nx h rfl
theorem e_sipush {i : Int} {v : Int32} (h : lk (mCd m) pc = some (.sipush i, 3)) (hv : (Int16.ofInt i).toInt32 = v) : ex d m pc ls st G I = ex d m (pc + 3) ls (.int v :: st) G I := by subst hv; exact ex_nx h rfl
theorem e_lconst {i : Fin 2} {v : Int64} (h : lk (mCd m) pc = some (.lconst i, 1)) (hv : Int64.ofNat (i : Nat) = v) : ex d m pc ls st G I = ex d m (pc + 1) ls (.long v :: st) G I := by subst hv; exact ex_nx h rfl
theorem e_ldcK {i wi : Nat} {v : Int32} (h : lk (mCd m) pc = some (.ldc i, 2)) (hk : kR (mOwn m) i = some (v, wi)) : ex d m pc ls st G I = ex d m (pc + 2) ls (.int v :: st) G I := ex_nx h (by simp only [stepI, hk])
theorem e_ldcS {i a wi : Nat} (h : lk (mCd m) pc = some (.ldc i, 2)) (hk : kR (mOwn m) i = none) (hs : sR (mOwn m) i = some (a, wi)) : ex d m pc ls st G I = ex d m (pc + 2) ls (.ref (1000000 + a) :: st) G I := ex_nx h (by simp only [stepI, hk, hs])
theorem e_ldcwK {i wi : Nat} {v : Int32} (h : lk (mCd m) pc = some (.ldc_w i, 3)) (hk : kR (mOwn m) i = some (v, wi)) : ex d m pc ls st G I = ex d m (pc + 3) ls (.int v :: st) G I := ex_nx h (by simp only [stepI, hk])
theorem e_ldcwS {i a wi : Nat} (h : lk (mCd m) pc = some (.ldc_w i, 3)) (hk : kR (mOwn m) i = none) (hs : sR (mOwn m) i = some (a, wi)) : ex d m pc ls st G I = ex d m (pc + 3) ls (.ref (1000000 + a) :: st) G I := ex_nx h (by simp only [stepI, hk, hs])
theorem e_ldc2 {i wi : Nat} {v : Int64} (h : lk (mCd m) pc = some (.ldc2_w i, 3)) (hk : lR (mOwn m) i = some (v, wi)) : ex d m pc ls st G I = ex d m (pc + 3) ls (.long v :: st) G I := ex_nx h (by simp only [stepI, hk])
theorem e_iload {i : Nat} {x : Int32} (h : lk (mCd m) pc = some (.iload i, 2)) (hl : ls[i]? = some (.val (.int x))) : ex d m pc ls st G I = ex d m (pc + 2) ls (.int x :: st) G I := ex_nx h (by simp only [stepI, oLd, hl])
theorem e_lload {i : Nat} {x : Int64} (h : lk (mCd m) pc = some (.lload i, 2)) (hl : ls[i]? = some (.val (.long x))) : ex d m pc ls st G I = ex d m (pc + 2) ls (.long x :: st) G I := ex_nx h (by simp only [stepI, oLd, hl])
theorem e_aload {i x : Nat} (h : lk (mCd m) pc = some (.aload i, 2)) (hl : ls[i]? = some (.val (.ref x))) : ex d m pc ls st G I = ex d m (pc + 2) ls (.ref x :: st) G I := ex_nx h (by simp only [stepI, oLd, hl])
theorem e_iload_n {i : Fin 4} {x : Int32} (h : lk (mCd m) pc = some (.iload_n i, 1)) (hl : ls[(i : Nat)]? = some (.val (.int x))) : ex d m pc ls st G I = ex d m (pc + 1) ls (.int x :: st) G I := ex_nx h (by simp only [stepI, oLd, hl])
theorem e_lload_n {i : Fin 4} {x : Int64} (h : lk (mCd m) pc = some (.lload_n i, 1)) (hl : ls[(i : Nat)]? = some (.val (.long x))) : ex d m pc ls st G I = ex d m (pc + 1) ls (.long x :: st) G I := ex_nx h (by simp only [stepI, oLd, hl])
theorem e_aload_n {i : Fin 4} {x : Nat} (h : lk (mCd m) pc = some (.aload_n i, 1)) (hl : ls[(i : Nat)]? = some (.val (.ref x))) : ex d m pc ls st G I = ex d m (pc + 1) ls (.ref x :: st) G I := ex_nx h (by simp only [stepI, oLd, hl])
theorem e_istore {i : Nat} {x : Int32} {ls' : List Slot} (h : lk (mCd m) pc = some (.istore i, 2)) (hl : stL ls i (.int x) = some ls') : ex d m pc ls (.int x :: st) G I = ex d m (pc + 2) ls' st G I := ex_nx h (by simp only [stepI, oSt, hl])
theorem e_lstore {i : Nat} {x : Int64} {ls' : List Slot} (h : lk (mCd m) pc = some (.lstore i, 2)) (hl : stL2 ls i (.long x) = some ls') : ex d m pc ls (.long x :: st) G I = ex d m (pc + 2) ls' st G I := ex_nx h (by simp only [stepI, oSt, hl])
theorem e_astore {i x : Nat} {ls' : List Slot} (h : lk (mCd m) pc = some (.astore i, 2)) (hl : stL ls i (.ref x) = some ls') : ex d m pc ls (.ref x :: st) G I = ex d m (pc + 2) ls' st G I := ex_nx h (by simp only [stepI, oSt, hl])
theorem e_istore_n {i : Fin 4} {x : Int32} {ls' : List Slot} (h : lk (mCd m) pc = some (.istore_n i, 1)) (hl : stL ls (i : Nat) (.int x) = some ls') : ex d m pc ls (.int x :: st) G I = ex d m (pc + 1) ls' st G I := ex_nx h (by simp only [stepI, oSt, hl])
theorem e_lstore_n {i : Fin 4} {x : Int64} {ls' : List Slot} (h : lk (mCd m) pc = some (.lstore_n i, 1)) (hl : stL2 ls (i : Nat) (.long x) = some ls') : ex d m pc ls (.long x :: st) G I = ex d m (pc + 1) ls' st G I := ex_nx h (by simp only [stepI, oSt, hl])
theorem e_astore_n {i : Fin 4} {x : Nat} {ls' : List Slot} (h : lk (mCd m) pc = some (.astore_n i, 1)) (hl : stL ls (i : Nat) (.ref x) = some ls') : ex d m pc ls (.ref x :: st) G I = ex d m (pc + 1) ls' st G I := ex_nx h (by simp only [stepI, oSt, hl])
theorem e_iinc {i : Nat} {z : Int} {x v : Int32} {ls' : List Slot} (h : lk (mCd m) pc = some (.iinc i z, 3)) (hi : ls[i]? = some (.val (.int x))) (hv : Int32.ofInt z = v) (hl : stL ls i (.int (x + v)) = some ls') : ex d m pc ls st G I = ex d m (pc + 3) ls' st G I := by subst hv; exact ex_nx h (by simp only [stepI, hi, hl])
theorem e_iadd {a b : Int32} (h : lk (mCd m) pc = some (.iadd, 1)) : ex d m pc ls (.int b :: .int a :: st) G I = ex d m (pc + 1) ls (.int (a + b) :: st) G I := ex_nx h rfl
theorem e_isub {a b : Int32} (h : lk (mCd m) pc = some (.isub, 1)) : ex d m pc ls (.int b :: .int a :: st) G I = ex d m (pc + 1) ls (.int (a - b) :: st) G I := ex_nx h rfl
theorem e_imul {a b : Int32} (h : lk (mCd m) pc = some (.imul, 1)) : ex d m pc ls (.int b :: .int a :: st) G I = ex d m (pc + 1) ls (.int (a * b) :: st) G I := ex_nx h rfl
theorem e_iand {a b : Int32} (h : lk (mCd m) pc = some (.iand, 1)) : ex d m pc ls (.int b :: .int a :: st) G I = ex d m (pc + 1) ls (.int (a &&& b) :: st) G I := ex_nx h rfl
theorem e_ior {a b : Int32} (h : lk (mCd m) pc = some (.ior, 1)) : ex d m pc ls (.int b :: .int a :: st) G I = ex d m (pc + 1) ls (.int (a ||| b) :: st) G I := ex_nx h rfl
theorem e_ixor {a b : Int32} (h : lk (mCd m) pc = some (.ixor, 1)) : ex d m pc ls (.int b :: .int a :: st) G I = ex d m (pc + 1) ls (.int (a ^^^ b) :: st) G I := ex_nx h rfl
theorem e_ishl {a b : Int32} (h : lk (mCd m) pc = some (.ishl, 1)) : ex d m pc ls (.int b :: .int a :: st) G I = ex d m (pc + 1) ls (.int (a <<< (b &&& 31)) :: st) G I := ex_nx h rfl
theorem e_ishr {a b : Int32} (h : lk (mCd m) pc = some (.ishr, 1)) : ex d m pc ls (.int b :: .int a :: st) G I = ex d m (pc + 1) ls (.int (a >>> (b &&& 31)) :: st) G I := ex_nx h rfl
theorem e_idiv {a b : Int32} (h : lk (mCd m) pc = some (.idiv, 1)) (hb : ¬ b = 0) : ex d m pc ls (.int b :: .int a :: st) G I = ex d m (pc + 1) ls (.int (a / b) :: st) G I := ex_nx h (by simp only [stepI, o2z, if_neg hb])
theorem e_irem {a b : Int32} (h : lk (mCd m) pc = some (.irem, 1)) (hb : ¬ b = 0) : ex d m pc ls (.int b :: .int a :: st) G I = ex d m (pc + 1) ls (.int (a - a / b * b) :: st) G I := ex_nx h (by simp only [stepI, o2z, if_neg hb])
theorem e_ineg {a : Int32} (h : lk (mCd m) pc = some (.ineg, 1)) : ex d m pc ls (.int a :: st) G I = ex d m (pc + 1) ls (.int (-a) :: st) G I := ex_nx h rfl
theorem e_i2l {a : Int32} (h : lk (mCd m) pc = some (.i2l, 1)) : ex d m pc ls (.int a :: st) G I = ex d m (pc + 1) ls (.long a.toInt64 :: st) G I := ex_nx h rfl
theorem e_l2i {a : Int64} (h : lk (mCd m) pc = some (.l2i, 1)) : ex d m pc ls (.long a :: st) G I = ex d m (pc + 1) ls (.int a.toInt32 :: st) G I := ex_nx h rfl
theorem e_i2b {a : Int32} (h : lk (mCd m) pc = some (.i2b, 1)) : ex d m pc ls (.int a :: st) G I = ex d m (pc + 1) ls (.int a.toInt8.toInt32 :: st) G I := ex_nx h rfl
theorem e_ladd {a b : Int64} (h : lk (mCd m) pc = some (.ladd, 1)) : ex d m pc ls (.long b :: .long a :: st) G I = ex d m (pc + 1) ls (.long (a + b) :: st) G I := ex_nx h rfl
theorem e_lmul {a b : Int64} (h : lk (mCd m) pc = some (.lmul, 1)) : ex d m pc ls (.long b :: .long a :: st) G I = ex d m (pc + 1) ls (.long (a * b) :: st) G I := ex_nx h rfl
theorem e_lrem {a b : Int64} (h : lk (mCd m) pc = some (.lrem, 1)) (hb : ¬ b = 0) : ex d m pc ls (.long b :: .long a :: st) G I = ex d m (pc + 1) ls (.long (a - a / b * b) :: st) G I := ex_nx h (by simp only [stepI, if_neg hb])
theorem e_lcmp {a b : Int64} (h : lk (mCd m) pc = some (.lcmp, 1)) : ex d m pc ls (.long b :: .long a :: st) G I = ex d m (pc + 1) ls (.int (lg_cmp a b) :: st) G I := ex_nx h rfl
theorem e_dupI {a : Int32} (h : lk (mCd m) pc = some (.dup, 1)) : ex d m pc ls (.int a :: st) G I = ex d m (pc + 1) ls (.int a :: .int a :: st) G I := ex_nx h rfl
theorem e_dupR {a : Nat} (h : lk (mCd m) pc = some (.dup, 1)) : ex d m pc ls (.ref a :: st) G I = ex d m (pc + 1) ls (.ref a :: .ref a :: st) G I := ex_nx h rfl
theorem e_dup2 {a : Int32} {b : Nat} (h : lk (mCd m) pc = some (.dup2, 1)) : ex d m pc ls (.int a :: .ref b :: st) G I = ex d m (pc + 1) ls (.int a :: .ref b :: .int a :: .ref b :: st) G I := ex_nx h rfl
theorem e_popI {a : Int32} (h : lk (mCd m) pc = some (.pop, 1)) : ex d m pc ls (.int a :: st) G I = ex d m (pc + 1) ls st G I := ex_nx h rfl
theorem e_popR {a : Nat} (h : lk (mCd m) pc = some (.pop, 1)) : ex d m pc ls (.ref a :: st) G I = ex d m (pc + 1) ls st G I := ex_nx h rfl
theorem e_goto {off : Int} {t : Nat} (h : lk (mCd m) pc = some (.goto off, 3)) (ht : (pc : Int) + off = (t : Int)) : ex d m pc ls st G I = ex d m t ls st G I := ex_nx h (by simp only [stepI, jmp, ht, Int.toNat_natCast, if_pos (Int.natCast_nonneg t)])
theorem ex_br {P : Prop} {A B : Option Out} {x y : Option Rs} (h1 : P → ex d m pc ls st G I = x) (h2 : ¬ P → ex d m pc ls st G I = y) (hP : Decidable P) : ex d m pc ls st G I = if P then x else y := by
  by_cases h : P
  · rw [if_pos h]; exact h1 h
  · rw [if_neg h]; exact h2 h
theorem e_if_eq {a : Int32} {off : Int} {t : Nat} (h : lk (mCd m) pc = some (.ifCond .eq off, 3)) (ht : (pc : Int) + off = (t : Int)) : ex d m pc ls (.int a :: st) G I = if a = 0 then ex d m t ls st G I else ex d m (pc + 3) ls st G I := by
  by_cases hc : a = 0
  · have e1 : ex d m pc ls (.int a :: st) G I = ex d m t ls st G I := ex_nx h (by simp only [stepI, ht, Int.toNat_natCast, if_pos (Int.natCast_nonneg t), br, if_pos hc])
    rw [e1]
    rw [if_pos hc]
  · have e1 : ex d m pc ls (.int a :: st) G I = ex d m (pc + 3) ls st G I := ex_nx h (by simp only [stepI, ht, Int.toNat_natCast, if_pos (Int.natCast_nonneg t), br, if_neg hc])
    rw [e1]
    rw [if_neg hc]
theorem e_ic_eq {a b : Int32} {off : Int} {t : Nat} (h : lk (mCd m) pc = some (.if_icmp .eq off, 3)) (ht : (pc : Int) + off = (t : Int)) : ex d m pc ls (.int b :: .int a :: st) G I = if a = b then ex d m t ls st G I else ex d m (pc + 3) ls st G I := by
  by_cases hc : a = b
  · have e1 : ex d m pc ls (.int b :: .int a :: st) G I = ex d m t ls st G I := ex_nx h (by simp only [stepI, ht, Int.toNat_natCast, if_pos (Int.natCast_nonneg t), br, if_pos hc])
    rw [e1]
    rw [if_pos hc]
  · have e1 : ex d m pc ls (.int b :: .int a :: st) G I = ex d m (pc + 3) ls st G I := ex_nx h (by simp only [stepI, ht, Int.toNat_natCast, if_pos (Int.natCast_nonneg t), br, if_neg hc])
    rw [e1]
    rw [if_neg hc]
theorem e_if_ne {a : Int32} {off : Int} {t : Nat} (h : lk (mCd m) pc = some (.ifCond .ne off, 3)) (ht : (pc : Int) + off = (t : Int)) : ex d m pc ls (.int a :: st) G I = if a = 0 then ex d m (pc + 3) ls st G I else ex d m t ls st G I := by
  by_cases hc : ¬ a = 0
  · have e1 : ex d m pc ls (.int a :: st) G I = ex d m t ls st G I := ex_nx h (by simp only [stepI, ht, Int.toNat_natCast, if_pos (Int.natCast_nonneg t), br, if_pos hc])
    rw [e1]
    rw [if_neg hc]
  · have e1 : ex d m pc ls (.int a :: st) G I = ex d m (pc + 3) ls st G I := ex_nx h (by simp only [stepI, ht, Int.toNat_natCast, if_pos (Int.natCast_nonneg t), br, if_neg hc])
    rw [e1]
    rw [if_pos (Classical.not_not.mp hc)]
theorem e_ic_ne {a b : Int32} {off : Int} {t : Nat} (h : lk (mCd m) pc = some (.if_icmp .ne off, 3)) (ht : (pc : Int) + off = (t : Int)) : ex d m pc ls (.int b :: .int a :: st) G I = if a = b then ex d m (pc + 3) ls st G I else ex d m t ls st G I := by
  by_cases hc : ¬ a = b
  · have e1 : ex d m pc ls (.int b :: .int a :: st) G I = ex d m t ls st G I := ex_nx h (by simp only [stepI, ht, Int.toNat_natCast, if_pos (Int.natCast_nonneg t), br, if_pos hc])
    rw [e1]
    rw [if_neg hc]
  · have e1 : ex d m pc ls (.int b :: .int a :: st) G I = ex d m (pc + 3) ls st G I := ex_nx h (by simp only [stepI, ht, Int.toNat_natCast, if_pos (Int.natCast_nonneg t), br, if_neg hc])
    rw [e1]
    rw [if_pos (Classical.not_not.mp hc)]
theorem e_if_lt {a : Int32} {off : Int} {t : Nat} (h : lk (mCd m) pc = some (.ifCond .lt off, 3)) (ht : (pc : Int) + off = (t : Int)) : ex d m pc ls (.int a :: st) G I = if a < 0 then ex d m t ls st G I else ex d m (pc + 3) ls st G I := by
  by_cases hc : a < 0
  · have e1 : ex d m pc ls (.int a :: st) G I = ex d m t ls st G I := ex_nx h (by simp only [stepI, ht, Int.toNat_natCast, if_pos (Int.natCast_nonneg t), br, if_pos hc])
    rw [e1]
    rw [if_pos hc]
  · have e1 : ex d m pc ls (.int a :: st) G I = ex d m (pc + 3) ls st G I := ex_nx h (by simp only [stepI, ht, Int.toNat_natCast, if_pos (Int.natCast_nonneg t), br, if_neg hc])
    rw [e1]
    rw [if_neg hc]
theorem e_ic_lt {a b : Int32} {off : Int} {t : Nat} (h : lk (mCd m) pc = some (.if_icmp .lt off, 3)) (ht : (pc : Int) + off = (t : Int)) : ex d m pc ls (.int b :: .int a :: st) G I = if a < b then ex d m t ls st G I else ex d m (pc + 3) ls st G I := by
  by_cases hc : a < b
  · have e1 : ex d m pc ls (.int b :: .int a :: st) G I = ex d m t ls st G I := ex_nx h (by simp only [stepI, ht, Int.toNat_natCast, if_pos (Int.natCast_nonneg t), br, if_pos hc])
    rw [e1]
    rw [if_pos hc]
  · have e1 : ex d m pc ls (.int b :: .int a :: st) G I = ex d m (pc + 3) ls st G I := ex_nx h (by simp only [stepI, ht, Int.toNat_natCast, if_pos (Int.natCast_nonneg t), br, if_neg hc])
    rw [e1]
    rw [if_neg hc]
theorem e_if_ge {a : Int32} {off : Int} {t : Nat} (h : lk (mCd m) pc = some (.ifCond .ge off, 3)) (ht : (pc : Int) + off = (t : Int)) : ex d m pc ls (.int a :: st) G I = if a < 0 then ex d m (pc + 3) ls st G I else ex d m t ls st G I := by
  by_cases hc : 0 ≤ a
  · have e1 : ex d m pc ls (.int a :: st) G I = ex d m t ls st G I := ex_nx h (by simp only [stepI, ht, Int.toNat_natCast, if_pos (Int.natCast_nonneg t), br, if_pos hc])
    rw [e1]
    rw [if_neg (Int32.not_lt.mpr hc)]
  · have e1 : ex d m pc ls (.int a :: st) G I = ex d m (pc + 3) ls st G I := ex_nx h (by simp only [stepI, ht, Int.toNat_natCast, if_pos (Int.natCast_nonneg t), br, if_neg hc])
    rw [e1]
    rw [if_pos (Int32.not_le.mp hc)]
theorem e_ic_ge {a b : Int32} {off : Int} {t : Nat} (h : lk (mCd m) pc = some (.if_icmp .ge off, 3)) (ht : (pc : Int) + off = (t : Int)) : ex d m pc ls (.int b :: .int a :: st) G I = if a < b then ex d m (pc + 3) ls st G I else ex d m t ls st G I := by
  by_cases hc : b ≤ a
  · have e1 : ex d m pc ls (.int b :: .int a :: st) G I = ex d m t ls st G I := ex_nx h (by simp only [stepI, ht, Int.toNat_natCast, if_pos (Int.natCast_nonneg t), br, if_pos hc])
    rw [e1]
    rw [if_neg (Int32.not_lt.mpr hc)]
  · have e1 : ex d m pc ls (.int b :: .int a :: st) G I = ex d m (pc + 3) ls st G I := ex_nx h (by simp only [stepI, ht, Int.toNat_natCast, if_pos (Int.natCast_nonneg t), br, if_neg hc])
    rw [e1]
    rw [if_pos (Int32.not_le.mp hc)]
theorem e_if_gt {a : Int32} {off : Int} {t : Nat} (h : lk (mCd m) pc = some (.ifCond .gt off, 3)) (ht : (pc : Int) + off = (t : Int)) : ex d m pc ls (.int a :: st) G I = if a ≤ 0 then ex d m (pc + 3) ls st G I else ex d m t ls st G I := by
  by_cases hc : 0 < a
  · have e1 : ex d m pc ls (.int a :: st) G I = ex d m t ls st G I := ex_nx h (by simp only [stepI, ht, Int.toNat_natCast, if_pos (Int.natCast_nonneg t), br, if_pos hc])
    rw [e1]
    rw [if_neg (Int32.not_le.mpr hc)]
  · have e1 : ex d m pc ls (.int a :: st) G I = ex d m (pc + 3) ls st G I := ex_nx h (by simp only [stepI, ht, Int.toNat_natCast, if_pos (Int.natCast_nonneg t), br, if_neg hc])
    rw [e1]
    rw [if_pos (Int32.not_lt.mp hc)]
theorem e_ic_gt {a b : Int32} {off : Int} {t : Nat} (h : lk (mCd m) pc = some (.if_icmp .gt off, 3)) (ht : (pc : Int) + off = (t : Int)) : ex d m pc ls (.int b :: .int a :: st) G I = if a ≤ b then ex d m (pc + 3) ls st G I else ex d m t ls st G I := by
  by_cases hc : b < a
  · have e1 : ex d m pc ls (.int b :: .int a :: st) G I = ex d m t ls st G I := ex_nx h (by simp only [stepI, ht, Int.toNat_natCast, if_pos (Int.natCast_nonneg t), br, if_pos hc])
    rw [e1]
    rw [if_neg (Int32.not_le.mpr hc)]
  · have e1 : ex d m pc ls (.int b :: .int a :: st) G I = ex d m (pc + 3) ls st G I := ex_nx h (by simp only [stepI, ht, Int.toNat_natCast, if_pos (Int.natCast_nonneg t), br, if_neg hc])
    rw [e1]
    rw [if_pos (Int32.not_lt.mp hc)]
theorem e_if_le {a : Int32} {off : Int} {t : Nat} (h : lk (mCd m) pc = some (.ifCond .le off, 3)) (ht : (pc : Int) + off = (t : Int)) : ex d m pc ls (.int a :: st) G I = if a ≤ 0 then ex d m t ls st G I else ex d m (pc + 3) ls st G I := by
  by_cases hc : a ≤ 0
  · have e1 : ex d m pc ls (.int a :: st) G I = ex d m t ls st G I := ex_nx h (by simp only [stepI, ht, Int.toNat_natCast, if_pos (Int.natCast_nonneg t), br, if_pos hc])
    rw [e1]
    rw [if_pos hc]
  · have e1 : ex d m pc ls (.int a :: st) G I = ex d m (pc + 3) ls st G I := ex_nx h (by simp only [stepI, ht, Int.toNat_natCast, if_pos (Int.natCast_nonneg t), br, if_neg hc])
    rw [e1]
    rw [if_neg hc]
theorem e_ic_le {a b : Int32} {off : Int} {t : Nat} (h : lk (mCd m) pc = some (.if_icmp .le off, 3)) (ht : (pc : Int) + off = (t : Int)) : ex d m pc ls (.int b :: .int a :: st) G I = if a ≤ b then ex d m t ls st G I else ex d m (pc + 3) ls st G I := by
  by_cases hc : a ≤ b
  · have e1 : ex d m pc ls (.int b :: .int a :: st) G I = ex d m t ls st G I := ex_nx h (by simp only [stepI, ht, Int.toNat_natCast, if_pos (Int.natCast_nonneg t), br, if_pos hc])
    rw [e1]
    rw [if_pos hc]
  · have e1 : ex d m pc ls (.int b :: .int a :: st) G I = ex d m (pc + 3) ls st G I := ex_nx h (by simp only [stepI, ht, Int.toNat_natCast, if_pos (Int.natCast_nonneg t), br, if_neg hc])
    rw [e1]
    rw [if_neg hc]
theorem e_nullR {a : Nat} {off : Int} (h : lk (mCd m) pc = some (.ifnull off, 3)) : ex d m pc ls (.ref a :: st) G I = ex d m (pc + 3) ls st G I := ex_nx h rfl
theorem e_nullN {off : Int} {t : Nat} (h : lk (mCd m) pc = some (.ifnull off, 3)) (ht : (pc : Int) + off = (t : Int)) : ex d m pc ls (.null :: st) G I = ex d m t ls st G I := ex_nx h (by simp only [stepI, jmp, ht, Int.toNat_natCast, if_pos (Int.natCast_nonneg t)])
theorem e_nonnR {a : Nat} {off : Int} {t : Nat} (h : lk (mCd m) pc = some (.ifnonnull off, 3)) (ht : (pc : Int) + off = (t : Int)) : ex d m pc ls (.ref a :: st) G I = ex d m t ls st G I := ex_nx h (by simp only [stepI, jmp, ht, Int.toNat_natCast, if_pos (Int.natCast_nonneg t)])
theorem e_nonnN {off : Int} (h : lk (mCd m) pc = some (.ifnonnull off, 3)) : ex d m pc ls (.null :: st) G I = ex d m (pc + 3) ls st G I := ex_nx h rfl
/-- where a table leads -/
noncomputable def tsw (d : Nat) (m : MD) (pc : Nat) (ls : List Slot) (st : List Value) (G : Gm) (I : Im) (dd lo hi : Int) (offs : Array Int) (x : Int32) : Option Rs :=
  if x.toInt < lo ∨ hi < x.toInt then ex d m ((pc : Int) + dd).toNat ls st G I else match offs[(x.toInt - lo).toNat]? with
    | some off => ex d m ((pc : Int) + off).toNat ls st G I
    | none => none
theorem e_tsw {dd lo hi : Int} {offs : Array Int} {len : Nat} {x : Int32} (h : lk (mCd m) pc = some (.tableswitch dd lo hi offs, len)) (h0 : 0 ≤ (pc : Int) + dd) (h1 : offs.all (fun off => decide (0 ≤ (pc : Int) + off)) = true) : ex d m pc ls (.int x :: st) G I = tsw d m pc ls st G I dd lo hi offs x := by
  unfold tsw
  by_cases hc : x.toInt < lo ∨ hi < x.toInt
  · rw [if_pos hc]
    exact ex_nx h (by simp only [stepI, if_pos hc, jmp, if_pos h0])
  · rw [if_neg hc]
    cases ho : offs[(x.toInt - lo).toNat]? with
    | some off =>
      have hm : 0 ≤ (pc : Int) + off := by
        obtain ⟨hl, hv⟩ := Array.getElem?_eq_some_iff.mp ho
        have h2 := Array.all_eq_true.mp h1 _ hl
        rw [hv] at h2
        exact of_decide_eq_true h2
      exact ex_nx h (by simp only [stepI, if_neg hc, ho, jmp, if_pos hm])
    | none =>
      rw [ex_go h]
      simp only [stepI, if_neg hc, ho]
      rfl
theorem e_getI {i ci k a : Nat} {z : Bool × Nat} (h : lk (mCd m) pc = some (.getfield i, 3)) (hq : fR (mOwn m) i = some (ci, k, z)) (hk : k < nFd ci) (hy : tyKd (tFd ci k) = 0) (ht : gT G a = (10 + ci, nFd ci)) : ex d m pc ls (.ref a :: st) G I = ex d m (pc + 3) ls (.int (I a k) :: st) G I :=
  ex_nx h (by simp only [stepI, oGet, hq]; rw [if_pos ⟨ht, hk, by omega⟩, hy]; rfl)
theorem e_getJ {i ci k a : Nat} {z : Bool × Nat} (h : lk (mCd m) pc = some (.getfield i, 3)) (hq : fR (mOwn m) i = some (ci, k, z)) (hk : k < nFd ci) (hy : tyKd (tFd ci k) = 1) (ht : gT G a = (10 + ci, nFd ci)) : ex d m pc ls (.ref a :: st) G I = ex d m (pc + 3) ls (.long (gJ G a k) :: st) G I :=
  ex_nx h (by simp only [stepI, oGet, hq]; rw [if_pos ⟨ht, hk, by omega⟩, hy]; rfl)
theorem e_getR {i ci k a : Nat} {z : Bool × Nat} (h : lk (mCd m) pc = some (.getfield i, 3)) (hq : fR (mOwn m) i = some (ci, k, z)) (hk : k < nFd ci) (hy : tyKd (tFd ci k) = 2) (ht : gT G a = (10 + ci, nFd ci)) : ex d m pc ls (.ref a :: st) G I = ex d m (pc + 3) ls (ofR (gR G a k) :: st) G I :=
  ex_nx h (by simp only [stepI, oGet, hq]; rw [if_pos ⟨ht, hk, by omega⟩, hy]; rfl)
/-- 0 or 1 -/
def isB (x : Int32) : Bool := x == 0 || x == 1
theorem isB_nf {x : Int32} (h : isB x = true) : narrow .boolean (.int x) = .int x ∧ fits .boolean (.int x) = true := by
  unfold isB at h
  rcases Bool.or_eq_true _ _ ▸ h with h | h <;> (rw [beq_iff_eq] at h; subst h; exact ⟨by decide, by decide⟩)
theorem isB_0 : isB (nI 0) = true := by decide
theorem isB_1 : isB (nI 1) = true := by decide
theorem isB_ite {c : Prop} [Decidable c] {x y : Int32} (hx : isB x = true) (hy : isB y = true) : isB (if c then x else y) = true := by split <;> assumption
theorem e_putI {i ci k a : Nat} {z : Bool × Nat} {x : Int32} (h : lk (mCd m) pc = some (.putfield i, 3)) (hq : fR (mOwn m) i = some (ci, k, z)) (hk : k < nFd ci) (hy : tFd ci k = .int) (hf : fFd ci k = false ∨ ((mNm m).name = "<init>" ∧ mOwn m = ci)) (ht : gT G a = (10 + ci, nFd ci)) : ex d m pc ls (.int x :: .ref a :: st) G I = ex d m (pc + 3) ls st G (s2 I a k x) :=
  ex_nx h (by simp only [stepI, oPut, hq]; rw [if_pos ⟨ht, hk, hf⟩, hy, if_pos ⟨rfl, rfl, rfl⟩])
theorem e_putZ {i ci k a : Nat} {z : Bool × Nat} {x : Int32} (h : lk (mCd m) pc = some (.putfield i, 3)) (hq : fR (mOwn m) i = some (ci, k, z)) (hk : k < nFd ci) (hy : tFd ci k = .boolean) (hf : fFd ci k = false ∨ ((mNm m).name = "<init>" ∧ mOwn m = ci)) (ht : gT G a = (10 + ci, nFd ci)) (hx : isB x = true) : ex d m pc ls (.int x :: .ref a :: st) G I = ex d m (pc + 3) ls st G (s2 I a k x) :=
  ex_nx h (by simp only [stepI, oPut, hq]; rw [if_pos ⟨ht, hk, hf⟩, hy, if_pos ⟨rfl, (isB_nf hx).1, (isB_nf hx).2⟩])
theorem e_putJ {i ci k a : Nat} {z : Bool × Nat} {x : Int64} (h : lk (mCd m) pc = some (.putfield i, 3)) (hq : fR (mOwn m) i = some (ci, k, z)) (hk : k < nFd ci) (hy : tFd ci k = .long) (hf : fFd ci k = false ∨ ((mNm m).name = "<init>" ∧ mOwn m = ci)) (ht : gT G a = (10 + ci, nFd ci)) : ex d m pc ls (.long x :: .ref a :: st) G I = ex d m (pc + 3) ls st (gSetJ G a k x) I :=
  ex_nxG h (by simp only [stepI, oPut, hq]; rw [if_pos ⟨ht, hk, hf⟩, if_pos hy]) ⟨Nat.le_refl _, Nat.le_refl _⟩
theorem e_putR {i ci k a b : Nat} {z : Bool × Nat} (h : lk (mCd m) pc = some (.putfield i, 3)) (hq : fR (mOwn m) i = some (ci, k, z)) (hk : k < nFd ci) (hy : tyKd (tFd ci k) = 2) (hf : fFd ci k = false ∨ ((mNm m).name = "<init>" ∧ mOwn m = ci)) (ht : gT G a = (10 + ci, nFd ci)) : ex d m pc ls (.ref b :: .ref a :: st) G I = ex d m (pc + 3) ls st (gSetR G a k (some b)) I :=
  ex_nxG h (by simp only [stepI, oPut, hq]; rw [if_pos ⟨ht, hk, hf⟩, if_pos hy]) ⟨Nat.le_refl _, Nat.le_refl _⟩
theorem e_iald {a : Nat} {i : Int32} (h : lk (mCd m) pc = some (.iaload, 1)) (ht : (gT G a).1 = 0) (hi : inb i (gT G a).2 = true) : ex d m pc ls (.int i :: .ref a :: st) G I = ex d m (pc + 1) ls (.int (I a i.toNatClampNeg) :: st) G I :=
  ex_nx h (by simp only [stepI, oAld]; rw [if_pos ⟨by rw [ht]; rfl, hi⟩, ht]; rfl)
theorem e_bald {a : Nat} {i : Int32} (h : lk (mCd m) pc = some (.baload, 1)) (ht : ((gT G a).1 == 1 || (gT G a).1 == 2) = true) (hi : inb i (gT G a).2 = true) : ex d m pc ls (.int i :: .ref a :: st) G I = ex d m (pc + 1) ls (.int (I a i.toNatClampNeg) :: st) G I :=
  ex_nx h (by
    simp only [stepI, oAld]
    rw [if_pos ⟨ht, hi⟩]
    have h2 : (gT G a).1 ≤ 2 := by
      rcases Bool.or_eq_true _ _ ▸ ht with q | q <;> (rw [beq_iff_eq] at q; omega)
    rw [if_pos h2]
    rfl)
theorem e_lald {a : Nat} {i : Int32} (h : lk (mCd m) pc = some (.laload, 1)) (ht : (gT G a).1 = 3) (hi : inb i (gT G a).2 = true) : ex d m pc ls (.int i :: .ref a :: st) G I = ex d m (pc + 1) ls (.long (gJ G a i.toNatClampNeg) :: st) G I :=
  ex_nx h (by simp only [stepI, oAld]; rw [if_pos ⟨by rw [ht]; rfl, hi⟩, ht]; rfl)
theorem e_aald {a : Nat} {i : Int32} (h : lk (mCd m) pc = some (.aaload, 1)) (ht : ((gT G a).1 == 4 || (gT G a).1 == 5) = true) (hi : inb i (gT G a).2 = true) : ex d m pc ls (.int i :: .ref a :: st) G I = ex d m (pc + 1) ls (ofR (gR G a i.toNatClampNeg) :: st) G I :=
  ex_nx h (by
    simp only [stepI, oAld]
    rw [if_pos ⟨ht, hi⟩]
    have h2 : ¬ (gT G a).1 ≤ 2 ∧ ¬ (gT G a).1 = 3 := by
      rcases Bool.or_eq_true _ _ ▸ ht with q | q <;> (rw [beq_iff_eq] at q; omega)
    rw [if_neg h2.1, if_neg h2.2]
    rfl)
theorem e_iast {a : Nat} {i x : Int32} (h : lk (mCd m) pc = some (.iastore, 1)) (ht : (gT G a).1 = 0) (hi : inb i (gT G a).2 = true) : ex d m pc ls (.int x :: .int i :: .ref a :: st) G I = ex d m (pc + 1) ls st G (s2 I a i.toNatClampNeg x) :=
  ex_nx h (by simp only [stepI, oAst]; rw [if_pos ⟨by rw [ht]; rfl, hi⟩, if_pos ht])
theorem e_bast {a : Nat} {i x : Int32} (h : lk (mCd m) pc = some (.bastore, 1)) (ht : (gT G a).1 = 1) (hi : inb i (gT G a).2 = true) : ex d m pc ls (.int x :: .int i :: .ref a :: st) G I = ex d m (pc + 1) ls st G (s2 I a i.toNatClampNeg x.toInt8.toInt32) :=
  ex_nx h (by simp only [stepI, oAst]; rw [if_pos ⟨by rw [ht]; rfl, hi⟩, if_neg (by omega), if_pos ht]; rfl)
theorem e_zast {a : Nat} {i x : Int32} (h : lk (mCd m) pc = some (.bastore, 1)) (ht : (gT G a).1 = 2) (hi : inb i (gT G a).2 = true) (hx : isB x = true) : ex d m pc ls (.int x :: .int i :: .ref a :: st) G I = ex d m (pc + 1) ls st G (s2 I a i.toNatClampNeg x) :=
  ex_nx h (by
    simp only [stepI, oAst]
    rw [if_pos ⟨by rw [ht]; rfl, hi⟩, if_neg (by omega), if_neg (by omega), if_pos ht]
    have e : vp_nar .boolean x = x := by unfold vp_nar; rw [(isB_nf hx).1]
    rw [e])
theorem e_last {a : Nat} {i : Int32} {x : Int64} (h : lk (mCd m) pc = some (.lastore, 1)) (ht : (gT G a).1 = 3) (hi : inb i (gT G a).2 = true) : ex d m pc ls (.long x :: .int i :: .ref a :: st) G I = ex d m (pc + 1) ls st (gSetJ G a i.toNatClampNeg x) I :=
  ex_nxG h (by simp only [stepI, oAst]; rw [if_pos ⟨by rw [ht]; rfl, hi⟩, if_pos ht]) ⟨Nat.le_refl _, Nat.le_refl _⟩
theorem e_aast {a b : Nat} {i : Int32} (h : lk (mCd m) pc = some (.aastore, 1)) (ht : (gT G a).1 = 4) (hi : inb i (gT G a).2 = true) (hb : gT G b = (16, nFd 6)) : ex d m pc ls (.ref b :: .int i :: .ref a :: st) G I = ex d m (pc + 1) ls st (gSetR G a i.toNatClampNeg (some b)) I :=
  ex_nxG h (by simp only [stepI, oAst]; rw [if_pos ⟨by rw [ht]; rfl, hi⟩, if_pos ⟨ht, hb⟩]) ⟨Nat.le_refl _, Nat.le_refl _⟩
theorem e_new {i ci wi : Nat} (h : lk (mCd m) pc = some (.new i, 3)) (hq : nR (mOwn m) i = some (ci, wi)) : ex d m pc ls st G I = ex d m (pc + 3) ls (.ref (gN G) :: st) (gNew G (10 + ci, nFd ci)) (iNew I (gN G)) :=
  ex_nxG h (by simp only [stepI, hq]) ⟨Nat.le_succ _, Nat.le_add_right _ _⟩
theorem e_newA {t : ArrayType} {z : Int32} (h : lk (mCd m) pc = some (.newarray t, 2)) (hk : kArr t ≤ 4) (h0 : ¬ z < 0) (h1 : z.toNatClampNeg ≤ 100000) : ex d m pc ls (.int z :: st) G I = ex d m (pc + 2) ls (.ref (gN G) :: st) (gNew G (kArr t, z.toNatClampNeg)) (iNew I (gN G)) :=
  ex_nxG h (by simp only [stepI, oNewA]; rw [if_pos ⟨hk, h0, h1⟩]) ⟨Nat.le_succ _, Nat.le_add_right _ _⟩
theorem e_anew {i wi : Nat} {z : Int32} (h : lk (mCd m) pc = some (.anewarray i, 3)) (hq : aR (mOwn m) i = some wi) (h0 : ¬ z < 0) (h1 : z.toNatClampNeg ≤ 100000) : ex d m pc ls (.int z :: st) G I = ex d m (pc + 3) ls (.ref (gN G) :: st) (gNew G (4, z.toNatClampNeg)) (iNew I (gN G)) :=
  ex_nxG h (by simp only [stepI, hq]; rw [if_pos (show (some wi).isSome = true from rfl)]; unfold oNewA; dsimp only; rw [if_pos ⟨by omega, h0, h1⟩]) ⟨Nat.le_succ _, Nat.le_add_right _ _⟩
theorem e_mnew {i wi : Nat} {k z : Int32} (h : lk (mCd m) pc = some (.multianewarray i 2, 4)) (hq : mR (mOwn m) i = some wi) (h0 : ¬ z < 0) (h1 : ¬ k < 0) (h2 : z.toNatClampNeg ≤ 100000) (h3 : k.toNatClampNeg ≤ 100000) : ex d m pc ls (.int k :: .int z :: st) G I = ex d m (pc + 4) ls (.ref (gN G) :: st) (gMul G z.toNatClampNeg k.toNatClampNeg) (iMul G I z.toNatClampNeg) :=
  ex_nxG h (by simp only [stepI, hq]; unfold oMul; dsimp only; rw [if_pos ⟨rfl, h0, h1, h2, h3⟩]) ⟨by show gN G ≤ gN G + 1 + _; omega, by show gS G ≤ gS G + _ + _; omega⟩
theorem e_invV {i wi : Nat} {nest : Bool} {m' : MD} {b : Nat} {As rest : List Value} (h : lk (mCd m) pc = some (.invokevirtual i, 3)) (hj : jR (mOwn m) i = none) (hc : cR (mOwn m) i = some (nest, m', wi)) (hso : mSo m' = 0) (hst : st = (Value.ref b :: As).reverse ++ rest) (hal : mArg m' = As.length + 1) (hz : (lg_sl (Value.ref b :: As)).length ≤ mMax m') (hsum : (rest.map fun v => v.category).sum ≤ 8) (hb : gT G b = (10 + mOwn m', nFd (mOwn m'))) :
    ex (d + 1) m pc ls st G I = cK (run d m' (.ref b :: As) G I) (fun r => ex (d + 1) m (pc + 3) ls (r.1.toList ++ rest) r.2.1 r.2.2) := by
  have hl : ((Value.ref b :: As).reverse).length = mArg m' := by rw [List.length_reverse, hal]; rfl
  have ht : st.take (mArg m') = (Value.ref b :: As).reverse := by rw [hst, ← hl, List.take_left]
  have hd : st.drop (mArg m') = rest := by rw [hst, ← hl, List.drop_left]
  refine ex_cl h rfl hz ?_
  simp only [stepI, hj, hc, oCall]
  rw [if_pos ⟨hso, by rw [hst, List.length_append, hl]; omega, by rw [hd]; exact hsum, Or.inr (by rw [ht, List.reverse_reverse]; unfold rcv; dsimp only; rw [hb]; simp)⟩, ht, hd, List.reverse_reverse]
theorem e_invI {i wi : Nat} {nest : Bool} {m' : MD} {b : Nat} {As rest : List Value} (h : lk (mCd m) pc = some (.invokespecial i, 3)) (hj : jR (mOwn m) i = none) (hc : cR (mOwn m) i = some (nest, m', wi)) (hso : mSo m' = 1) (hst : st = (Value.ref b :: As).reverse ++ rest) (hal : mArg m' = As.length + 1) (hz : (lg_sl (Value.ref b :: As)).length ≤ mMax m') (hsum : (rest.map fun v => v.category).sum ≤ 8) :
    ex (d + 1) m pc ls st G I = cK (run d m' (.ref b :: As) G I) (fun r => ex (d + 1) m (pc + 3) ls (r.1.toList ++ rest) r.2.1 r.2.2) := by
  have hl : ((Value.ref b :: As).reverse).length = mArg m' := by rw [List.length_reverse, hal]; rfl
  have ht : st.take (mArg m') = (Value.ref b :: As).reverse := by rw [hst, ← hl, List.take_left]
  have hd : st.drop (mArg m') = rest := by rw [hst, ← hl, List.drop_left]
  refine ex_cl h rfl hz ?_
  simp only [stepI, hj, hc, oCall]
  rw [if_pos ⟨hso, by rw [hst, List.length_append, hl]; omega, by rw [hd]; exact hsum, Or.inr (by rw [ht, List.reverse_reverse]; unfold rcv; dsimp only; rfl)⟩, ht, hd, List.reverse_reverse]
theorem e_invS {i wi : Nat} {nest : Bool} {m' : MD} {As rest : List Value} (h : lk (mCd m) pc = some (.invokestatic i, 3)) (hj : jR (mOwn m) i = none) (hc : cR (mOwn m) i = some (nest, m', wi)) (hso : mSo m' = 2) (hst : st = As.reverse ++ rest) (hal : mArg m' = As.length) (hz : (lg_sl As).length ≤ mMax m') (hsum : (rest.map fun v => v.category).sum ≤ 8) :
    ex (d + 1) m pc ls st G I = cK (run d m' As G I) (fun r => ex (d + 1) m (pc + 3) ls (r.1.toList ++ rest) r.2.1 r.2.2) := by
  have hl : (As.reverse).length = mArg m' := by rw [List.length_reverse, hal]
  have ht : st.take (mArg m') = As.reverse := by rw [hst, ← hl, List.take_left]
  have hd : st.drop (mArg m') = rest := by rw [hst, ← hl, List.drop_left]
  refine ex_cl h rfl hz ?_
  simp only [stepI, hj, hc, oCall]
  rw [if_pos ⟨hso, by rw [hst, List.length_append, hl]; omega, by rw [hd]; exact hsum, Or.inl (by first | rfl | trivial)⟩, ht, hd, List.reverse_reverse]
theorem e_objI {i wi a : Nat} (h : lk (mCd m) pc = some (.invokespecial i, 3)) (hj : jR (mOwn m) i = some (0, wi)) (hs : (st.map fun v => v.category).sum ≤ 8) : ex d m pc ls (.ref a :: st) G I = ex d m (pc + 3) ls st G I := ex_nx h (by simp only [stepI, hj, oJdk, if_pos hs])
theorem e_max {i wi : Nat} {y z : Int32} (h : lk (mCd m) pc = some (.invokestatic i, 3)) (hj : jR (mOwn m) i = some (1, wi)) (hs : (st.map fun v => v.category).sum ≤ 8) : ex d m pc ls (.int y :: .int z :: st) G I = ex d m (pc + 3) ls (.int (if z < y then y else z) :: st) G I := ex_nx h (by simp only [stepI, hj, oJdk, if_pos hs])
theorem e_min {i wi : Nat} {y z : Int32} (h : lk (mCd m) pc = some (.invokestatic i, 3)) (hj : jR (mOwn m) i = some (2, wi)) (hs : (st.map fun v => v.category).sum ≤ 8) : ex d m pc ls (.int y :: .int z :: st) G I = ex d m (pc + 3) ls (.int (if y < z then y else z) :: st) G I := ex_nx h (by simp only [stepI, hj, oJdk, if_pos hs])
theorem e_cpy {i wi a b : Nat} {k dp sp : Int32} (h : lk (mCd m) pc = some (.invokestatic i, 3)) (hj : jR (mOwn m) i = some (3, wi)) (hs : (st.map fun v => v.category).sum ≤ 8) (ha : (gT G a).1 = 0) (hb : (gT G b).1 = 0) (hab : ¬ a = b) (h1 : ¬ sp < 0) (h2 : ¬ dp < 0) (h3 : ¬ k < 0) (h4 : sp.toNatClampNeg + k.toNatClampNeg ≤ (gT G a).2) (h5 : dp.toNatClampNeg + k.toNatClampNeg ≤ (gT G b).2) :
    ex d m pc ls (.int k :: .int dp :: .ref b :: .int sp :: .ref a :: st) G I = ex d m (pc + 3) ls st G (s1 I b (va_cpy (I a) (I b) sp.toNatClampNeg dp.toNatClampNeg k.toNatClampNeg)) := ex_nx h (by simp only [stepI, hj, oJdk]; rw [if_pos ⟨hs, ha, hb, hab, h1, h2, h3, h4, h5⟩])
theorem e_slen {i wi a : Nat} {t : List Int32} (h : lk (mCd m) pc = some (.invokevirtual i, 3)) (hj : jR (mOwn m) i = some (4, wi)) (hs : (st.map fun v => v.category).sum ≤ 8) (ht : strB a = some t) : ex d m pc ls (.ref a :: st) G I = ex d m (pc + 3) ls (.int (nI t.length) :: st) G I := ex_nx h (by simp only [stepI, hj, oJdk, ht, if_pos hs])
theorem e_sch {i wi a : Nat} {j : Int32} {t : List Int32} (h : lk (mCd m) pc = some (.invokevirtual i, 3)) (hj : jR (mOwn m) i = some (5, wi)) (hs : (st.map fun v => v.category).sum ≤ 8) (ht : strB a = some t) (hi : inb j t.length = true) : ex d m pc ls (.int j :: .ref a :: st) G I = ex d m (pc + 3) ls (.int (t.getD j.toNatClampNeg 0) :: st) G I := ex_nx h (by simp only [stepI, hj, oJdk, ht]; rw [if_pos ⟨hs, hi⟩])
theorem e_iret {x : Int32} (h : lk (mCd m) pc = some (.ireturn, 1)) (hr : mRet m = some .int) : ex d m pc ls [.int x] G I = some (some (.int x), G, I) := ex_rt h rfl (by simp only [stepI, hr]; rw [if_pos ⟨rfl, rfl⟩])
theorem e_zret {x : Int32} (h : lk (mCd m) pc = some (.ireturn, 1)) (hr : mRet m = some .boolean) (hx : isB x = true) : ex d m pc ls [.int x] G I = some (some (.int x), G, I) := ex_rt h rfl (by simp only [stepI, hr]; rw [if_pos ⟨rfl, (isB_nf hx).1⟩])
theorem e_lret {x : Int64} (h : lk (mCd m) pc = some (.lreturn, 1)) (hr : mRet m = some .long) : ex d m pc ls [.long x] G I = some (some (.long x), G, I) := ex_rt h rfl (by simp only [stepI, hr])
theorem e_aret {x : Nat} {nm : String} (h : lk (mCd m) pc = some (.areturn, 1)) (hr : mRet m = some (.object nm)) : ex d m pc ls [.ref x] G I = some (some (.ref x), G, I) := ex_rt h rfl (by simp only [stepI, hr])
theorem e_vret (h : lk (mCd m) pc = some (.return_, 1)) (hr : mRet m = none) : ex d m pc ls [] G I = some (none, G, I) := ex_rt h rfl (by simp only [stepI, hr])
end XR
