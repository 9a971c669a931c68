/-! the step by instruction; the run -/
def stepI (m : MD) (pc len : Nat) (ins : Instr) (ls : List Slot) (st : List Value) (G : Gm) (I : Im) : Option Out := match ins with
  | .iconst i => nx (pc + len) ls (.int (Int32.ofInt i) :: st) G I
  | .bipush i => nx (pc + len) ls (.int ((Int8.ofInt i).toInt32) :: st) G I
  | .sipush i => nx (pc + len) ls (.int ((Int16.ofInt i).toInt32) :: st) G I
  | .lconst i => nx (pc + len) ls (.long (Int64.ofNat (i : Nat)) :: st) G I
  | .ldc i => match kR (mOwn m) i with
    | some v => nx (pc + len) ls (.int v.1 :: st) G I
    | none => match sR (mOwn m) i with
      | some a => nx (pc + len) ls (.ref (1000000 + a.1) :: st) G I
      | none => none
  | .ldc_w i => match kR (mOwn m) i with
    | some v => nx (pc + len) ls (.int v.1 :: st) G I
    | none => match sR (mOwn m) i with
      | some a => nx (pc + len) ls (.ref (1000000 + a.1) :: st) G I
      | none => none
  | .ldc2_w i => match lR (mOwn m) i with
    | some v => nx (pc + len) ls (.long v.1 :: st) G I
    | none => none
  | .iload i => oLd 0 i (pc + len) ls st G I
  | .lload i => oLd 1 i (pc + len) ls st G I
  | .aload i => oLd 2 i (pc + len) ls st G I
  | .iload_n i => oLd 0 (i : Nat) (pc + len) ls st G I
  | .lload_n i => oLd 1 (i : Nat) (pc + len) ls st G I
  | .aload_n i => oLd 2 (i : Nat) (pc + len) ls st G I
  | .istore i => oSt 0 i (pc + len) ls st G I
  | .lstore i => oSt 1 i (pc + len) ls st G I
  | .astore i => oSt 2 i (pc + len) ls st G I
  | .istore_n i => oSt 0 (i : Nat) (pc + len) ls st G I
  | .lstore_n i => oSt 1 (i : Nat) (pc + len) ls st G I
  | .astore_n i => oSt 2 (i : Nat) (pc + len) ls st G I
  | .iinc i n => match ls[i]? with
    | some (.val (.int x)) => match stL ls i (.int (x + Int32.ofInt n)) with
      | some ls' => nx (pc + len) ls' st G I
      | none => none
    | _ => none
  | .iadd => o2 (fun x y => x + y) (pc + len) ls st G I
  | .isub => o2 (fun x y => x - y) (pc + len) ls st G I
  | .imul => o2 (fun x y => x * y) (pc + len) ls st G I
  | .idiv => o2z (fun x y => x / y) (pc + len) ls st G I
  | .irem => o2z (fun x y => x - x / y * y) (pc + len) ls st G I
  | .iand => o2 (fun x y => x &&& y) (pc + len) ls st G I
  | .ior => o2 (fun x y => x ||| y) (pc + len) ls st G I
  | .ixor => o2 (fun x y => x ^^^ y) (pc + len) ls st G I
  | .ishl => o2 (fun x y => x <<< (y &&& 31)) (pc + len) ls st G I
  | .ishr => o2 (fun x y => x >>> (y &&& 31)) (pc + len) ls st G I
  | .ineg => match st with
    | .int x :: r => nx (pc + len) ls (.int (-x) :: r) G I
    | _ => none
  | .i2l => match st with
    | .int x :: r => nx (pc + len) ls (.long x.toInt64 :: r) G I
    | _ => none
  | .l2i => match st with
    | .long x :: r => nx (pc + len) ls (.int x.toInt32 :: r) G I
    | _ => none
  | .i2b => match st with
    | .int x :: r => nx (pc + len) ls (.int x.toInt8.toInt32 :: r) G I
    | _ => none
  | .ladd => o2l (fun x y => x + y) (pc + len) ls st G I
  | .lmul => o2l (fun x y => x * y) (pc + len) ls st G I
  | .lrem => match st with
    | .long y :: .long x :: r => if y = 0 then none else nx (pc + len) ls (.long (x - x / y * y) :: r) G I
    | _ => none
  | .lcmp => match st with
    | .long y :: .long x :: r => nx (pc + len) ls (.int (lg_cmp x y) :: r) G I
    | _ => none
  | .dup => match st with
    | .int x :: r => nx (pc + len) ls (.int x :: .int x :: r) G I
    | .ref x :: r => nx (pc + len) ls (.ref x :: .ref x :: r) G I
    | _ => none
  | .dup2 => match st with
    | .int y :: .ref x :: r => nx (pc + len) ls (.int y :: .ref x :: .int y :: .ref x :: r) G I
    | _ => none
  | .pop => match st with
    | .int _ :: r => nx (pc + len) ls r G I
    | .ref _ :: r => nx (pc + len) ls r G I
    | _ => none
  | .ifCond c off => match st with
    | .int x :: r => if 0 ≤ (pc : Int) + off then br c x 0 (nx ((pc : Int) + off).toNat ls r G I) (nx (pc + len) ls r G I) else none
    | _ => none
  | .if_icmp c off => match st with
    | .int y :: .int x :: r => if 0 ≤ (pc : Int) + off then br c x y (nx ((pc : Int) + off).toNat ls r G I) (nx (pc + len) ls r G I) else none
    | _ => none
  | .ifnull off => match st with
    | .null :: r => jmp pc off ls r G I
    | .ref _ :: r => nx (pc + len) ls r G I
    | _ => none
  | .ifnonnull off => match st with
    | .null :: r => nx (pc + len) ls r G I
    | .ref _ :: r => jmp pc off ls r G I
    | _ => none
  | .goto off => jmp pc off ls st G I
  | .tableswitch d lo hi offs => match st with
    | .int x :: r => if x.toInt < lo ∨ hi < x.toInt then jmp pc d ls r G I else match offs[(x.toInt - lo).toNat]? with
      | some off => jmp pc off ls r G I
      | none => none
    | _ => none
  | .getfield i => oGet (fR (mOwn m) i) nFd tFd (pc + len) ls st G I
  | .putfield i => oPut (fR (mOwn m) i) nFd tFd fFd m (pc + len) ls st G I
  | .iaload => oAld (fun t => t == 0) (pc + len) ls st G I
  | .baload => oAld (fun t => t == 1 || t == 2) (pc + len) ls st G I
  | .laload => oAld (fun t => t == 3) (pc + len) ls st G I
  | .aaload => oAld (fun t => t == 4 || t == 5) (pc + len) ls st G I
  | .iastore => oAst (fun t => t == 0) nFd (pc + len) ls st G I
  | .bastore => oAst (fun t => t == 1 || t == 2) nFd (pc + len) ls st G I
  | .lastore => oAst (fun t => t == 3) nFd (pc + len) ls st G I
  | .aastore => oAst (fun t => t == 4) nFd (pc + len) ls st G I
  | .new i => match nR (mOwn m) i with
    | some ci => nx (pc + len) ls (.ref (gN G) :: st) (gNew G (10 + ci.1, nFd ci.1)) (iNew I (gN G))
    | none => none
  | .newarray t => oNewA (kArr t) (pc + len) ls st G I
  | .anewarray i => if (aR (mOwn m) i).isSome = true then oNewA 4 (pc + len) ls st G I else none
  | .multianewarray i n => oMul ((mR (mOwn m) i).isSome && n == 2) (pc + len) ls st G I
  | .invokevirtual i => match jR (mOwn m) i with
    | some q => oJdk 0 (some q.1) strB (pc + len) ls st G I
    | none => oCall 0 (cR (mOwn m) i) nFd (pc + len) st G
  | .invokespecial i => match jR (mOwn m) i with
    | some q => oJdk 1 (some q.1) strB (pc + len) ls st G I
    | none => oCall 1 (cR (mOwn m) i) nFd (pc + len) st G
  | .invokestatic i => match jR (mOwn m) i with
    | some q => oJdk 2 (some q.1) strB (pc + len) ls st G I
    | none => oCall 2 (cR (mOwn m) i) nFd (pc + len) st G
  | .ireturn => match st, mRet m with
    | [.int x], some ty => if tyKd ty = 0 ∧ narrow ty (.int x) = .int x then some (.inr (.inl (some (.int x)))) else none
    | _, _ => none
  | .lreturn => match st, mRet m with
    | [.long x], some .long => some (.inr (.inl (some (.long x))))
    | _, _ => none
  | .areturn => match st, mRet m with
    | [.ref x], some (.object _) => some (.inr (.inl (some (.ref x))))
    | _, _ => none
  | .return_ => match st, mRet m with
    | [], none => some (.inr (.inl none))
    | _, _ => none
  | _ => none
/-- which instructions return, which call -/
def isRet (i : Instr) : Bool := match i with
  | .ireturn => true
  | .lreturn => true
  | .areturn => true
  | .return_ => true
  | _ => false
def isInv (i : Instr) : Bool := match i with
  | .invokevirtual _ => true
  | .invokespecial _ => true
  | .invokestatic _ => true
  | _ => false
/-- the locals with which a method begins -/
def entL (m : MD) (as : List Value) : List Slot := lg_sl as ++ List.replicate (mMax m - (lg_sl as).length) .unset
abbrev Rs : Type := Option Value × Gm × Im
/-- f: fuel; d: how deep calls may go -/
def exec : Nat → Nat → MD → Nat → List Slot → List Value → Gm → Im → Option Rs
  | 0, _, _, _, _, _, _, _ => none
  | f + 1, d, m, pc, ls, st, G, I => match lk (mCd m) pc with
    | none => none
    | some q => match stepI m pc q.2 q.1 ls st G I with
      | none => none
      | some (.inl n) => if gN G ≤ gN n.2.2.2.1 ∧ gS G ≤ gS n.2.2.2.1 then exec f d m n.1 n.2.1 n.2.2.1 n.2.2.2.1 n.2.2.2.2 else none
      | some (.inr (.inl r)) => if isRet q.1 = true then some (r, G, I) else none
      | some (.inr (.inr c)) => match d with
        | 0 => none
        | d' + 1 => if (lg_sl c.2.1).length ≤ mMax c.1 ∧ isInv q.1 = true then match exec f d' c.1 0 (entL c.1 c.2.1) [] G I with
          | none => none
          | some r => exec f (d' + 1) m c.2.2.2 ls (r.1.toList ++ c.2.2.1) r.2.1 r.2.2
          else none
theorem exec_up : ∀ (f d : Nat) (m : MD) (pc : Nat) (ls : List Slot) (st : List Value) (G : Gm) (I : Im) (r : Rs), exec f d m pc ls st G I = some r → exec (f + 1) d m pc ls st G I = some r := by
  intro f
  induction f with
  | zero => intro d m pc ls st G I r h; simp [exec] at h
  | succ f ih =>
    intro d m pc ls st G I r h
    rw [exec] at h ⊢
    cases hq : lk (mCd m) pc with
    | none => rw [hq] at h; simp at h
    | some q =>
      rw [hq] at h
      dsimp only at h ⊢
      cases hs : stepI m pc q.2 q.1 ls st G I with
      | none => rw [hs] at h; simp at h
      | some o =>
        rw [hs] at h
        rcases o with n | v | c
        · dsimp only at h ⊢
          by_cases hm : gN G ≤ gN n.2.2.2.1 ∧ gS G ≤ gS n.2.2.2.1
          · rw [if_pos hm] at h ⊢
            exact ih _ _ _ _ _ _ _ _ h
          · rw [if_neg hm] at h; simp at h
        · exact h
        · dsimp only at h ⊢
          cases d with
          | zero => simp at h
          | succ d =>
            dsimp only at h ⊢
            by_cases hz : (lg_sl c.2.1).length ≤ mMax c.1 ∧ isInv q.1 = true
            · rw [if_pos hz] at h ⊢
              cases hc : exec f d c.1 0 (entL c.1 c.2.1) [] G I with
              | none => rw [hc] at h; simp at h
              | some r1 =>
                rw [hc] at h
                rw [ih _ _ _ _ _ _ _ _ hc]
                exact ih _ _ _ _ _ _ _ _ h
            · rw [if_neg hz] at h; simp at h
theorem exec_le {f f' d : Nat} {m : MD} {pc : Nat} {ls : List Slot} {st : List Value} {G : Gm} {I : Im} {r : Rs} (h : exec f d m pc ls st G I = some r) (hf : f ≤ f') : exec f' d m pc ls st G I = some r := by
  obtain ⟨k, rfl⟩ := Nat.le.dest hf
  clear hf
  induction k with
  | zero => exact h
  | succ k ih => exact exec_up _ _ _ _ _ _ _ _ _ ih
/-- the run's answer, if there is one -/
noncomputable def ex (d : Nat) (m : MD) (pc : Nat) (ls : List Slot) (st : List Value) (G : Gm) (I : Im) : Option Rs :=
  have := Classical.propDecidable (∃ q : Nat × Rs, exec q.1 d m pc ls st G I = some q.2)
  if h : ∃ q : Nat × Rs, exec q.1 d m pc ls st G I = some q.2 then some (Classical.choose h).2 else none
theorem ex_of {f d : Nat} {m : MD} {pc : Nat} {ls : List Slot} {st : List Value} {G : Gm} {I : Im} {r : Rs} (h : exec f d m pc ls st G I = some r) : ex d m pc ls st G I = some r := by
  have hex : ∃ q : Nat × Rs, exec q.1 d m pc ls st G I = some q.2 := ⟨(f, r), h⟩
  unfold ex
  rw [dif_pos hex]
  have h2 := Classical.choose_spec hex
  generalize Classical.choose hex = q at h2
  have h3 := exec_le h2 (Nat.le_max_left q.1 f)
  have h4 := exec_le h (Nat.le_max_right q.1 f)
  rw [h3] at h4
  exact h4
theorem ex_some {d : Nat} {m : MD} {pc : Nat} {ls : List Slot} {st : List Value} {G : Gm} {I : Im} {r : Rs} (h : ex d m pc ls st G I = some r) : ∃ f, exec f d m pc ls st G I = some r := by
  unfold ex at h
  by_cases hex : ∃ q : Nat × Rs, exec q.1 d m pc ls st G I = some q.2
  · rw [dif_pos hex] at h
    have h2 := Classical.choose_spec hex
    cases h
    exact ⟨_, h2⟩
  · rw [dif_neg hex] at h
    cases h
theorem ex_none {d : Nat} {m : MD} {pc : Nat} {ls : List Slot} {st : List Value} {G : Gm} {I : Im} (h : ∀ f r, ¬ exec f d m pc ls st G I = some r) : ex d m pc ls st G I = none := by
  cases hx : ex d m pc ls st G I with
  | none => rfl
  | some r =>
    obtain ⟨f, hf⟩ := ex_some hx
    exact absurd hf (h f r)
/-- what follows a step -/
noncomputable def exO (ins : Instr) (d : Nat) (m : MD) (ls : List Slot) (G : Gm) (I : Im) (o : Option Out) : Option Rs := match o with
  | none => none
  | some (.inl n) => if gN G ≤ gN n.2.2.2.1 ∧ gS G ≤ gS n.2.2.2.1 then ex d m n.1 n.2.1 n.2.2.1 n.2.2.2.1 n.2.2.2.2 else none
  | some (.inr (.inl r)) => if isRet ins = true then some (r, G, I) else none
  | some (.inr (.inr c)) => match d with
    | 0 => none
    | d' + 1 => if (lg_sl c.2.1).length ≤ mMax c.1 ∧ isInv ins = true then match ex d' c.1 0 (entL c.1 c.2.1) [] G I with
      | none => none
      | some r => ex (d' + 1) m c.2.2.2 ls (r.1.toList ++ c.2.2.1) r.2.1 r.2.2
      else none
theorem ex_go {d : Nat} {m : MD} {pc : Nat} {ls : List Slot} {st : List Value} {G : Gm} {I : Im} {q : Instr × Nat} (hq : lk (mCd m) pc = some q) :
    ex d m pc ls st G I = exO q.1 d m ls G I (stepI m pc q.2 q.1 ls st G I) := by
  have hno : ∀ {f : Nat} {r : Rs}, exec f d m pc ls st G I = some r → ∃ f', f = f' + 1 := by
    intro f r h
    cases f with
    | zero => simp [exec] at h
    | succ f => exact ⟨f, rfl⟩
  cases hs : stepI m pc q.2 q.1 ls st G I with
  | none =>
    show _ = none
    refine ex_none fun f r h => ?_
    obtain ⟨f', rfl⟩ := hno h
    rw [exec, hq] at h
    dsimp only at h
    rw [hs] at h
    simp at h
  | some o =>
    rcases o with n | v | c
    · show _ = if gN G ≤ gN n.2.2.2.1 ∧ gS G ≤ gS n.2.2.2.1 then ex d m n.1 n.2.1 n.2.2.1 n.2.2.2.1 n.2.2.2.2 else none
      by_cases hm : gN G ≤ gN n.2.2.2.1 ∧ gS G ≤ gS n.2.2.2.1
      · rw [if_pos hm]
        cases hx : ex d m n.1 n.2.1 n.2.2.1 n.2.2.2.1 n.2.2.2.2 with
        | none =>
          refine ex_none fun f r h => ?_
          obtain ⟨f', rfl⟩ := hno h
          rw [exec, hq] at h
          dsimp only at h
          rw [hs] at h
          dsimp only at h
          rw [if_pos hm] at h
          have := ex_of h
          rw [hx] at this
          cases this
        | some r =>
          obtain ⟨f, hf⟩ := ex_some hx
          refine ex_of (f := f + 1) ?_
          rw [exec, hq]
          dsimp only
          rw [hs]
          dsimp only
          rw [if_pos hm]
          exact hf
      · rw [if_neg hm]
        refine ex_none fun f r h => ?_
        obtain ⟨f', rfl⟩ := hno h
        rw [exec, hq] at h
        dsimp only at h
        rw [hs] at h
        dsimp only at h
        rw [if_neg hm] at h
        simp at h
    · show _ = if isRet q.1 = true then some (v, G, I) else none
      by_cases hr : isRet q.1 = true
      · rw [if_pos hr]
        refine ex_of (f := 1) ?_
        rw [exec, hq]
        dsimp only
        rw [hs]
        dsimp only
        rw [if_pos hr]
      · rw [if_neg hr]
        refine ex_none fun f r h => ?_
        obtain ⟨f', rfl⟩ := hno h
        rw [exec, hq] at h
        dsimp only at h
        rw [hs] at h
        dsimp only at h
        rw [if_neg hr] at h
        simp at h
    · cases d with
      | zero =>
        show _ = none
        refine ex_none fun f r h => ?_
        obtain ⟨f', rfl⟩ := hno h
        rw [exec, hq] at h
        dsimp only at h
        rw [hs] at h
        simp at h
      | succ d =>
        show _ = if (lg_sl c.2.1).length ≤ mMax c.1 ∧ isInv q.1 = true then _ else none
        by_cases hz : (lg_sl c.2.1).length ≤ mMax c.1 ∧ isInv q.1 = true
        · rw [if_pos hz]
          cases hc : ex d c.1 0 (entL c.1 c.2.1) [] G I with
          | none =>
            refine ex_none fun f r h => ?_
            obtain ⟨f', rfl⟩ := hno h
            rw [exec, hq] at h
            dsimp only at h
            rw [hs] at h
            dsimp only at h
            rw [if_pos hz] at h
            cases hc2 : exec f' d c.1 0 (entL c.1 c.2.1) [] G I with
            | none => rw [hc2] at h; simp at h
            | some r1 =>
              have := ex_of hc2
              rw [hc] at this
              cases this
          | some r1 =>
            obtain ⟨f1, hf1⟩ := ex_some hc
            show _ = ex (d + 1) m c.2.2.2 ls (r1.1.toList ++ c.2.2.1) r1.2.1 r1.2.2
            cases hx : ex (d + 1) m c.2.2.2 ls (r1.1.toList ++ c.2.2.1) r1.2.1 r1.2.2 with
            | none =>
              refine ex_none fun f r h => ?_
              obtain ⟨f', rfl⟩ := hno h
              rw [exec, hq] at h
              dsimp only at h
              rw [hs] at h
              dsimp only at h
              rw [if_pos hz] at h
              cases hc2 : exec f' d c.1 0 (entL c.1 c.2.1) [] G I with
              | none => rw [hc2] at h; simp at h
              | some r2 =>
                have e := ex_of hc2
                rw [hc] at e
                cases e
                rw [hc2] at h
                have := ex_of h
                rw [hx] at this
                cases this
            | some r =>
              obtain ⟨f2, hf2⟩ := ex_some hx
              refine ex_of (f := max f1 f2 + 1) ?_
              rw [exec, hq]
              dsimp only
              rw [hs]
              dsimp only
              rw [if_pos hz, exec_le hf1 (Nat.le_max_left f1 f2)]
              exact exec_le hf2 (Nat.le_max_right f1 f2)
        · rw [if_neg hz]
          refine ex_none fun f r h => ?_
          obtain ⟨f', rfl⟩ := hno h
          rw [exec, hq] at h
          dsimp only at h
          rw [hs] at h
          dsimp only at h
          rw [if_neg hz] at h
          simp at h
