/-! calls, and the induction -/
theorem cWok {own i : Nat} {q : Bool × MD × Nat} (ho : own < 14) (h : cR own i = some q) : tables_1[q.2.2]? = some (cWd own i q) :=
  of_decide_eq_true (List.all_eq_true.mp (List.all_eq_true.mp cW_all own (List.mem_range.mpr ho)) _ (lk_mem h))
theorem oJdk_ninr {sort : Nat} {q : Option Nat} {pc : Nat} {ls : List Slot} {st : List Value} {G : Gm} {I : Im} {o : Option Value ⊕ (MD × List Value × List Value × Nat)} : ¬ oJdk sort q strB pc ls st G I = some (.inr o) := by
  intro h
  unfold oJdk nx at h
  split at h
  all_goals first
    | (cases h; done)
    | (split at h <;> first | (cases h; done) | (split at h <;> cases h))
theorem rcv_inv {as : List Value} {p : Nat → Bool} (h : rcv as p = true) : ∃ b As, as = .ref b :: As ∧ p b = true := by
  unfold rcv at h
  split at h
  · exact ⟨_, _, rfl, h⟩
  · cases h
theorem call_W {x : Cx} {l : Launch} {d mc ms MCn MSn : Nat} {m : MD} {pc : Nat} {ls : List Slot} {st : List Value} {G : Gm} {I : Im} {k : MD × List Value × List Value × Nat} {ins : Instr} {len : Nat} {r : Rs} {p : Program} {e : Env} {s : State} {mi : MethodId} {args : Array Value} {below : List Frame} {meth : Method} {c : Code} {H : Heap} {locs : List Loc} {cells slots : Nat} {arr : Array Slot} {Q : State → Prop}
    (C : MC x p s mi args meth c m) (hI : isInv ins = true) (hd : decode (mBy m) pc = .ok (ins, len)) (hln : lnI ins = 0 ∨ lnI ins = len) (h : stepI m pc len ins ls st G I = some (.inr (.inr k))) (hH : HM x G I H) (hL : LsR x ls arr (mMax m)) (hlo : ∀ q ∈ locs, xz x ≤ q.base)
    (hM : MOK k.1 → Met l (mNm k.1) (wsM k.1) (rmOf d mc ms) (PcM x k.2.1 G I) (QcM x r) mc ms (fun q => xz x ≤ q)) (hc1 : cells + mc ≤ MCn) (hc2 : slots + ms ≤ MSn)
    (kk : ∀ (H' : Heap) (locs' : List Loc), HM x r.2.1 r.2.2 H' → (∀ q ∈ locs', xz x ≤ q.base) → W p l e (rmOf (d + 1) MCn MSn) s mi args below meth c H' locs' (cells + mc) (slots + ms) Q (F0 mi k.2.2.2 arr ((r.1.toList ++ k.2.2.1).map (cv x)))) :
    W p l e (rmOf (d + 1) MCn MSn) s mi args below meth c H locs cells slots Q (F0 mi pc arr (st.map (cv x))) := by
  have S : CallFix p mi c (mBy m) (mMax m) s args TW (RXs (mOwn m)) := ⟨C.1, C.2.1, C.2.2.2.2.1, C.hown, C.hts⟩
  have fin : ∀ (v : Option Value) (t : State) (L : List Loc), (Outcome.returned v = .returned (r.1.map (cv x)) ∧ HM x r.2.1 r.2.2 t.heap) → (∀ q ∈ L, xz x ≤ q.base) → k.2.2.2 = pc + 3 → W p l e (rmOf (d + 1) MCn MSn) s mi args below meth c t.heap (locs ++ L) (cells + mc) (slots + ms) Q (F0 mi (pc + 3) arr (v.toList ++ k.2.2.1.map (cv x))) := by
    intro v t L hq hLl hpc
    obtain ⟨h1, h2⟩ := hq
    cases h1
    have h3 := kk t.heap (locs ++ L) h2 (fun q hq => (List.mem_append.mp hq).elim (hlo q) (hLl q))
    rw [hpc, List.map_append] at h3
    have e1 : (r.1.map (cv x)).toList = r.1.toList.map (cv x) := by cases r.1 <;> rfl
    rw [e1]
    exact h3
  have core : ∀ (sort i : Nat), oCall sort (cR (mOwn m) i) nFd (pc + 3) st G = some (.inr (.inr k)) → ∃ nest wi, cR (mOwn m) i = some (nest, k.1, wi) ∧ MOK k.1 ∧ mSo k.1 = sort ∧ k.2.1.length = mArg k.1 ∧ st = k.2.1.reverse ++ k.2.2.1 ∧ (k.2.2.1.map fun v => v.category).sum ≤ 8 ∧ k.2.2.2 = pc + 3 ∧ (sort = 2 ∨ rcv k.2.1 (fun b => sort == 1 || gT G b == (10 + mOwn k.1, nFd (mOwn k.1))) = true) ∧
      ((rmOf d mc ms).frames + 1 ≤ (rmOf (d + 1) MCn MSn).frames ∧ 8 + (mMax k.1 + 11) + (rmOf d mc ms).locals ≤ (rmOf (d + 1) MCn MSn).locals) := by
    intro sort i h
    obtain ⟨nest, m', wi, hq, hs, hlen, hsum, hrc, rfl⟩ := oCall_inv h
    have hok := cOk C.own hq
    refine ⟨nest, wi, hq, hok, hs, ?_, ?_, hsum, rfl, hrc, ?_, ?_⟩
    · show ((st.take (mArg m')).reverse).length = mArg m'
      rw [List.length_reverse, List.length_take]
      omega
    · show st = ((st.take (mArg m')).reverse).reverse ++ st.drop (mArg m')
      rw [List.reverse_reverse, List.take_append_drop]
    · show d + 8 + 1 ≤ d + 1 + 8
      omega
    · show 8 + (mMax m' + 11) + (d * 48 + 400) ≤ (d + 1) * 48 + 400
      have : mMax m' ≤ 20 := hok.1.2.2.2.1
      omega
  obtain ⟨m', as, rest, pc'⟩ := k
  dsimp only at hM kk fin core
  have hf : cells + mc ≤ (rmOf (d + 1) MCn MSn).cells ∧ slots + ms ≤ (rmOf (d + 1) MCn MSn).slots := ⟨hc1, hc2⟩
  have hsz : arr.size = mMax m := hL.2.1
  cases ins with
  | invokevirtual i =>
    obtain rfl : 3 = len := by rcases hln with q | q <;> first | exact q | (exact absurd (show 3 = 0 from q) (by decide))
    change (match jR (mOwn m) i with | some q => _ | none => _) = _ at h
    cases hj : jR (mOwn m) i with
    | some q => rw [hj] at h; exact absurd h oJdk_ninr
    | none =>
      rw [hj] at h
      obtain ⟨nest, wi, hq, hok, hs, hal, rfl, hsum, rfl, hrc, hroom⟩ := core 0 i h
      obtain ⟨b, As, rfl, hb⟩ := rcv_inv (hrc.resolve_left (by omega))
      have hb' : gT G b = (10 + mOwn m', nFd (mOwn m')) := by simpa using hb
      have hown' : mOwn m' < 14 := hok.1.1
      obtain ⟨cell, q1, q2, q3, -⟩ := hH.obj hown' hb'
      have hpre : PreV s H (mNm m').cls (adr x b) (PcM x (.ref b :: As) G I) (As.map (cv x)) := ⟨PcM.blind x _ G I, ⟨cell, q1, by rw [q3]; rfl, by rw [q2, hok.1.2.1]; exact (C.kk.1 _ hown').2.1⟩, fun U hU hW => ⟨rfl, by rw [hU]; exact hH, KK.warm hW C.kk⟩⟩
      have hpd := hok.1.2.2.2.2.1
      rw [if_neg (by omega)] at hpd
      have hAl : (As.map (cv x)).length = mArg m' - 1 := by rw [List.length_map]; have : As.length + 1 = mArg m' := hal; omega
      have hst : (F0 mi pc arr (((Value.ref b :: As).reverse ++ rest).map (cv x))).stack = (As.map (cv x)).reverse ++ .ref (adr x b) :: rest.map (cv x) := by
        show ((Value.ref b :: As).reverse ++ rest).map (cv x) = _
        simp [List.map_reverse, cv]
      have hWs : 2 * (F0 mi pc arr (((Value.ref b :: As).reverse ++ rest).map (cv x))).monitorRoom + ((rest.map (cv x)).map fun v => v.category).sum ≤ 8 := lv_room (by rw [cvsum]; exact hsum)
      have hin := C.hts _ (hok.2.2.2.2.1 (by omega))
      have hse := C.hts _ (hok.2.2.2.2.2.1 hs)
      cases nest with
      | false =>
        have hl := C.hts _ (inTW wi (cWok C.own hq) rfl)
        exact W_run (va_runV S (hM hok) ⟨callB_of _ C.hts (wsM.good hok) rfl rfl rfl (C.hts _ hok.2.2.1) hl hpd hroom, hin, hse⟩ hpre rfl hAl hsz hst hWs hd hf) (fun v st₀ t L h0 hq hL => fin v t L hq hL rfl)
      | true =>
        have hl := C.kk.2.2.2.1 _ C.own _ (lk_mem hq) rfl
        exact W_run (va_runVN S (hM hok) ⟨va_cnB (host := hostOf (mOwn m)) _ C.hts (wsM.good hok) rfl rfl rfl hl (C.hts _ hok.2.2.1) hpd hroom, hin, hse⟩ hpre rfl hAl hsz hst hWs hd hf) (fun v st₀ t L h0 hq hL => fin v t L hq hL rfl)
  | invokespecial i =>
    obtain rfl : 3 = len := by rcases hln with q | q <;> first | exact q | (exact absurd (show 3 = 0 from q) (by decide))
    change (match jR (mOwn m) i with | some q => _ | none => _) = _ at h
    cases hj : jR (mOwn m) i with
    | some q => rw [hj] at h; exact absurd h oJdk_ninr
    | none =>
      rw [hj] at h
      obtain ⟨nest, wi, hq, hok, hs, hal, rfl, hsum, rfl, hrc, hroom⟩ := core 1 i h
      obtain ⟨b, As, rfl, hb⟩ := rcv_inv (hrc.resolve_left (by omega))
      have hpre : PreS s H (PcM x (.ref b :: As) G I) (.ref (adr x b) :: As.map (cv x)) := ⟨PcM.blind x _ G I, fun U hU hW => ⟨rfl, by rw [hU]; exact hH, KK.warm hW C.kk⟩⟩
      have hpd := hok.1.2.2.2.2.1
      rw [if_neg (by omega)] at hpd
      have hAl : (As.map (cv x)).length = mArg m' - 1 := by rw [List.length_map]; have : As.length + 1 = mArg m' := hal; omega
      have hst : (F0 mi pc arr (((Value.ref b :: As).reverse ++ rest).map (cv x))).stack = (As.map (cv x)).reverse ++ .ref (adr x b) :: rest.map (cv x) := by
        show ((Value.ref b :: As).reverse ++ rest).map (cv x) = _
        simp [List.map_reverse, cv]
      have hWs : 2 * (F0 mi pc arr (((Value.ref b :: As).reverse ++ rest).map (cv x))).monitorRoom + ((rest.map (cv x)).map fun v => v.category).sum ≤ 8 := lv_room (by rw [cvsum]; exact hsum)
      have hin := C.hts _ (hok.2.2.2.2.1 (by omega))
      obtain ⟨hnm, hret⟩ := hok.1.2.2.2.2.2.2.2 hs
      have hws : wsM m' = Cond.code (mNm m') (mBy m') (mMax m') none :: TW := by unfold wsM; rw [hret]
      cases nest with
      | false =>
        have hl := C.hts _ (inTW wi (cWok C.own hq) rfl)
        exact W_run (va_runI S (hM hok) ⟨callB_of _ C.hts (wsM.good hok) hws rfl rfl (C.hts _ hok.2.2.1) hl hpd hroom, hnm, hin⟩ hpre rfl hAl hsz hst hWs hd hf) (fun v st₀ t L h0 hq hL => fin v t L hq hL rfl)
      | true =>
        have hl := C.kk.2.2.2.1 _ C.own _ (lk_mem hq) rfl
        exact W_run (va_runIN S (hM hok) ⟨va_cnB (host := hostOf (mOwn m)) _ C.hts (wsM.good hok) hws rfl rfl hl (C.hts _ hok.2.2.1) hpd hroom, hnm, hin⟩ hpre rfl hAl hsz hst hWs hd hf) (fun v st₀ t L h0 hq hL => fin v t L hq hL rfl)
  | invokestatic i =>
    obtain rfl : 3 = len := by rcases hln with q | q <;> first | exact q | (exact absurd (show 3 = 0 from q) (by decide))
    change (match jR (mOwn m) i with | some q => _ | none => _) = _ at h
    cases hj : jR (mOwn m) i with
    | some q => rw [hj] at h; exact absurd h oJdk_ninr
    | none =>
      rw [hj] at h
      obtain ⟨nest, wi, hq, hok, hs, hal, rfl, hsum, rfl, hrc, hroom⟩ := core 2 i h
      have hpre : PreS s H (PcM x as G I) (as.map (cv x)) := ⟨PcM.blind x _ G I, fun U hU hW => ⟨rfl, by rw [hU]; exact hH, KK.warm hW C.kk⟩⟩
      have hpd := hok.1.2.2.2.2.1
      rw [if_pos hs] at hpd
      have hAl : (as.map (cv x)).length = mArg m' := by rw [List.length_map]; exact hal
      have hst : (F0 mi pc arr ((as.reverse ++ rest).map (cv x))).stack = (as.map (cv x)).reverse ++ rest.map (cv x) := by
        show (as.reverse ++ rest).map (cv x) = _
        simp [List.map_reverse]
      have hWs : 2 * (F0 mi pc arr ((as.reverse ++ rest).map (cv x))).monitorRoom + ((rest.map (cv x)).map fun v => v.category).sum ≤ 8 := lv_room (by rw [cvsum]; exact hsum)
      have hsta := C.hts _ (hok.2.2.2.1 hs)
      cases nest with
      | false =>
        have hl := C.hts _ (inTW wi (cWok C.own hq) rfl)
        exact W_run (va_runS S (hM hok) ⟨callB_of _ C.hts (wsM.good hok) rfl rfl rfl (C.hts _ hok.2.2.1) hl hpd hroom, hsta⟩ hpre rfl hAl hsz hst hWs hd hf) (fun v st₀ t L h0 hq hL => fin v t L hq hL rfl)
      | true =>
        have hl := C.kk.2.2.2.1 _ C.own _ (lk_mem hq) rfl
        exact W_run (va_runSN S (hM hok) ⟨va_cnB (host := hostOf (mOwn m)) _ C.hts (wsM.good hok) rfl rfl rfl hl (C.hts _ hok.2.2.1) hpd hroom, hsta, trivial⟩ hpre rfl hAl hsz hst hWs hd hf) (fun v st₀ t L h0 hq hL => fin v t L hq hL rfl)
  | _ => cases hI
theorem WM_all (x : Cx) (hJ : JX x) (l : Launch) : ∀ f, WM x l f := by
  intro f
  induction f with
  | zero => intro d m pc ls st G I r p e s mi args below meth c H locs cells slots gn gs arr h; simp [exec] at h
  | succ f ih =>
    intro d m pc ls st G I r p e s mi args below meth c H locs cells slots gn gs arr h C hH hL hlo hb e1 e2
    have hmono := exec_mono _ _ _ _ _ _ _ _ _ h
    rw [exec] at h
    cases hq : lk (mCd m) pc with
    | none => rw [hq] at h; simp at h
    | some q =>
      obtain ⟨hd, hln⟩ := decOf C.2.2.2.2.2.2.2.2.2 hq
      rw [hq] at h
      dsimp only at h
      cases hs : stepI m pc q.2 q.1 ls st G I with
      | none => rw [hs] at h; simp at h
      | some o =>
        rw [hs] at h
        rcases o with n | v | k
        · dsimp only at h
          by_cases hm : gN G ≤ gN n.2.2.2.1 ∧ gS G ≤ gS n.2.2.2.1
          · rw [if_pos hm] at h
            have h2 := exec_mono _ _ _ _ _ _ _ _ _ h
            refine sw_all x hJ m q.1 p l e _ s mi args below meth c H locs cells slots _ arr pc q.2 ls st G I n C hd hln hs hH hL hlo (by omega) (by show 8 ≤ d + 8; omega) (by show 400 ≤ d * 48 + 400; omega) (by show _ ≤ gN r.2.1 - gn; omega) (by show _ ≤ gS r.2.1 - gs; omega) ?_
            intro H' locs' arr' hH' hL' hlo'
            exact ih d m n.1 n.2.1 n.2.2.1 n.2.2.2.1 n.2.2.2.2 r p e s mi args below meth c H' locs' _ _ gn gs arr' h C hH' hL' hlo' hb (by omega) (by omega)
          · rw [if_neg hm] at h; simp at h
        · dsimp only at h
          by_cases hr : isRet q.1 = true
          · rw [if_pos hr] at h
            cases h
            exact ret_W C hr hd hln hs hH hlo e1 e2
          · rw [if_neg hr] at h; simp at h
        · dsimp only at h
          cases d with
          | zero => simp at h
          | succ d =>
            dsimp only at h
            by_cases hz : (lg_sl k.2.1).length ≤ mMax k.1 ∧ isInv q.1 = true
            · rw [if_pos hz] at h
              cases hc : exec f d k.1 0 (entL k.1 k.2.1) [] G I with
              | none => rw [hc] at h; simp at h
              | some r1 =>
                rw [hc] at h
                have g1 := exec_mono _ _ _ _ _ _ _ _ _ hc
                have g2 := exec_mono _ _ _ _ _ _ _ _ _ h
                refine call_W (r := r1) C hz.2 hd hln hs hH hL hlo (fun hok => MetM.of ih d k.1 k.2.1 G I r1 hok hz.1 hc (by omega)) (by omega) (by omega) ?_
                intro H' locs' hH' hlo'
                exact ih (d + 1) m k.2.2.2 ls (r1.1.toList ++ k.2.2.1) r1.2.1 r1.2.2 r p e s mi args below meth c H' locs' _ _ gn gs arr h C hH' hL hlo' hb (by omega) (by omega)
            · rw [if_neg hz] at h; simp at h
/-- THE CONTRACT: what our run answers -/
theorem met_of_ex {x : Cx} (hJ : JX x) (l : Launch) {d : Nat} {m : MD} {as : List Value} {G : Gm} {I : Im} {r : Rs} (hm : MOK m) (hz : (lg_sl as).length ≤ mMax m) (h : ex d m 0 (entL m as) [] G I = some r) (hb : gN r.2.1 ≤ 1000000) :
    Met l (mNm m) (wsM m) (rmOf d (gN r.2.1 - gN G) (gS r.2.1 - gS G)) (PcM x as G I) (QcM x r) (gN r.2.1 - gN G) (gS r.2.1 - gS G) (fun q => xz x ≤ q) := by
  obtain ⟨f, hf⟩ := ex_some h
  exact MetM.of (WM_all x hJ l f) d m as G I r hm hz hf hb
