/-! WHAT OUR MACHINE ANSWERS, THE MACHINE ANSWERS -/
theorem AOI.moved {u U : State} (hvm : u.vm.Alike U.vm) (h : (Cond.arrayOver (.array .int)).before #[] u = true) : (Cond.arrayOver (.array .int)).before #[] U = true := by
  obtain ⟨comp, c, k, h1, h2, h3, h4, h5⟩ := arrayOverA_spec h
  obtain ⟨k', hk', he⟩ := hvm.2.2 _ _ h3
  have hi : (U.vm.classes.findIdx? fun (x : Class) => match x.kind with | .array component _ => component == comp | _ => false) = some c := by
    rw [hvm.findIdx?_eq _ (fun _ => rfl)]
    exact h2
  have hkind : k'.kind = .array comp (.array .int) := by rw [he]; exact h4
  have f1 : U.vm.findClass (FieldType.array .int).toString = some comp := by rw [hvm.findClass]; exact h1
  have f2 : U.vm.findClass ("[" ++ (FieldType.array .int).toString) = some c := by rw [hvm.findClass]; exact h5
  unfold Cond.before Cond.holds
  simp only [Cond.value]
  rw [f1, Option.bind_some]
  refine (congrArg (fun o : Option Nat => (o.bind (fun c => (U.vm.classes[c]?).map fun (k : Class) => match k.kind with | .array _ ty => decide (ty = FieldType.array .int) && decide (U.vm.findClass ("[" ++ (FieldType.array .int).toString) = some c) | _ => false) == some true)) hi).trans ?_
  simp [hk', hkind, f2]
theorem KK.warm {x : Cx} {s U : State} (hW : s.WarmedH U.vm) (h : KK x s) : KK x U := by
  have hvm := hW.alike
  refine ⟨fun ci hci => u_Kn_moved hvm (h.1 ci hci), fun k hk => ⟨arrOfT_moved hvm (h.2.1 k hk).1, (h.2.1 k hk).2.moved hvm⟩, fun own ho q hq hn => ?_, fun own ho q hq hn => ?_, ⟨fun own ho q hq => (h.2.2.2.2.1.1 own ho q hq).warm hW, h.2.2.2.2.1.2.moved hvm⟩, h.2.2.2.2.2.1.moved hvm, AOI.moved hvm h.2.2.2.2.2.2⟩
  · have h2 := h.2.2.1 own ho q hq hn
    unfold fWd at h2 ⊢
    rw [if_pos hn] at h2 ⊢
    exact h2.warmF hW
  · have h2 := h.2.2.2.1 own ho q hq hn
    unfold cWd at h2 ⊢
    rw [if_pos hn] at h2 ⊢
    exact h2.warmM hW
theorem KK.same {x : Cx} {s U : State} (hW : s.vm = U.vm) (h : KK x s) : KK x U := by
  have hvm : s.vm.Alike U.vm := by rw [hW]; exact Vm.Alike.refl _
  refine ⟨fun ci hci => u_Kn_moved hvm (h.1 ci hci), fun k hk => ⟨arrOfT_moved hvm (h.2.1 k hk).1, (h.2.1 k hk).2.moved hvm⟩, fun own ho q hq hn => ?_, fun own ho q hq hn => ?_, ⟨fun own ho q hq => (h.2.2.2.2.1.1 own ho q hq).same hW.symm, h.2.2.2.2.1.2.moved hvm⟩, h.2.2.2.2.2.1.moved hvm, AOI.moved hvm h.2.2.2.2.2.2⟩
  · have h2 := h.2.2.1 own ho q hq hn
    unfold fWd at h2 ⊢
    rw [if_pos hn] at h2 ⊢
    exact va_Nw.same rfl hW h2
  · have h2 := h.2.2.2.1 own ho q hq hn
    unfold cWd at h2 ⊢
    rw [if_pos hn] at h2 ⊢
    exact va_Nw.same rfl hW h2
def rmOf (d mc ms : Nat) : Room := { frames := d + 8, cells := mc, slots := ms, locals := d * 48 + 400 }
def wsM (m : MD) : List Jvm.Cond := .code (mNm m) (mBy m) (mMax m) (mRet m) :: TW
def QcM (x : Cx) (r : Rs) : Array Value → State → Outcome → State → Prop := fun _ _ o t => o = .returned (r.1.map (cv x)) ∧ HM x r.2.1 r.2.2 t.heap
def PcM (x : Cx) (as : List Value) (G : Gm) (I : Im) : Array Value → State → Prop := fun a U => a = (as.map (cv x)).toArray ∧ HM x G I U.heap ∧ KK x U
theorem PcM.blind (x : Cx) (as : List Value) (G : Gm) (I : Im) : FrameBlind (PcM x as G I) := fun a U g mk q => ⟨q.1, q.2.1, KK.same (s := U) rfl q.2.2⟩
theorem wsM.good {m : MD} (hm : MOK m) : GoodIn TW (wsM m) := by
  have key : ∀ w ∈ TW, w ∈ TW ∧ ((w.onTables && w.keeps) = true ∨ ∃ ty, w = .arrayClass ty) := fun w hw => ⟨hw, good_of_word (List.mem_filter.mp hw).2⟩
  intro w hw
  rcases List.mem_cons.mp hw with rfl | hw
  · exact key _ hm.2.1
  · exact key _ hw
def scv (x : Cx) (s : Slot) : Slot := match s with
  | .val v => .val (cv x v)
  | t => t
theorem lg_sl_cv (x : Cx) (as : List Value) : lg_sl (as.map (cv x)) = (lg_sl as).map (scv x) := by
  induction as with
  | nil => rfl
  | cons v t ih =>
    unfold lg_sl at ih ⊢
    rw [List.map_cons, List.flatMap_cons, List.flatMap_cons, List.map_append, ih, cv_cat]
    congr 1
    by_cases h : v.category = 2
    · rw [if_pos h, if_pos h]; rfl
    · rw [if_neg h, if_neg h]; rfl
theorem entL_R {x : Cx} {m : MD} {as : List Value} (h : (lg_sl as).length ≤ mMax m) : LsR x (entL m as) ((lg_sl (as.map (cv x)) ++ List.replicate (mMax m - (lg_sl (as.map (cv x))).length) Slot.unset).toArray) (mMax m) := by
  have e : (lg_sl (as.map (cv x))).length = (lg_sl as).length := by rw [lg_sl_cv, List.length_map]
  have h1 := lv_entry (as.map (cv x)) (n := mMax m) (by rw [e]; exact h)
  refine ⟨?_, h1.1, h1.2.1, fun i v hi => ?_⟩
  · unfold entL
    rw [List.length_append, List.length_replicate]
    omega
  · rw [List.getElem?_toArray, e, lg_sl_cv]
    have e2 : (lg_sl as).map (scv x) ++ List.replicate (mMax m - (lg_sl as).length) Slot.unset = (entL m as).map (scv x) := by
      unfold entL
      rw [List.map_append, List.map_replicate]
      rfl
    rw [e2, List.getElem?_map, hi]
    rfl
theorem W_run {p : Program} {l : Launch} {e : Env} {R : Room} {s : State} {m : MethodId} {args : Array Value} {below : List Frame} {meth : Method} {c : Code} {H : Heap} {locs : List Loc} {cells slots mc ms : Nat} {Q : State → Prop} {pc : Nat} {ls : Array Slot} {rest st0 : List Value} {Qa : State → Outcome → State → Prop} {free : Addr → Prop}
    (hr : va_Run p l e R s m args below meth c H locs cells slots mc ms (F0 m pc ls st0) rest Qa free)
    (kk : ∀ (v : Option Value) (st₀ t : State) (L : List Loc), st₀.heap = H → Qa st₀ (.returned v) t → (∀ q ∈ L, free q.base) → W p l e R s m args below meth c t.heap (locs ++ L) (cells + mc) (slots + ms) Q (F0 m (pc + 3) ls (v.toList ++ rest))) :
    W p l e R s m args below meth c H locs cells slots Q (F0 m pc ls st0) := by
  intro T hT X
  obtain ⟨v, st₀, t, T', L, h0, X', hL, e1, e2, hq, st⟩ := hr T hT X
  obtain ⟨t2, a1, b1⟩ := kk v st₀ t L h0 hq hL T' e1 X'
  exact ⟨t2, st t2 a1, b1⟩
theorem exec_mono : ∀ (f d : Nat) (m : MD) (pc : Nat) (ls : List Slot) (st : List Value) (G : Gm) (I : Im) (r : Rs), exec f d m pc ls st G I = some r → gN G ≤ gN r.2.1 ∧ gS G ≤ gS r.2.1 := by
  intro f
  induction f with
  | zero => intro d m pc ls st G I r h; simp [exec] at h
  | succ f ih =>
    intro d m pc ls st G I r h
    rw [exec] at h
    cases hq : lk (mCd m) pc with
    | none => rw [hq] at h; simp at h
    | some q =>
      rw [hq] at h
      dsimp only at h
      cases hs : stepI m pc q.2 q.1 ls st G I with
      | none => rw [hs] at h; simp at h
      | some o =>
        rw [hs] at h
        rcases o with n | v | c
        · dsimp only at h
          by_cases hm : gN G ≤ gN n.2.2.2.1 ∧ gS G ≤ gS n.2.2.2.1
          · rw [if_pos hm] at h
            have := ih _ _ _ _ _ _ _ _ h
            omega
          · rw [if_neg hm] at h; simp at h
        · dsimp only at h
          split at h
          · cases h
            exact ⟨Nat.le_refl _, Nat.le_refl _⟩
          · cases h
        · dsimp only at h
          cases d with
          | zero => simp at h
          | succ d =>
            dsimp only at h
            by_cases hz : (lg_sl c.2.1).length ≤ mMax c.1 ∧ isInv q.1 = true
            · rw [if_pos hz] at h
              cases hc : exec f d c.1 0 (entL c.1 c.2.1) [] G I with
              | none => rw [hc] at h; simp at h
              | some r1 =>
                rw [hc] at h
                have h1 := ih _ _ _ _ _ _ _ _ hc
                have h2 := ih _ _ _ _ _ _ _ _ h
                omega
            · rw [if_neg hz] at h; simp at h
theorem oCall_inv {sort : Nat} {q : Option (Bool × MD × Nat)} {pc : Nat} {st : List Value} {G : Gm} {k : MD × List Value × List Value × Nat} (h : oCall sort q nFd pc st G = some (.inr (.inr k))) :
    ∃ nest m' wi, q = some (nest, m', wi) ∧ mSo m' = sort ∧ mArg m' ≤ st.length ∧ ((st.drop (mArg m')).map fun v => v.category).sum ≤ 8 ∧ (sort = 2 ∨ rcv (st.take (mArg m')).reverse (fun b => sort == 1 || gT G b == (10 + mOwn m', nFd (mOwn m'))) = true) ∧ k = (m', (st.take (mArg m')).reverse, st.drop (mArg m'), pc) := by
  unfold oCall at h
  split at h
  · split at h
    · next hc => cases h; exact ⟨_, _, _, rfl, hc.1, hc.2.1, hc.2.2.1, hc.2.2.2, rfl⟩
    · cases h
  · cases h
theorem oCall_ninr {sort : Nat} {q : Option (Bool × MD × Nat)} {pc : Nat} {st : List Value} {G : Gm} {v : Option Value} : ¬ oCall sort q nFd pc st G = some (.inr (.inl v)) := by
  intro h
  unfold oCall at h
  split at h
  · split at h <;> cases h
  · cases h
/-- the contract of a method, by a run of ours -/
def MetM (x : Cx) (l : Launch) (f : Nat) : Prop := ∀ (d : Nat) (m : MD) (as : List Value) (G : Gm) (I : Im) (r : Rs), MOK m → (lg_sl as).length ≤ mMax m → exec f d m 0 (entL m as) [] G I = some r → gN r.2.1 ≤ 1000000 →
  Met l (mNm m) (wsM m) (rmOf d (gN r.2.1 - gN G) (gS r.2.1 - gS G)) (PcM x as G I) (QcM x r) (gN r.2.1 - gN G) (gS r.2.1 - gS G) (fun q => xz x ≤ q)
def WM (x : Cx) (l : Launch) (f : Nat) : Prop :=
  ∀ (d : Nat) (m : MD) (pc : Nat) (ls : List Slot) (st : List Value) (G : Gm) (I : Im) (r : Rs) (p : Program) (e : Env) (s : State) (mi : MethodId) (args : Array Value) (below : List Frame) (meth : Method) (c : Code) (H : Heap) (locs : List Loc) (cells slots gn gs : Nat) (arr : Array Slot),
    exec f d m pc ls st G I = some r → MC x p s mi args meth c m → HM x G I H → LsR x ls arr (mMax m) → (∀ q ∈ locs, xz x ≤ q.base) → gN r.2.1 ≤ 1000000 → gn + cells = gN G → gs + slots = gS G →
    W p l e (rmOf d (gN r.2.1 - gn) (gS r.2.1 - gs)) s mi args below meth c H locs cells slots (MQ below (QcM x r) args s (gN r.2.1 - gn) (gS r.2.1 - gs) (fun q => xz x ≤ q)) (F0 mi pc arr (st.map (cv x)))
theorem MetM.of {x : Cx} {l : Launch} {f : Nat} (h : WM x l f) : MetM x l f := by
  intro d m as G I r hm hz hex hb
  refine Met.ofW (cc := mBy m) (maxL := mMax m) (ret := mRet m) hm.1.2.2.1 rfl ?_
  intro p e s mi args below meth c s₁ B hml hv
  obtain ⟨rfl, hH, hK⟩ := hv
  have hts := atoms_spec (ws := wsM m) B.pre
  have hown : s.vm.findClass (RXs (mOwn m)) = some mi.cls := by rw [← hm.1.2.1]; exact findClass_of_methodNamed B.named
  have C : MC x p s mi ((as.map (cv x)).toArray) meth c m := ⟨B.exec, B.bytes, B.returns, B.notSynchronized, hml, hown, (name_of_methodNamed B.named B.method).1, fun w hw => hts w (List.mem_cons_of_mem _ hw), hK, hm⟩
  rw [lg_entry_eq]
  exact h d m 0 (entL m as) [] G I r p e s mi _ below meth c s.heap [] 0 0 (gN G) (gS G) _ hex C hH (entL_R hz) (fun q hq => by cases hq) hb rfl rfl
theorem decOf {m : MD} (hm : MOK m) {pc : Nat} {q : Instr × Nat} (h : lk (mCd m) pc = some q) : decode (mBy m) pc = .ok (q.1, q.2) ∧ (lnI q.1 = 0 ∨ lnI q.1 = q.2) := by
  have h1 := lk_mem h
  have h2 := of_decide_eq_true (List.all_eq_true.mp hm.2.2.2.2.2.2.1 _ h1)
  have h3 := List.all_eq_true.mp hm.2.2.2.2.2.2.2 _ h1
  refine ⟨h2, ?_⟩
  simpa using h3
/-- a method returns -/
theorem ret_W {x : Cx} {l : Launch} {d : Nat} {m : MD} {pc len : Nat} {ls : List Slot} {st : List Value} {G : Gm} {I : Im} {v : Option Value} {ins : Instr} {p : Program} {e : Env} {s : State} {mi : MethodId} {args : Array Value} {below : List Frame} {meth : Method} {c : Code} {H : Heap} {locs : List Loc} {cells slots gn gs : Nat} {arr : Array Slot}
    (C : MC x p s mi args meth c m) (hR : isRet ins = true) (hd : decode (mBy m) pc = .ok (ins, len)) (hln : lnI ins = 0 ∨ lnI ins = len) (h : stepI m pc len ins ls st G I = some (.inr (.inl v))) (hH : HM x G I H) (hlo : ∀ q ∈ locs, xz x ≤ q.base) (e1 : gn + cells = gN G) (e2 : gs + slots = gS G) :
    W p l e (rmOf d (gN G - gn) (gS G - gs)) s mi args below meth c H locs cells slots (MQ below (QcM x (v, G, I)) args s (gN G - gn) (gS G - gs) (fun q => xz x ≤ q)) (F0 mi pc arr (st.map (cv x))) := by
  have ec : gN G - gn = cells := by omega
  have es : gS G - gs = slots := by omega
  rw [ec, es]
  have hr := C.2.2.1
  have hlk := C.2.2.2.1
  have hQ : ∀ t : State, t.heap = H → s.WarmedH t.vm → QcM x (v, G, I) args s (.returned (v.map (cv x))) t := fun t ht _ => ⟨rfl, by rw [ht]; exact hH⟩
  cases ins with
  | ireturn =>
    obtain rfl : 1 = len := by rcases hln with q | q <;> first | exact q | (exact absurd (show 1 = 0 from q) (by decide))
    change (match st, mRet m with | [.int a], some ty => _ | _, _ => none) = _ at h
    split at h
    · rename_i a ty hty
      split at h
      · next hc =>
        cases h
        exact W.zret C.1 C.2.1 (hr.trans hty) hc.2 hQ hlo hd hlk
      · cases h
    · cases h
  | lreturn =>
    obtain rfl : 1 = len := by rcases hln with q | q <;> first | exact q | (exact absurd (show 1 = 0 from q) (by decide))
    change (match st, mRet m with | [.long a], some .long => _ | _, _ => none) = _ at h
    split at h
    · rename_i a hty
      cases h
      exact W.lret C.1 C.2.1 (hr.trans hty) hQ hlo hd hlk
    · cases h
  | areturn =>
    obtain rfl : 1 = len := by rcases hln with q | q <;> first | exact q | (exact absurd (show 1 = 0 from q) (by decide))
    change (match st, mRet m with | [.ref a], some (.object _) => _ | _, _ => none) = _ at h
    split at h
    · rename_i a nm hty
      cases h
      exact W.aret C.1 C.2.1 (hr.trans hty) (Or.inl ⟨_, rfl⟩) (Or.inr ⟨_, rfl⟩) hQ hlo hd hlk
    · cases h
  | return_ =>
    obtain rfl : 1 = len := by rcases hln with q | q <;> first | exact q | (exact absurd (show 1 = 0 from q) (by decide))
    change (match st, mRet m with | [], none => _ | _, _ => none) = _ at h
    split at h
    · rename_i hty
      cases h
      exact W.vret C.1 C.2.1 (hr.trans hty) hQ hlo hd hlk
    · cases h
  | _ =>
    cases hR
