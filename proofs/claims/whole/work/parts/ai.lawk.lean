/-! what holds at the law's entry; calls from the law -/
def LFl : List Jvm.Cond := flatC (Jvm.Cond.and given_1 narrow_1)
def stO (i : Nat) : String × Nat := match i with
  | 0 => ("OneTowel$Tape", 155)
  | 1 => ("OneTowel$Tape", 161)
  | 2 => ("OneTowel$Tape", 163)
  | 3 => ("OneTowel$Tape", 165)
  | 4 => ("OneTowel$Tape", 167)
  | 5 => ("OneTowel$Tape", 169)
  | 6 => ("OneTowel$Tape", 171)
  | 7 => ("OneTowel$Tape", 173)
  | 8 => ("OneTowel$Tape", 175)
  | 9 => ("OneTowel$Tape", 177)
  | 10 => ("OneTowel$Tape", 188)
  | 11 => ("OneTowel$Tape", 193)
  | 12 => ("OneTowel$Tape", 204)
  | 13 => ("OneTowel$Tape", 208)
  | 14 => ("OneTowel$Tape", 216)
  | 15 => ("OneTowel$Tape", 220)
  | 16 => ("OneTowel$Tape", 222)
  | 17 => ("OneTowel$Tape", 267)
  | 18 => ("OneTowel$Tape", 269)
  | 19 => ("OneTowel$Tape", 271)
  | 20 => ("OneTowel$Tape", 273)
  | 21 => ("OneTowel$Tape", 236)
  | 22 => ("OneTowel$Tape", 241)
  | 23 => ("OneTowel$Tape", 245)
  | 24 => ("OneTowel", 413)
  | 25 => ("OneTowelModel", 141)
  | 26 => ("OneTowelModel", 224)
  | 27 => ("OneTowelModel", 229)
  | 28 => ("OneTowelModel", 231)
  | 29 => ("OneTowelModel", 236)
  | 30 => ("OneTowelModel", 238)
  | 31 => ("OneTowelModel", 143)
  | 32 => ("OneTowelModel", 145)
  | 33 => ("OneTowelModel", 147)
  | 34 => ("OneTowelModel", 149)
  | 35 => ("OneTowelModel", 151)
  | 36 => ("OneTowelModel", 153)
  | 37 => ("OneTowelModel", 155)
  | 38 => ("OneTowelModel", 157)
  | 39 => ("OneTowelModel", 262)
  | 40 => ("OneTowelModel", 266)
  | 41 => ("OneTowelModel", 268)
  | 42 => ("OneTowelModel", 286)
  | 43 => ("OneTowelModel", 288)
  | 44 => ("OneTowelModel", 290)
  | 45 => ("OneTowelModel", 292)
  | 46 => ("OneTowelModel", 294)
  | 47 => ("OneTowelModel", 296)
  | 48 => ("OneTowelModel", 298)
  | _ => ("", 0)
def bxS (i : Nat) : Nat := match i with
  | 0 => 25
  | 1 => 34
  | 2 => 43
  | 3 => 53
  | 4 => 61
  | 5 => 70
  | 6 => 80
  | 7 => 89
  | 8 => 99
  | 9 => 107
  | 10 => 116
  | 11 => 124
  | 12 => 133
  | 13 => 140
  | 14 => 148
  | 15 => 159
  | 16 => 168
  | 17 => 175
  | 18 => 184
  | 19 => 193
  | 20 => 200
  | 21 => 209
  | 22 => 217
  | 23 => 225
  | 24 => 233
  | 25 => 265
  | 26 => 275
  | 27 => 285
  | 28 => 294
  | 29 => 304
  | 30 => 312
  | 31 => 321
  | 32 => 331
  | 33 => 342
  | 34 => 351
  | 35 => 361
  | 36 => 372
  | 37 => 382
  | 38 => 393
  | 39 => 402
  | 40 => 414
  | 41 => 424
  | 42 => 432
  | 43 => 442
  | 44 => 452
  | 45 => 460
  | 46 => 470
  | 47 => 479
  | 48 => 488
  | _ => 0
def tmS (i : Nat) : Term := Term.string (stO i).1 (stO i).2
def exS (i : Nat) : List Jvm.Cond := [Cond.exactly (tmS i) "java/lang/String", Cond.eq (.field (tmS i) "java/lang/String" "coder" "B") (.int 0), Cond.arrayOf (.field (tmS i) "java/lang/String" "value" "[B") .byte, Cond.eq (.length (.field (tmS i) "java/lang/String" "value" "[B")) (.int (Int32.ofNat (sB.getD i []).length))] ++ (List.range (sB.getD i []).length).map (fun j => Cond.eq (.elem (.field (tmS i) "java/lang/String" "value" "[B") (.int (Int32.ofNat j))) (.int ((sB.getD i []).getD j 0)))
theorem FLs : (List.range 49).all (fun i => decide ((LFl.drop (bxS i)).take (4 + (sB.getD i []).length) = exS i)) = true := by decide +kernel
theorem FL_in {i : Nat} (hi : i < 49) {w : Jvm.Cond} (hw : w ∈ exS i) : w ∈ LFl := by
  have h := of_decide_eq_true (List.all_eq_true.mp FLs i (List.mem_range.mpr hi))
  rw [← h] at hw
  exact List.mem_of_mem_drop (List.mem_of_mem_take hw)
theorem stO_all : (List.range 14).all (fun own => (sRs own).all (fun q => decide (stO q.2.1 = (RXs own, q.1) ∧ q.2.1 < 49))) = true := by decide +kernel
theorem FL2 : Cond.eq (.static "java/lang/String" "COMPACT_STRINGS" "Z") (.int 1) ∈ LFl := List.mem_of_getElem? (i := 4) (by decide +kernel)
theorem FL3 : Cond.isRef (.static "jdk/internal/util/Preconditions" "SIOOBE_FORMATTER" "Ljava/util/function/BiFunction;") ∈ LFl := List.mem_of_getElem? (i := 5) (by decide +kernel)
theorem lsZ : Cond.laysStatic "java/lang/String" "COMPACT_STRINGS" "Z" ∈ tables_1 := List.mem_of_getElem? (i := 642) (by decide +kernel)
theorem lsQ : Cond.laysStatic "jdk/internal/util/Preconditions" "SIOOBE_FORMATTER" "Ljava/util/function/BiFunction;" ∈ tables_1 := List.mem_of_getElem? (i := 658) (by decide +kernel)
theorem TW_tbl {w : Jvm.Cond} (h : w ∈ TW) : w ∈ lw_tbl := (List.mem_filter.mp h).1
theorem t1_tbl {w : Jvm.Cond} (h : w ∈ tables_1) : w ∈ lw_tbl := List.mem_append_right _ h
/-- a text's object -/
theorem law_str {s : State} {args : Array Value} (hf : ∀ w ∈ LFl, w.before args s = true) {i : Nat} (hi : i < 49) :
    ∃ a v, (tmS i).eval args s none [] s = some (.ref a) ∧ va_O "java/lang/String" a (fun q => s.heap.size ≤ q) s s.heap ∧ va_OF "java/lang/String" "coder" "B" (.int 0) a (fun q => s.heap.size ≤ q) s s.heap ∧ va_OF "java/lang/String" "value" "[B" (.ref v) a (fun q => s.heap.size ≤ q) s s.heap ∧ va_T .byte v (sB.getD i []).length (fun j => .int ((sB.getD i []).getD j 0)) (fun q => s.heap.size ≤ q) s s.heap := by
  have hA : ∀ a : Nat, a < s.heap.size → ¬ (s.heap.size ≤ a) := fun a h => Nat.not_le.mpr h
  have m0 : ∀ w ∈ exS i, w.before args s = true := fun w hw => hf w (FL_in hi hw)
  have h1 := m0 (Cond.exactly (tmS i) "java/lang/String") (by unfold exS; simp)
  have h2 := m0 (Cond.eq (.field (tmS i) "java/lang/String" "coder" "B") (.int 0)) (by unfold exS; simp)
  have h3 := m0 (Cond.arrayOf (.field (tmS i) "java/lang/String" "value" "[B") .byte) (by unfold exS; simp)
  have h4 := m0 (Cond.eq (.length (.field (tmS i) "java/lang/String" "value" "[B")) (.int (Int32.ofNat (sB.getD i []).length))) (by unfold exS; simp)
  have h5 : ∀ j, j < (sB.getD i []).length → (Cond.eq (.elem (.field (tmS i) "java/lang/String" "value" "[B") (.int (Int32.ofNat j))) (.int ((sB.getD i []).getD j 0))).before args s = true := fun j hj => m0 _ (List.mem_append_right _ (List.mem_map.mpr ⟨j, List.mem_range.mpr hj, rfl⟩))
  obtain ⟨a, c, cA, kA, q1, q2, q3, q4, q5, q6, -⟩ := Cond.exactly_spec (args := args) (first := s) (o := none) (s := s) (idx := []) (t := tmS i) (cls := "java/lang/String") h1
  obtain ⟨v, hv, hT⟩ := va_Tof (f := fun j => .int ((sB.getD i []).getD j 0)) (A := fun q => s.heap.size ≤ q) (by have := sB_lt hi; omega) h3 (va_eqt h4) (fun j hj => va_eqt (h5 j hj)) hA
  exact ⟨a, v, q1, ⟨cA, q3, q5, by rw [q6]; exact q2, hA a (Array.getElem?_eq_some_iff.mp q3).1⟩, vk_OFof q1 (va_eqt h2) hA, vk_OFof q1 hv hA, hT⟩
theorem arC {s : State} {args : Array Value} {ty : FieldType} (h : (Cond.arrayClass ty).before args s = true) : ∃ cA, ArrOfT s cA ty ∧ s.vm.findClass ("[" ++ ty.toString) = some cA := by
  obtain ⟨c, k, comp, h1, h2, h3⟩ := Cond.arrayClass_spec (args := args) (first := s) (o := none) (s := s) (idx := []) h
  exact ⟨c, fun n z => ⟨fun k h => (by cases h), ⟨k, h2, comp, h3⟩⟩, h1⟩
theorem law_KK {p : Program} {s : State} {m : MethodId} {meth : Method} {c : Code} {b L : Nat} {xs : Nat → Int32} (C0 : lw_At p s m meth c b L xs) : ∃ x : Cx, xz x = s.heap.size ∧ xH x = s.heap ∧ KK x s := by
  obtain ⟨hx, hb, hr, hml, hown, hts, hX, hbl, hlocks, hgv⟩ := C0
  have hf : ∀ w ∈ LFl, w.before #[Value.ref b] s = true := flat_of_before _ hgv
  have hA : ∀ a : Nat, a < s.heap.size → ¬ (s.heap.size ≤ a) := fun a h => Nat.not_le.mpr h
  have hcl : ∀ ci, ∃ q : ClassId × (Nat → Nat), ci < 14 → u_Kn s (RXs ci) (TXs ci) (nFd ci) q.1 q.2 := fun ci => by
    by_cases h : ci < 14
    · obtain ⟨cC, iS, hK⟩ := u_known (C := RXs ci) (T := TXs ci) (N := nFd ci) (n := nFd ci) (ws := TW) (fun w hw => hts w (TW_tbl hw)) (uWok h) (hts _ (TW_tbl (iWok h).1))
      exact ⟨(cC, iS), fun _ => hK⟩
    · exact ⟨(0, fun _ => 0), fun q => absurd q h⟩
  obtain ⟨fc, hfc⟩ := Classical.axiomOfChoice hcl
  have hst : ∀ i, ∃ a, i < 49 → ∃ v, (tmS i).eval #[Value.ref b] s none [] s = some (.ref a) ∧ va_O "java/lang/String" a (fun q => s.heap.size ≤ q) s s.heap ∧ va_OF "java/lang/String" "coder" "B" (.int 0) a (fun q => s.heap.size ≤ q) s s.heap ∧ va_OF "java/lang/String" "value" "[B" (.ref v) a (fun q => s.heap.size ≤ q) s s.heap ∧ va_T .byte v (sB.getD i []).length (fun j => .int ((sB.getD i []).getD j 0)) (fun q => s.heap.size ≤ q) s s.heap := fun i => by
    by_cases h : i < 49
    · obtain ⟨a, v, h1⟩ := law_str hf h
      exact ⟨a, fun _ => ⟨v, h1⟩⟩
    · exact ⟨0, fun q => absurd q h⟩
  obtain ⟨fk, hfk⟩ := Classical.axiomOfChoice hst
  obtain ⟨a0, r0, n0⟩ := arC (hts _ (TW_tbl acInt))
  obtain ⟨a1, r1, n1⟩ := arC (hts _ (TW_tbl acByte))
  obtain ⟨a2, r2, n2⟩ := arC (hts _ (TW_tbl acBool))
  obtain ⟨a3, r3, n3⟩ := arC (hts _ (TW_tbl acLong))
  have hSc := hts _ (t1_tbl aoSc)
  have hIn := hts _ (t1_tbl aoIn)
  obtain ⟨comp4, a4, k4, f1, -, f3, f4, f5⟩ := Cond.arrayOver_spec (args := #[Value.ref b]) (first := s) (o := none) (s := s) (idx := []) hSc
  obtain ⟨comp5, a5, k5, g1, -, g3, g4, g5⟩ := arrayOverA_spec (args := #[Value.ref b]) (first := s) (o := none) (s := s) (idx := []) hIn
  refine ⟨(s.heap.size, s.heap, fk, (fun ci => (fc ci).1), (fun ci => (fc ci).2), (fun k => if k = 0 then a0 else if k = 1 then a1 else if k = 2 then a2 else if k = 3 then a3 else if k = 4 then a4 else a5)), rfl, rfl, ?_, ?_, ?_, ?_, ⟨?_, ?_, ?_, ?_⟩, va_AO.of hSc, hIn⟩
  · exact fun ci hci => hfc ci hci
  · intro k hk
    have h6 : k = 0 ∨ k = 1 ∨ k = 2 ∨ k = 3 ∨ k = 4 ∨ k = 5 := by omega
    rcases h6 with e | e | e | e | e | e <;> subst e
    · exact ⟨r0, n0⟩
    · exact ⟨r1, n1⟩
    · exact ⟨r2, n2⟩
    · exact ⟨r3, n3⟩
    · exact ⟨fun n z => ⟨fun k h => (by cases h), ⟨k4, f3, comp4, f4⟩⟩, k4, comp4, f3, f4, f1, f5⟩
    · exact ⟨fun n z => ⟨fun k h => (by cases h), ⟨k5, g3, comp5, g4⟩⟩, g5⟩
  · intro own ho q hq hn
    have h1 := (of_decide_eq_true (List.all_eq_true.mp (List.all_eq_true.mp fW_all own (List.mem_range.mpr ho)) _ hq)).1
    have h2 := hts _ (t1_tbl (List.mem_of_getElem? h1))
    unfold fWd at h2 ⊢
    rw [if_pos hn] at h2 ⊢
    exact va_Nw.of rfl h2
  · intro own ho q hq hn
    have h1 := of_decide_eq_true (List.all_eq_true.mp (List.all_eq_true.mp cW_all own (List.mem_range.mpr ho)) _ hq)
    have h2 := hts _ (t1_tbl (List.mem_of_getElem? h1))
    unfold cWd at h2 ⊢
    rw [if_pos hn] at h2 ⊢
    exact va_Nw.of rfl h2
  · intro own ho q hq
    have h1 := (of_decide_eq_true (List.all_eq_true.mp (List.all_eq_true.mp sW_all own (List.mem_range.mpr ho)) _ hq)).1
    obtain ⟨h2, h3⟩ := of_decide_eq_true (List.all_eq_true.mp (List.all_eq_true.mp stO_all own (List.mem_range.mpr ho)) _ hq)
    obtain ⟨v, h4, -⟩ := hfk q.2.1 h3
    have h4 : (Term.string (stO q.2.1).1 (stO q.2.1).2).eval #[Value.ref b] s none [] s = some (.ref (fk q.2.1)) := h4
    rw [h2] at h4
    exact vk_R.of (hts _ (t1_tbl (List.mem_of_getElem? h1))) h4
  · intro i hi
    obtain ⟨v, -, h2, h3, h4, h5⟩ := hfk i hi
    exact ⟨v, h2, h3, h4, h5⟩
  · exact va_Zof (hts _ (t1_tbl lsZ)) (hts _ (TW_tbl iniJS)) (va_eqi (hf _ FL2)) hA
  · exact va_Zqof (hts _ (t1_tbl lsQ)) (hts _ (TW_tbl iniJP)) (hf _ FL3) hA
theorem run_mono {d : Nat} {m : MD} {as : List Value} {G : Gm} {I : Im} {r : Rs} (h : run d m as G I = some r) : gN G ≤ gN r.2.1 ∧ gS G ≤ gS r.2.1 := by
  obtain ⟨f, hf⟩ := ex_some h
  exact exec_mono _ _ _ _ _ _ _ _ _ hf
/-- the law's frame -/
def LC (x : Cx) (p : Program) (s : State) (m : MethodId) (meth : Method) (c : Code) (b L : Nat) (xs : Nat → Int32) : Prop := lw_At p s m meth c b L xs ∧ KK x s ∧ xz x = s.heap.size ∧ xH x = s.heap
abbrev LW (p : Program) (l : Launch) (e : Env) (s : State) (m : MethodId) (below : List Frame) (meth : Method) (c : Code) (b : Nat) (H : Heap) (locs : List Loc) (cells slots : Nat) (g : JFrame) : Prop := W p l e room_1 s m #[Value.ref b] below meth c H locs cells slots (lw_Z below #[Value.ref b] s) g
theorem lw_call {x : Cx} {p : Program} {l : Launch} {e : Env} {s : State} {m : MethodId} {below : List Frame} {meth : Method} {c : Code} {b L : Nat} {xs : Nat → Int32} (C : LC x p s m meth c b L xs) {mm : MD} (hok : MOK mm) (hso : mSo mm = 0) {idx wi a : Nat} (hw : tables_1[wi]? = some (.methodLink R_law idx (mNm mm))) (hgw : goodWord (.methodLink R_law idx (mNm mm)) = true) {As rest : List Value} {z : Int32} {G G' : Gm} {I I' : Im} {H : Heap} {locs : List Loc} {ls : Array Slot} {pc : Nat}
    (hcls : gT G a = (10 + mOwn mm, nFd (mOwn mm))) (hal : As.length + 1 = mArg mm) (hz : (lg_sl (.ref a :: As)).length ≤ mMax mm) (hrun : run 12 mm (.ref a :: As) G I = some (some (.int z), G', I')) (hH : HM x G I H) (hlo : ∀ q ∈ locs, xz x ≤ q.base) (hb : gN G' ≤ 20000) (hbs : gS G' ≤ 200000) (hsz : ls.size = 7) (hr : (rest.map fun v => v.category).sum ≤ 8) (hdg : decode code pc = .ok (.invokevirtual idx, 3))
    (kk : ∀ (H' : Heap) (locs' : List Loc), HM x G' I' H' → (∀ q ∈ locs', xz x ≤ q.base) → LW p l e s m below meth c b H' locs' (gN G') (gS G') (F0 m (pc + 3) ls (.int z :: rest))) :
    LW p l e s m below meth c b H locs (gN G) (gS G) (F0 m pc ls ((As.map (cv x)).reverse ++ .ref (adr x a) :: rest)) := by
  obtain ⟨⟨hx, hbd, hrr, hml, hown, hts, hX, hbl, hlocks, hgv⟩, hK, -⟩ := C
  have htw : ∀ w ∈ TW, w.before #[Value.ref b] s = true := fun w hw => hts w (TW_tbl hw)
  have hm := met_of_ex (jx x) l hok hz hrun (by show gN G' ≤ 1000000; omega)
  obtain ⟨m1, m2⟩ := run_mono hrun
  have m1 : gN G ≤ gN G' := m1
  have m2 : gS G ≤ gS G' := m2
  obtain ⟨cell, q1, q2, q3, -⟩ := hH.obj hok.1.1 hcls
  have hpre : PreV s H (mNm mm).cls (adr x a) (PcM x (.ref a :: As) G I) (As.map (cv x)) := ⟨PcM.blind x _ G I, ⟨cell, q1, by rw [q3]; rfl, by rw [q2, hok.1.2.1]; exact (hK.1 _ hok.1.1).2.1⟩, fun U hU hW => ⟨rfl, by rw [hU]; exact hH, KK.warm hW hK⟩⟩
  have hpd := hok.1.2.2.2.2.1
  rw [if_neg (by omega)] at hpd
  have hAl : (As.map (cv x)).length = mArg mm - 1 := by rw [List.length_map]; omega
  have hmx : mMax mm ≤ 20 := hok.1.2.2.2.1
  refine W_run (va_runV (⟨hx, hbd, hml, hown, htw⟩ : CallFix p m c code 7 s _ TW R_law) hm ⟨callB_of _ htw (wsM.good hok) rfl rfl rfl (htw _ hok.2.2.1) (htw _ (inTW wi hw hgw)) hpd ⟨by show 12 + 8 + 1 ≤ 2048; omega, by show 8 + (mMax mm + 11) + (12 * 48 + 400) ≤ 84000; omega⟩, htw _ (hok.2.2.2.2.1 (by omega)), htw _ (hok.2.2.2.2.2.1 hso)⟩ hpre rfl hAl hsz rfl (lv_room hr) hdg ⟨by show gN G + (gN G' - gN G) ≤ 601024; omega, by show gS G + (gS G' - gS G) ≤ 7293034; omega⟩) (fun v st₀ t L' h0 hq hL' => ?_)
  obtain ⟨h1, h2⟩ := hq
  cases h1
  have h3 := kk t.heap (locs ++ L') h2 (fun q hq => (List.mem_append.mp hq).elim (hlo q) (hL' q))
  have e1 : gN G + (gN G' - gN G) = gN G' := by omega
  have e2 : gS G + (gS G' - gS G) = gS G' := by omega
  show W p l e room_1 s m #[Value.ref b] below meth c t.heap (locs ++ L') (gN G + (gN G' - gN G)) (gS G + (gS G' - gS G)) _ _
  rw [e1, e2]
  exact h3
/-- a constructor's run -/
theorem lw_init {x : Cx} {p : Program} {l : Launch} {e : Env} {s : State} {m : MethodId} {below : List Frame} {meth : Method} {c : Code} {b L : Nat} {xs : Nat → Int32} (C : LC x p s m meth c b L xs) {mm : MD} (hok : MOK mm) (hso : mSo mm = 1) (hal : mArg mm = 1) {idx wi a : Nat} (hw : tables_1[wi]? = some (.methodLink R_law idx (mNm mm))) (hgw : goodWord (.methodLink R_law idx (mNm mm)) = true) {rest : List Value} {G G' : Gm} {I I' : Im} {H : Heap} {locs : List Loc} {ls : Array Slot} {pc : Nat}
    (hz : (lg_sl [.ref a]).length ≤ mMax mm) (hrun : run 12 mm [.ref a] G I = some (none, G', I')) (hH : HM x G I H) (hlo : ∀ q ∈ locs, xz x ≤ q.base) (hb : gN G' ≤ 20000) (hbs : gS G' ≤ 200000) (hsz : ls.size = 7) (hr : (rest.map fun v => v.category).sum ≤ 8) (hdg : decode code pc = .ok (.invokespecial idx, 3))
    (kk : ∀ (H' : Heap) (locs' : List Loc), HM x G' I' H' → (∀ q ∈ locs', xz x ≤ q.base) → LW p l e s m below meth c b H' locs' (gN G') (gS G') (F0 m (pc + 3) ls rest)) :
    LW p l e s m below meth c b H locs (gN G) (gS G) (F0 m pc ls (.ref (adr x a) :: rest)) := by
  obtain ⟨⟨hx, hbd, hrr, hml, hown, hts, hX, hbl, hlocks, hgv⟩, hK, -⟩ := C
  have htw : ∀ w ∈ TW, w.before #[Value.ref b] s = true := fun w hw => hts w (TW_tbl hw)
  have hm := met_of_ex (jx x) l hok hz hrun (by show gN G' ≤ 1000000; omega)
  obtain ⟨m1, m2⟩ := run_mono hrun
  have m1 : gN G ≤ gN G' := m1
  have m2 : gS G ≤ gS G' := m2
  have hpre : PreS s H (PcM x [.ref a] G I) (.ref (adr x a) :: []) := ⟨PcM.blind x _ G I, fun U hU hW => ⟨rfl, by rw [hU]; exact hH, KK.warm hW hK⟩⟩
  have hpd := hok.1.2.2.2.2.1
  rw [if_neg (by omega)] at hpd
  have hmx : mMax mm ≤ 20 := hok.1.2.2.2.1
  obtain ⟨hnm, hret⟩ := hok.1.2.2.2.2.2.2.2 hso
  have hws : wsM mm = Cond.code (mNm mm) (mBy mm) (mMax mm) none :: TW := by unfold wsM; rw [hret]
  refine W_run (va_runI (⟨hx, hbd, hml, hown, htw⟩ : CallFix p m c code 7 s _ TW R_law) hm ⟨callB_of _ htw (wsM.good hok) hws rfl rfl (htw _ hok.2.2.1) (htw _ (inTW wi hw hgw)) hpd ⟨by show 12 + 8 + 1 ≤ 2048; omega, by show 8 + (mMax mm + 11) + (12 * 48 + 400) ≤ 84000; omega⟩, hnm, htw _ (hok.2.2.2.2.1 (by omega))⟩ hpre rfl (show ([] : List Value).length = mArg mm - 1 by rw [hal]; rfl) hsz rfl (lv_room hr) hdg ⟨by show gN G + (gN G' - gN G) ≤ 601024; omega, by show gS G + (gS G' - gS G) ≤ 7293034; omega⟩) (fun v st₀ t L' h0 hq hL' => ?_)
  obtain ⟨h1, h2⟩ := hq
  cases h1
  have h3 := kk t.heap (locs ++ L') h2 (fun q hq => (List.mem_append.mp hq).elim (hlo q) (hL' q))
  have e1 : gN G + (gN G' - gN G) = gN G' := by omega
  have e2 : gS G + (gS G' - gS G) = gS G' := by omega
  show W p l e room_1 s m #[Value.ref b] below meth c t.heap (locs ++ L') (gN G + (gN G' - gN G)) (gS G + (gS G' - gS G)) _ _
  rw [e1, e2]
  exact h3
/-- a new object -/
theorem lw_new {x : Cx} {p : Program} {l : Launch} {e : Env} {s : State} {m : MethodId} {below : List Frame} {meth : Method} {c : Code} {b L : Nat} {xs : Nat → Int32} (C : LC x p s m meth c b L xs) {ci : Nat} (hci : ci < 14) {idx wi : Nat} (hw : tables_1[wi]? = some (.classLink R_law idx (RXs ci))) (hgw : goodWord (.classLink R_law idx (RXs ci)) = true) {rest : List Value} {G : Gm} {I : Im} {H : Heap} {locs : List Loc} {ls : Array Slot} {pc : Nat}
    (hH : HM x G I H) (hb : gN G ≤ 20000) (hbs : gS G + nFd ci ≤ 200000) (hdg : decode code pc = .ok (.new idx, 3))
    (kk : ∀ (H' : Heap), HM x (gNew G (10 + ci, nFd ci)) (iNew I (gN G)) H' → LW p l e s m below meth c b H' locs (gN G + 1) (gS G + nFd ci) (F0 m (pc + 3) ls (.ref (adr x (gN G)) :: rest))) :
    LW p l e s m below meth c b H locs (gN G) (gS G) (F0 m pc ls rest) := by
  obtain ⟨⟨hx, hbd, hrr, hml, hown, hts, hX, hbl, hlocks, hgv⟩, hK, -⟩ := C
  have htw : ∀ w ∈ TW, w.before #[Value.ref b] s = true := fun w hw => hts w (TW_tbl hw)
  have hKn := hK.1 ci hci
  refine W.newcK hx hbd hown (htw _ (inTW wi hw hgw)) (htw _ (iWok hci).1) (htw _ (iWok hci).2) rfl hdg (by show gN G + 1 ≤ 601024; omega) (by show gS G + nFd ci ≤ 7293034; omega) hKn.2.1 rfl fun H1 kC hkC e1 z1 o1 => ?_
  have hz := hH.1
  have ea : adr x (gN G) = H.size := by
    unfold adr
    rw [if_pos (by omega), hz]
  have h3 := kk H1 (hH.new (by omega) z1 o1 (cellObj hci gNew_T ?_))
  · rw [ea] at h3
    exact h3
  · have hob := u_born (fun k => tFd ci k) htw (uWok hci) hKn hkC e1 (tyOk hci)
    rw [hz] at hob
    exact hob.to (fun j hj => by rw [gNew_val, dvOf (dclOk hci hj).2]; split <;> first | rfl | (split <;> rfl))
