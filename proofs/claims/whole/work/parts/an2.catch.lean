/-! the law's own led: it catches -/
theorem wLdc : Cond.code yX11_led cX11_led 4 (some .int) ∈ TW := inTW 1390 (by decide +kernel) rfl
theorem gLdc : GoodIn TW wsLd := by
  have key : ∀ w ∈ TW, w ∈ TW ∧ ((w.onTables && w.keeps) = true ∨ ∃ ty, w = .arrayClass ty) := fun w hw => ⟨hw, good_of_word (List.mem_filter.mp hw).2⟩
  intro w hw
  have hw : w ∈ Cond.code yX11_led cX11_led 4 (some .int) :: TW := hw
  rcases List.mem_cons.mp hw with rfl | hw
  · exact key _ wLdc
  · exact key _ hw
def yLd : MethodName := ⟨"OneTowelLaw", "led", "(LOneTowel;I[J)I"⟩
abbrev tLd : List (Nat × Nat × Nat × Nat) := [(0, 9, 12, 13)]
def wsLl : List Jvm.Cond := Cond.codeWith yLd method_3_code 4 (some .int) tLd :: TW
theorem wLl : Cond.codeWith yLd method_3_code 4 (some .int) tLd ∈ TW := inTW 1385 (by decide +kernel) rfl
theorem gLl : GoodIn TW (va_wsS R_law 242 yLd wsLl) := by
  have key : ∀ w ∈ TW, w ∈ TW ∧ ((w.onTables && w.keeps) = true ∨ ∃ ty, w = .arrayClass ty) := fun w hw => ⟨hw, good_of_word (List.mem_filter.mp hw).2⟩
  intro w hw
  rcases List.mem_append.mp hw with hw | hw
  · rcases List.mem_cons.mp hw with rfl | hw
    · exact key _ (inTW 1383 (by decide +kernel) rfl)
    · rcases List.mem_cons.mp hw with rfl | hw
      · exact key _ (inTW 1384 (by decide +kernel) rfl)
      · rw [List.mem_singleton.mp hw]
        exact key _ (inTW 0 (by decide +kernel) rfl)
  · have hw : w ∈ Cond.codeWith yLd method_3_code 4 (some .int) tLd :: TW := hw
    rcases List.mem_cons.mp hw with rfl | hw
    · exact key _ wLl
    · exact key _ hw
theorem hm_last {x : Cx} {p : Program} {l : Launch} {e : Env} {R : Room} {s : State} {m : MethodId} {args : Array Value} {below : List Frame} {meth : Method} {c : Code} {H : Heap} {locs : List Loc} {cells slots : Nat} {Q : State → Prop} {cc : ByteArray} {pc a n : Nat} {ls : Array Slot} {rest : List Value} {G : Gm} {I : Im} {w : Int64} {i : Int32}
    (hx : p.tables.exec = Jvm.exec) (hb : c.code = cc) (hK : KK x s) (hH : HM x G I H) (hlo : ∀ q ∈ locs, xz x ≤ q.base) (ht : gT G a = (3, n)) (hi : inb i n = true) (hd : decode cc pc = .ok (.lastore, 1))
    (kk : ∀ (H' : Heap) (locs' : List Loc), HM x (gSetJ G a i.toNatClampNeg w) I H' → (∀ q ∈ locs', xz x ≤ q.base) → W p l e R s m args below meth c H' locs' cells slots Q (F0 m (pc + 1) ls rest)) : W p l e R s m args below meth c H locs cells slots Q (F0 m pc ls (.long w :: .int i :: .ref (adr x a) :: rest)) := by
  have h3 : (gT G a).1 = 3 := by rw [ht]
  have h99 : (gT G a).1 ≠ 99 := by rw [h3]; decide
  have ha := hH.ad h99
  have hlt := hH.lt h99
  have hi' : inb i (gT G a).2 = true := by rw [ht]; exact hi
  refine W.last hx hb (hH.arr (k := 3) (by omega) h3) ((hK.2.1 3 (by omega)).1 _ _) (fun q => by cases q) (ald_in hi') rfl rfl hd (fun H' e1 e2 e3 => ?_)
  refine kk H' _ (hH.put (G' := gSetJ G a i.toNatClampNeg w) hlt ⟨rfl, rfl⟩ (fun b hb => ⟨rfl, s2_ne hb, rfl⟩) e2 (by rw [← ha]; exact e3) (cellArr (k := 3) (by omega) h3 ?_)) ?_
  · rw [← ha, e1, arrV_store]
    congr 2
    funext j
    show _ = cv x (.long (s2 (gJ G) a i.toNatClampNeg w a j))
    rw [s2_eq]
    by_cases e : j = i.toNatClampNeg
    · rw [if_pos e]
      simp [updV, e, cv]
    · rw [if_neg e]
      simp [updV, e, cval, akd]
  · intro q hq
    rcases List.mem_append.mp hq with h | h
    · exact hlo q h
    · rw [List.mem_singleton.mp h]
      show xz x ≤ adr x a
      omega
theorem hm_lald {x : Cx} {p : Program} {l : Launch} {e : Env} {R : Room} {s : State} {m : MethodId} {args : Array Value} {below : List Frame} {meth : Method} {c : Code} {H : Heap} {locs : List Loc} {cells slots : Nat} {Q : State → Prop} {cc : ByteArray} {pc a n : Nat} {ls : Array Slot} {rest : List Value} {G : Gm} {I : Im} {i : Int32}
    (hx : p.tables.exec = Jvm.exec) (hb : c.code = cc) (hK : KK x s) (hH : HM x G I H) (ht : gT G a = (3, n)) (hi : inb i n = true) (hd : decode cc pc = .ok (.laload, 1))
    (kk : W p l e R s m args below meth c H locs cells slots Q (F0 m (pc + 1) ls (.long (gJ G a i.toNatClampNeg) :: rest))) : W p l e R s m args below meth c H locs cells slots Q (F0 m pc ls (.int i :: .ref (adr x a) :: rest)) := by
  have h3 : (gT G a).1 = 3 := by rw [ht]
  have hi' : inb i (gT G a).2 = true := by rw [ht]; exact hi
  obtain ⟨h1, h2⟩ := sw_ald (p := p) (l := l) (e := e) (R := R) (s := s) (mi := m) (args := args) (below := below) (meth := meth) (c := c) hH (by omega) h3 hi'
  exact W.lald hx hb (hH.arr (k := 3) (by omega) h3) ((hK.2.1 3 (by omega)).1 _ _) (fun q => by cases q) h1 h2 rfl rfl hd kk
theorem jl_0 : decode method_3_code 0 = .ok (.aload_n 2, 1) := by decide +kernel
theorem jl_1 : decode method_3_code 1 = .ok (.iconst 0, 1) := by decide +kernel
theorem jl_2 : decode method_3_code 2 = .ok (.aload_n 0, 1) := by decide +kernel
theorem jl_3 : decode method_3_code 3 = .ok (.iload_n 1, 1) := by decide +kernel
theorem jl_4 : decode method_3_code 4 = .ok (.invokevirtual 7, 3) := by decide +kernel
theorem jl_7 : decode method_3_code 7 = .ok (.i2l, 1) := by decide +kernel
theorem jl_8 : decode method_3_code 8 = .ok (.lastore, 1) := by decide +kernel
theorem jl_9 : decode method_3_code 9 = .ok (.goto 6, 3) := by decide +kernel
theorem jl_12 : decode method_3_code 12 = .ok (.astore_n 3, 1) := by decide +kernel
theorem jl_13 : decode method_3_code 13 = .ok (.iconst 1, 1) := by decide +kernel
theorem jl_14 : decode method_3_code 14 = .ok (.ireturn, 1) := by decide +kernel
theorem jl_15 : decode method_3_code 15 = .ok (.iconst 0, 1) := by decide +kernel
theorem jl_16 : decode method_3_code 16 = .ok (.ireturn, 1) := by decide +kernel
theorem met_llA {x : Cx} (l : Launch) {z : Int32} {G : Gm} {I : Im} {sh N b : Nat} {f : Nat → Bool} (hF : LdF x G I sh N f) (h351 : gT G 351 = (3, 1)) (hg : ledG f z N 0 0 = some b) : Met l yLd wsLl (rmJ 14 700) (PcD x [.ref 0, .int z, .ref 351] G I) (QcM x (some (.int 0), gSetJ G 351 0 (nI b).toInt64, I)) 0 0 (fun q => xz x ≤ q) := by
  refine va_MetW (hh := tLd) (cc := method_3_code) (maxL := 4) (ret := some .int) (by decide) rfl ?_
  intro p e s m args below meth c s₁ B hml hv
  obtain ⟨rfl, hH, hK, hLd⟩ := hv
  have hx := B.exec
  have hb := B.bytes
  have hr := B.returns
  have hlocks := B.notSynchronized
  have hts0 := atoms_spec (ws := wsLl) B.pre
  have hts : ∀ w ∈ TW, w.before _ s = true := fun w hw => hts0 w (List.mem_cons_of_mem _ hw)
  have hown : s.vm.findClass R_law = some m.cls := findClass_of_methodNamed B.named
  have hl := lv_entry ([.ref (adr x 0), .int z, .ref (adr x 351)]) (n := 4) (Nat.le_of_ble_eq_true rfl)
  rw [lg_entry_eq]
  generalize hgen : (lg_sl ([.ref (adr x 0), .int z, .ref (adr x 351)]) ++ List.replicate (4 - (lg_sl ([.ref (adr x 0), .int z, .ref (adr x 351)])).length) Slot.unset).toArray = ls at hl
  have hl : lv_has ls 4 [(0, .ref (adr x 0)), (1, .int z), (2, .ref (adr x 351))] := hl
  show W p l e _ s m _ below meth c s.heap [] 0 0 _ (F0 m 0 (lg_sl ([.ref (adr x 0), .int z, .ref (adr x 351)]) ++ List.replicate (4 - (lg_sl ([.ref (adr x 0), .int z, .ref (adr x 351)])).length) Slot.unset).toArray [])
  rw [hgen]
  refine lv_aload_n hx hb jl_0 rfl (lv_at hl 2 rfl) ?_
  refine lv_iconst (v := 0) hx hb jl_1 (by decide) ?_
  refine lv_aload_n hx hb jl_2 rfl (lv_at hl 0 rfl) ?_
  refine lv_iload_n hx hb jl_3 rfl (lv_at hl 1 rfl) ?_
  obtain ⟨cell, o1, o2, o3, -⟩ := hH.obj (ci := 11) (by decide) hF.1
  have hpre : PreV s s.heap RX11 (adr x 0) (PcD x [.ref 0, .int z] G I) [.int z] := ⟨PcD.blind x _ G I, ⟨cell, o1, by rw [o3]; rfl, by rw [o2]; exact (hK.1 11 (by decide)).2.1⟩, fun U hU hW => ⟨rfl, by rw [hU]; exact hH, KK.warm hW hK, LdW.warm hW hLd⟩⟩
  have hfix : CallFix p m c method_3_code 4 s _ TW R_law := ⟨hx, hb, hml, hown, hts⟩
  refine W_run (va_runV (As := [.int z]) (rest := [.int 0, .ref (adr x 351)]) hfix (met_ledA l hF hg) ⟨callB_of 1 hts gLdc rfl rfl rfl (hts _ ini11) (hts (.methodLink R_law 7 yX11_led) (inTW 1387 (by decide +kernel) rfl)) ⟨by decide, by decide, by decide +kernel⟩ ⟨Nat.le_of_ble_eq_true rfl, Nat.le_of_ble_eq_true rfl⟩, hts (.instanceMethod yX11_led) (inTW 1388 (by decide +kernel) rfl), hts (.selects RX11 yX11_led yX11_led) (inTW 1389 (by decide +kernel) rfl)⟩ hpre rfl rfl hl.1 rfl (lv_room (Nat.le_of_ble_eq_true rfl)) jl_4 ⟨Nat.zero_le _, Nat.zero_le _⟩) (fun v' st₀ t L h0 hq hL => ?_)
  obtain ⟨q1, q2⟩ := hq
  cases q1
  refine lv_i2l (v := (nI b).toInt64) hx hb jl_7 rfl ?_
  refine hm_last (a := 351) (n := 1) (i := 0) hx hb hK q2 (fun q hq => hL q (by simpa using hq)) h351 (by decide) jl_8 (fun H2 locs2 h3 h4 => ?_)
  refine lv_goto (tgt := 15) hx hb jl_9 (by decide) ?_
  refine lv_iconst (v := 0) hx hb jl_15 (by decide) ?_
  exact W.iret (v := 0) hx hb hr (fun t ht hW => ⟨rfl, by rw [ht]; exact h3⟩) h4 jl_16
def QcB (x : Cx) (G : Gm) (I : Im) : Array Value → State → Outcome → State → Prop := fun _ _ o t => o = .returned (some (.int 1)) ∧ HM x (gPad G 1) I t.heap
def rmB : Room := { frames := 14, cells := 1, slots := 6, locals := 700 }
theorem met_llB {x : Cx} (l : Launch) (hlt : l.stackTraces = false) {z : Int32} {G : Gm} {I : Im} {sh N : Nat} {f : Nat → Bool} (hF : LdF x G I sh N f) (hn : gN G + 1 ≤ 1000000) (hg : ledG f z N 0 0 = none) : Met l yLd wsLl rmB (PcD x [.ref 0, .int z, .ref 351] G I) (QcB x G I) 1 6 (fun q => xz x ≤ q) := by
  refine va_MetW (hh := tLd) (cc := method_3_code) (maxL := 4) (ret := some .int) (by decide) rfl ?_
  intro p e s m args below meth c s₁ B hml hv
  obtain ⟨rfl, hH, hK, hLd⟩ := hv
  have hx := B.exec
  have hb := B.bytes
  have hr := B.returns
  have hlocks := B.notSynchronized
  have hts0 := atoms_spec (ws := wsLl) B.pre
  have hts : ∀ w ∈ TW, w.before _ s = true := fun w hw => hts0 w (List.mem_cons_of_mem _ hw)
  have hown : s.vm.findClass R_law = some m.cls := findClass_of_methodNamed B.named
  have hl := lv_entry ([.ref (adr x 0), .int z, .ref (adr x 351)]) (n := 4) (Nat.le_of_ble_eq_true rfl)
  rw [lg_entry_eq]
  generalize hgen : (lg_sl ([.ref (adr x 0), .int z, .ref (adr x 351)]) ++ List.replicate (4 - (lg_sl ([.ref (adr x 0), .int z, .ref (adr x 351)])).length) Slot.unset).toArray = ls at hl
  have hl : lv_has ls 4 [(0, .ref (adr x 0)), (1, .int z), (2, .ref (adr x 351))] := hl
  show W p l e _ s m _ below meth c s.heap [] 0 0 _ (F0 m 0 (lg_sl ([.ref (adr x 0), .int z, .ref (adr x 351)]) ++ List.replicate (4 - (lg_sl ([.ref (adr x 0), .int z, .ref (adr x 351)])).length) Slot.unset).toArray [])
  rw [hgen]
  refine lv_aload_n hx hb jl_0 rfl (lv_at hl 2 rfl) ?_
  refine lv_iconst (v := 0) hx hb jl_1 (by decide) ?_
  refine lv_aload_n hx hb jl_2 rfl (lv_at hl 0 rfl) ?_
  refine lv_iload_n hx hb jl_3 rfl (lv_at hl 1 rfl) ?_
  obtain ⟨cell, o1, o2, o3, -⟩ := hH.obj (ci := 11) (by decide) hF.1
  have hpre : PreV s s.heap RX11 (adr x 0) (PcD x [.ref 0, .int z] G I) [.int z] := ⟨PcD.blind x _ G I, ⟨cell, o1, by rw [o3]; rfl, by rw [o2]; exact (hK.1 11 (by decide)).2.1⟩, fun U hU hW => ⟨rfl, by rw [hU]; exact hH, KK.warm hW hK, LdW.warm hW hLd⟩⟩
  have hfix : CallFix p m c method_3_code 4 s _ TW R_law := ⟨hx, hb, hml, hown, hts⟩
  intro T hT X
  rcases vx_runV (As := [.int z]) (rest := [.int 0, .ref (adr x 351)]) hfix (met_ledB l hlt hF hg) ⟨callB_of 1 hts gLdc rfl rfl rfl (hts _ ini11) (hts (.methodLink R_law 7 yX11_led) (inTW 1387 (by decide +kernel) rfl)) ⟨by decide, by decide, by decide +kernel⟩ ⟨Nat.le_of_ble_eq_true rfl, Nat.le_of_ble_eq_true rfl⟩, hts (.instanceMethod yX11_led) (inTW 1388 (by decide +kernel) rfl), hts (.selects RX11 yX11_led yX11_led) (inTW 1389 (by decide +kernel) rfl)⟩ hpre rfl rfl hl.1 rfl (lv_room (Nat.le_of_ble_eq_true rfl)) jl_4 ⟨Nat.le_of_ble_eq_true rfl, Nat.le_of_ble_eq_true rfl⟩ T hT X with ⟨v, st₀, t, T', L, -, -, -, -, -, hfalse, -⟩ | ⟨q, st₀, t, T', L, E, ce, h0, X', hL, e1, e2, hxc, hce, hcv, hcl, st⟩
  · exact hfalse.elim
  · obtain ⟨rfl, H1, g1, g2, g3⟩ := hxc
    have hsz : T'.heap.size ≤ s.heap.size + (0 + 1) := X'.same.2.2.1
    rw [e1] at hsz
    have hz1 := g1.1
    have hz0 := hH.1
    have hn1 : t.heap.size = H1.size + 1 := by omega
    have hP : HM x (gPad G 1) I t.heap := g1.pad (by omega) hn1 g3
    have hk : vx_W p l e (headSpec wsLl rmB).room s m ((([.ref 0, .int z, .ref 351] : List Value).map (cv x)).toArray) below meth c t.heap ([] ++ L) (0 + 1) (0 + 6) (MQ below (QcB x G I) ((([.ref 0, .int z, .ref 351] : List Value).map (cv x)).toArray) s 1 6 (fun q => xz x ≤ q)) (F0 m 4 ls [.int 0, .ref (adr x 351)]) q := by
      refine vx_catch (own := R_law) (name := nse) (E := nse) hown [] ⟨0, 9, 12, 13⟩ [] ((vx_table (x := yLd) (hh := tLd) B (hts0 (Cond.codeWith yLd method_3_code 4 (some .int) tLd) List.mem_cons_self)).trans rfl) (fun y hy => by cases hy) (by decide) (by decide) (hts (.classLink R_law 13 nse) (inTW 1386 (by decide +kernel) rfl)) (va_Nw.use rfl hLd.1.2.2.2) hce hcv hcl ?_
      refine lv_astore_n hx hb jl_12 rfl hl (by decide) rfl (fun ls1 hl1 => ?_)
      refine lv_iconst (v := 1) hx hb jl_13 (by decide) ?_
      exact W.iret (v := 1) hx hb hr (fun t2 ht2 hW => ⟨rfl, by rw [ht2]; exact hP⟩) (fun q hq => hL q (by simpa using hq)) jl_14
    obtain ⟨t2, a1, b1⟩ := hk T' e1 X'
    exact ⟨t2, st.trans a1, b1⟩
