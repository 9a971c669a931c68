/-! String.length and String.charAt on the constants: JX closed -/
def PJ (x : Cx) (as : List Value) : Array Value → State → Prop := fun a U => a = as.toArray ∧ (∀ q, q < xz x → U.heap[q]? = (xH x)[q]?) ∧ StW x U
def QJ (v : Option Value) : Array Value → State → Outcome → State → Prop := fun _ st o t => o = .returned v ∧ t.heap = st.heap
theorem PJ.blind (x : Cx) (as : List Value) : FrameBlind (PJ x as) := fun a U g mk q => ⟨q.1, q.2.1, StW.moved (u := U) (U := U.calling g mk a) (Vm.Alike.refl U.vm) q.2.2⟩
/-- the texts' world, in a heap that is as it was below the base -/
def StA (x : Cx) (U : State) (H : Heap) : Prop :=
  (∀ i, i < 49 → ∃ v, va_O "java/lang/String" (xk x i) (fun q => xz x ≤ q) U H ∧ va_OF "java/lang/String" "coder" "B" (.int 0) (xk x i) (fun q => xz x ≤ q) U H ∧ va_OF "java/lang/String" "value" "[B" (.ref v) (xk x i) (fun q => xz x ≤ q) U H ∧ va_T .byte v (sB.getD i []).length (fun j => .int ((sB.getD i []).getD j 0)) (fun q => xz x ≤ q) U H) ∧
  va_Z "java/lang/String" "COMPACT_STRINGS" "Z" (.int 1) (fun q => xz x ≤ q) U H ∧ va_Zq "jdk/internal/util/Preconditions" "SIOOBE_FORMATTER" "Ljava/util/function/BiFunction;" (fun q => xz x ≤ q) U H
theorem StW.at {x : Cx} {U : State} {H : Heap} (h : StW x U) (hH : ∀ q, q < xz x → H[q]? = (xH x)[q]?) : StA x U H := by
  have hq : ∀ a : Nat, a < (xH x).size → ¬ (xz x ≤ a) → H[a]? = (xH x)[a]? := fun a _ ha => hH a (Nat.not_le.mp ha)
  refine ⟨fun i hi => ?_, h.2.1.kept hq, h.2.2.kept hq⟩
  obtain ⟨v, h1, h2, h3, h4⟩ := h.1 i hi
  exact ⟨v, h1.kept hq, h2.kept hq, h3.kept hq, h4.kept hq⟩
theorem sB_all : (List.range 49).all (fun i => (List.range (sB.getD i []).length).all (fun j => decide (((sB.getD i []).getD j 0).toNatClampNeg < 128 ∧ (sB.getD i []).getD j 0 = nI ((sB.getD i []).getD j 0).toNatClampNeg))) = true := by decide +kernel
theorem sB_len : (List.range 49).all (fun i => decide ((sB.getD i []).length < 100)) = true := by decide +kernel
theorem sB_ok {i j : Nat} (hi : i < 49) (hj : j < (sB.getD i []).length) : ∃ q, q < 128 ∧ (sB.getD i []).getD j 0 = nI q :=
  ⟨_, of_decide_eq_true (List.all_eq_true.mp (List.all_eq_true.mp sB_all i (List.mem_range.mpr hi)) j (List.mem_range.mpr hj))⟩
theorem sB_lt {i : Nat} (hi : i < 49) : (sB.getD i []).length < 100 := of_decide_eq_true (List.all_eq_true.mp sB_len i (List.mem_range.mpr hi))
theorem ch_and : ∀ q : Fin 128, (nI q &&& 255) = nI q := by decide +kernel
theorem ch_c : ∀ q : Fin 128, ((nI q).toUInt32 % 65536).toInt32 = nI q := by decide +kernel
theorem ch_n (q : Nat) (h : q < 128) : narrow .char (.int (nI q)) = .int (nI q) := (pk_charN (q := q) (by omega)).1
theorem T_bald {p : Program} {l : Launch} {e : Env} {R : Room} {s : State} {m : MethodId} {args : Array Value} {below : List Frame} {meth : Method} {c : Code} {H : Heap} {locs : List Loc} {cells slots : Nat} {Q : State → Prop} {cc : ByteArray} {pc : Nat} {ls : Array Slot} {rest : List Value} {A : Nat → Prop} {t N : Nat} {f : Nat → Value}
    (hexec : p.tables.exec = Jvm.exec) (hb : c.code = cc) (hT : va_T .byte t N f A s s.heap) (hS : va_S A s.heap H locs) (hN : N < 100) {k : Nat} (hk : k < N) {v : Value} (hv : f k = v) (hdg : decode cc pc = .ok (.baload, 1))
    (kk : W p l e R s m args below meth c H locs cells slots Q (F0 m (pc + 1) ls (v :: rest))) : W p l e R s m args below meth c H locs cells slots Q (F0 m pc ls (.int (nI k) :: .ref t :: rest)) := by
  obtain ⟨cell, h1, h2, h3, h4, h5, h6, h7⟩ := hT
  have hcl : (nI k).toNatClampNeg = k := nI_clamp (by omega)
  exact W.bald (v := v) hexec hb (by rw [hS.2.1 t (Array.getElem?_eq_some_iff.mp h1).1 h7]; exact h1) h2 h3 (fun q => by
    rcases q with q | q
    · exact nI_pos (by omega) q
    · rw [hcl] at q; omega) (by rw [hcl, h6 k hk, hv]) rfl rfl hdg kk
def yCod : MethodName := ⟨"java/lang/String", "coder", "()B"⟩
abbrev bCod : ByteArray := prog_22_method_152_code
theorem wCod : Cond.code yCod bCod 1 (some .byte) ∈ TW := inTW 640 (by decide +kernel) rfl
def wsCod : List Jvm.Cond := Cond.code yCod bCod 1 (some .byte) :: TW
theorem gCod : GoodIn TW wsCod := by
  have key : ∀ w ∈ TW, w ∈ TW ∧ ((w.onTables && w.keeps) = true ∨ ∃ ty, w = .arrayClass ty) := fun w hw => ⟨hw, good_of_word (List.mem_filter.mp hw).2⟩
  intro w hw
  rcases List.mem_cons.mp hw with rfl | hw
  · exact key _ wCod
  · exact key _ hw
theorem jCod_0 : decode bCod 0 = .ok (.getstatic 38, 3) := by decide +kernel
theorem jCod_3 : decode bCod 3 = .ok (.ifCond .eq 10, 3) := by decide +kernel
theorem jCod_6 : decode bCod 6 = .ok (.aload_n 0, 1) := by decide +kernel
theorem jCod_7 : decode bCod 7 = .ok (.getfield 15, 3) := by decide +kernel
theorem jCod_10 : decode bCod 10 = .ok (.goto 4, 3) := by decide +kernel
theorem jCod_14 : decode bCod 14 = .ok (.ireturn, 1) := by decide +kernel
def yLat : MethodName := ⟨"java/lang/String", "isLatin1", "()Z"⟩
abbrev bLat : ByteArray := prog_22_method_154_code
theorem wLat : Cond.code yLat bLat 1 (some .boolean) ∈ TW := inTW 650 (by decide +kernel) rfl
def wsLat : List Jvm.Cond := Cond.code yLat bLat 1 (some .boolean) :: TW
theorem gLat : GoodIn TW wsLat := by
  have key : ∀ w ∈ TW, w ∈ TW ∧ ((w.onTables && w.keeps) = true ∨ ∃ ty, w = .arrayClass ty) := fun w hw => ⟨hw, good_of_word (List.mem_filter.mp hw).2⟩
  intro w hw
  rcases List.mem_cons.mp hw with rfl | hw
  · exact key _ wLat
  · exact key _ hw
theorem jLat_0 : decode bLat 0 = .ok (.getstatic 38, 3) := by decide +kernel
theorem jLat_3 : decode bLat 3 = .ok (.ifCond .eq 14, 3) := by decide +kernel
theorem jLat_6 : decode bLat 6 = .ok (.aload_n 0, 1) := by decide +kernel
theorem jLat_7 : decode bLat 7 = .ok (.getfield 15, 3) := by decide +kernel
theorem jLat_10 : decode bLat 10 = .ok (.ifCond .ne 7, 3) := by decide +kernel
theorem jLat_13 : decode bLat 13 = .ok (.iconst 1, 1) := by decide +kernel
theorem jLat_14 : decode bLat 14 = .ok (.goto 4, 3) := by decide +kernel
theorem jLat_18 : decode bLat 18 = .ok (.ireturn, 1) := by decide +kernel
def yLen : MethodName := ⟨"java/lang/String", "length", "()I"⟩
abbrev bLen : ByteArray := prog_22_method_54_code
theorem wLen : Cond.code yLen bLen 1 (some .int) ∈ TW := inTW 636 (by decide +kernel) rfl
def wsLen : List Jvm.Cond := Cond.code yLen bLen 1 (some .int) :: TW
theorem gLen : GoodIn TW wsLen := by
  have key : ∀ w ∈ TW, w ∈ TW ∧ ((w.onTables && w.keeps) = true ∨ ∃ ty, w = .arrayClass ty) := fun w hw => ⟨hw, good_of_word (List.mem_filter.mp hw).2⟩
  intro w hw
  rcases List.mem_cons.mp hw with rfl | hw
  · exact key _ wLen
  · exact key _ hw
theorem jLen_0 : decode bLen 0 = .ok (.aload_n 0, 1) := by decide +kernel
theorem jLen_1 : decode bLen 1 = .ok (.getfield 9, 3) := by decide +kernel
theorem jLen_4 : decode bLen 4 = .ok (.arraylength, 1) := by decide +kernel
theorem jLen_5 : decode bLen 5 = .ok (.aload_n 0, 1) := by decide +kernel
theorem jLen_6 : decode bLen 6 = .ok (.invokevirtual 335, 3) := by decide +kernel
theorem jLen_9 : decode bLen 9 = .ok (.ishr, 1) := by decide +kernel
theorem jLen_10 : decode bLen 10 = .ok (.ireturn, 1) := by decide +kernel
def yPre : MethodName := ⟨"jdk/internal/util/Preconditions", "checkIndex", "(IILjava/util/function/BiFunction;)I"⟩
abbrev bPre : ByteArray := prog_30_method_11_code
theorem wPre : Cond.code yPre bPre 3 (some .int) ∈ TW := inTW 661 (by decide +kernel) rfl
def wsPre : List Jvm.Cond := Cond.code yPre bPre 3 (some .int) :: TW
theorem gPre : GoodIn TW wsPre := by
  have key : ∀ w ∈ TW, w ∈ TW ∧ ((w.onTables && w.keeps) = true ∨ ∃ ty, w = .arrayClass ty) := fun w hw => ⟨hw, good_of_word (List.mem_filter.mp hw).2⟩
  intro w hw
  rcases List.mem_cons.mp hw with rfl | hw
  · exact key _ wPre
  · exact key _ hw
theorem jPre_0 : decode bPre 0 = .ok (.iload_n 0, 1) := by decide +kernel
theorem jPre_1 : decode bPre 1 = .ok (.ifCond .lt 8, 3) := by decide +kernel
theorem jPre_4 : decode bPre 4 = .ok (.iload_n 0, 1) := by decide +kernel
theorem jPre_5 : decode bPre 5 = .ok (.iload_n 1, 1) := by decide +kernel
theorem jPre_6 : decode bPre 6 = .ok (.if_icmp .lt 10, 3) := by decide +kernel
theorem jPre_16 : decode bPre 16 = .ok (.iload_n 0, 1) := by decide +kernel
theorem jPre_17 : decode bPre 17 = .ok (.ireturn, 1) := by decide +kernel
def yChk : MethodName := ⟨"java/lang/String", "checkIndex", "(II)V"⟩
abbrev bChk : ByteArray := prog_22_method_155_code
theorem wChk : Cond.code yChk bChk 2 none ∈ TW := inTW 656 (by decide +kernel) rfl
def wsChk : List Jvm.Cond := Cond.code yChk bChk 2 none :: TW
theorem gChk : GoodIn TW wsChk := by
  have key : ∀ w ∈ TW, w ∈ TW ∧ ((w.onTables && w.keeps) = true ∨ ∃ ty, w = .arrayClass ty) := fun w hw => ⟨hw, good_of_word (List.mem_filter.mp hw).2⟩
  intro w hw
  rcases List.mem_cons.mp hw with rfl | hw
  · exact key _ wChk
  · exact key _ hw
theorem jChk_0 : decode bChk 0 = .ok (.iload_n 0, 1) := by decide +kernel
theorem jChk_1 : decode bChk 1 = .ok (.iload_n 1, 1) := by decide +kernel
theorem jChk_2 : decode bChk 2 = .ok (.getstatic 1053, 3) := by decide +kernel
theorem jChk_5 : decode bChk 5 = .ok (.invokestatic 1059, 3) := by decide +kernel
theorem jChk_8 : decode bChk 8 = .ok (.pop, 1) := by decide +kernel
theorem jChk_9 : decode bChk 9 = .ok (.return_, 1) := by decide +kernel
def yL1c : MethodName := ⟨"java/lang/StringLatin1", "charAt", "([BI)C"⟩
abbrev bL1c : ByteArray := prog_23_method_2_code
theorem wL1c : Cond.code yL1c bL1c 2 (some .char) ∈ TW := inTW 653 (by decide +kernel) rfl
def wsL1c : List Jvm.Cond := Cond.code yL1c bL1c 2 (some .char) :: TW
theorem gL1c : GoodIn TW wsL1c := by
  have key : ∀ w ∈ TW, w ∈ TW ∧ ((w.onTables && w.keeps) = true ∨ ∃ ty, w = .arrayClass ty) := fun w hw => ⟨hw, good_of_word (List.mem_filter.mp hw).2⟩
  intro w hw
  rcases List.mem_cons.mp hw with rfl | hw
  · exact key _ wL1c
  · exact key _ hw
theorem jL1c_0 : decode bL1c 0 = .ok (.iload_n 1, 1) := by decide +kernel
theorem jL1c_1 : decode bL1c 1 = .ok (.aload_n 0, 1) := by decide +kernel
theorem jL1c_2 : decode bL1c 2 = .ok (.arraylength, 1) := by decide +kernel
theorem jL1c_3 : decode bL1c 3 = .ok (.invokestatic 9, 3) := by decide +kernel
theorem jL1c_6 : decode bL1c 6 = .ok (.aload_n 0, 1) := by decide +kernel
theorem jL1c_7 : decode bL1c 7 = .ok (.iload_n 1, 1) := by decide +kernel
theorem jL1c_8 : decode bL1c 8 = .ok (.baload, 1) := by decide +kernel
theorem jL1c_9 : decode bL1c 9 = .ok (.sipush 255, 3) := by decide +kernel
theorem jL1c_12 : decode bL1c 12 = .ok (.iand, 1) := by decide +kernel
theorem jL1c_13 : decode bL1c 13 = .ok (.i2c, 1) := by decide +kernel
theorem jL1c_14 : decode bL1c 14 = .ok (.ireturn, 1) := by decide +kernel
def yCha : MethodName := ⟨"java/lang/String", "charAt", "(I)C"⟩
abbrev bCha : ByteArray := prog_22_method_56_code
theorem wCha : Cond.code yCha bCha 2 (some .char) ∈ TW := inTW 646 (by decide +kernel) rfl
def wsCha : List Jvm.Cond := Cond.code yCha bCha 2 (some .char) :: TW
theorem gCha : GoodIn TW wsCha := by
  have key : ∀ w ∈ TW, w ∈ TW ∧ ((w.onTables && w.keeps) = true ∨ ∃ ty, w = .arrayClass ty) := fun w hw => ⟨hw, good_of_word (List.mem_filter.mp hw).2⟩
  intro w hw
  rcases List.mem_cons.mp hw with rfl | hw
  · exact key _ wCha
  · exact key _ hw
theorem jCha_0 : decode bCha 0 = .ok (.aload_n 0, 1) := by decide +kernel
theorem jCha_1 : decode bCha 1 = .ok (.invokevirtual 492, 3) := by decide +kernel
theorem jCha_4 : decode bCha 4 = .ok (.ifCond .eq 12, 3) := by decide +kernel
theorem jCha_7 : decode bCha 7 = .ok (.aload_n 0, 1) := by decide +kernel
theorem jCha_8 : decode bCha 8 = .ok (.getfield 9, 3) := by decide +kernel
theorem jCha_11 : decode bCha 11 = .ok (.iload_n 1, 1) := by decide +kernel
theorem jCha_12 : decode bCha 12 = .ok (.invokestatic 495, 3) := by decide +kernel
theorem jCha_15 : decode bCha 15 = .ok (.ireturn, 1) := by decide +kernel
theorem iniJS : Cond.initialized "java/lang/String" ∈ TW := inTW 15 (by decide +kernel) rfl
theorem iniJL : Cond.initialized "java/lang/StringLatin1" ∈ TW := inTW 16 (by decide +kernel) rfl
theorem iniJP : Cond.initialized "jdk/internal/util/Preconditions" ∈ TW := inTW 17 (by decide +kernel) rfl
def rmJ (f n : Nat) : Room := { frames := f, cells := 0, slots := 0, locals := n }
theorem c_cod (x : Cx) (l : Launch) {i : Nat} (hi : i < 49) : Met l yCod wsCod (rmJ 0 0) (PJ x [.ref (xk x i)]) (QJ (some (.int 0))) 0 0 (fun q => xz x ≤ q) := by
  refine Met.ofW (cc := bCod) (maxL := 1) (ret := (some .byte)) (by decide) rfl ?_
  intro p e s m args below meth c s₁ B hml hv
  obtain ⟨rfl, hB, hSt⟩ := hv
  have hx := B.exec
  have hb := B.bytes
  have hr := B.returns
  have hts0 := atoms_spec (ws := wsCod) B.pre
  have hts : ∀ w ∈ TW, w.before _ s = true := fun w hw => hts0 w (List.mem_cons_of_mem _ hw)
  have hown : s.vm.findClass "java/lang/String" = some m.cls := findClass_of_methodNamed B.named
  have hlocks := B.notSynchronized
  obtain ⟨hs, hZ, hZq⟩ := hSt.at hB
  have hS : va_S (fun q => xz x ≤ q) s.heap s.heap [] := va_S.rf
  have hl := lv_entry ([.ref (xk x i)]) (n := 1) (Nat.le_of_ble_eq_true rfl)
  rw [lg_entry_eq]
  generalize (lg_sl ([.ref (xk x i)]) ++ List.replicate (1 - (lg_sl ([.ref (xk x i)])).length) Slot.unset).toArray = ls at hl ⊢
  have hl : lv_has ls 1 [(0, .ref (xk x i))] := hl
  obtain ⟨v, o1, o2, o3, o4⟩ := hs i hi
  refine va_gets hx hb hZ hS hown (hts (.fieldLink "java/lang/String" 38 "java/lang/String" "COMPACT_STRINGS" "Z") (inTW 641 (by decide +kernel) rfl)) (fun _ h9 => h9) jCod_0 ?_
  refine lv_if_eq (tgt := 13) hx hb jCod_3 (by decide) (fun h => absurd h (by decide)) (fun _ => ?_)
  refine lv_aload_n hx hb jCod_6 rfl (lv_at hl 0 rfl) ?_
  refine vk_getf hx hb o2 hS hown (hts (.fieldLink "java/lang/String" 15 "java/lang/String" "coder" "B") (inTW 2278 (by decide +kernel) rfl)) (fun _ h9 => h9) jCod_7 ?_
  refine lv_goto (tgt := 14) hx hb jCod_10 (by decide) ?_
  exact W.zret (v := 0) hx hb hr rfl (fun t ht hW => ⟨rfl, ht⟩) (fun q hq => by cases hq) jCod_14
theorem c_lat (x : Cx) (l : Launch) {i : Nat} (hi : i < 49) : Met l yLat wsLat (rmJ 0 0) (PJ x [.ref (xk x i)]) (QJ (some (.int 1))) 0 0 (fun q => xz x ≤ q) := by
  refine Met.ofW (cc := bLat) (maxL := 1) (ret := (some .boolean)) (by decide) rfl ?_
  intro p e s m args below meth c s₁ B hml hv
  obtain ⟨rfl, hB, hSt⟩ := hv
  have hx := B.exec
  have hb := B.bytes
  have hr := B.returns
  have hts0 := atoms_spec (ws := wsLat) B.pre
  have hts : ∀ w ∈ TW, w.before _ s = true := fun w hw => hts0 w (List.mem_cons_of_mem _ hw)
  have hown : s.vm.findClass "java/lang/String" = some m.cls := findClass_of_methodNamed B.named
  have hlocks := B.notSynchronized
  obtain ⟨hs, hZ, hZq⟩ := hSt.at hB
  have hS : va_S (fun q => xz x ≤ q) s.heap s.heap [] := va_S.rf
  have hl := lv_entry ([.ref (xk x i)]) (n := 1) (Nat.le_of_ble_eq_true rfl)
  rw [lg_entry_eq]
  generalize (lg_sl ([.ref (xk x i)]) ++ List.replicate (1 - (lg_sl ([.ref (xk x i)])).length) Slot.unset).toArray = ls at hl ⊢
  have hl : lv_has ls 1 [(0, .ref (xk x i))] := hl
  obtain ⟨v, o1, o2, o3, o4⟩ := hs i hi
  refine va_gets hx hb hZ hS hown (hts (.fieldLink "java/lang/String" 38 "java/lang/String" "COMPACT_STRINGS" "Z") (inTW 641 (by decide +kernel) rfl)) (fun _ h9 => h9) jLat_0 ?_
  refine lv_if_eq (tgt := 17) hx hb jLat_3 (by decide) (fun h => absurd h (by decide)) (fun _ => ?_)
  refine lv_aload_n hx hb jLat_6 rfl (lv_at hl 0 rfl) ?_
  refine vk_getf hx hb o2 hS hown (hts (.fieldLink "java/lang/String" 15 "java/lang/String" "coder" "B") (inTW 2278 (by decide +kernel) rfl)) (fun _ h9 => h9) jLat_7 ?_
  refine lv_if_ne (tgt := 17) hx hb jLat_10 (by decide) (fun h => absurd rfl h) (fun _ => ?_)
  refine lv_iconst (v := 1) hx hb jLat_13 (by decide) ?_
  refine lv_goto (tgt := 18) hx hb jLat_14 (by decide) ?_
  exact W.zret (v := 1) hx hb hr rfl (fun t ht hW => ⟨rfl, ht⟩) (fun q hq => by cases hq) jLat_18
theorem c_len (x : Cx) (l : Launch) {i : Nat} (hi : i < 49) : Met l yLen wsLen (rmJ 1 20) (PJ x [.ref (xk x i)]) (QJ (some (.int (nI (sB.getD i []).length)))) 0 0 (fun q => xz x ≤ q) := by
  refine Met.ofW (cc := bLen) (maxL := 1) (ret := (some .int)) (by decide) rfl ?_
  intro p e s m args below meth c s₁ B hml hv
  obtain ⟨rfl, hB, hSt⟩ := hv
  have hx := B.exec
  have hb := B.bytes
  have hr := B.returns
  have hts0 := atoms_spec (ws := wsLen) B.pre
  have hts : ∀ w ∈ TW, w.before _ s = true := fun w hw => hts0 w (List.mem_cons_of_mem _ hw)
  have hown : s.vm.findClass "java/lang/String" = some m.cls := findClass_of_methodNamed B.named
  have hlocks := B.notSynchronized
  obtain ⟨hs, hZ, hZq⟩ := hSt.at hB
  have hS : va_S (fun q => xz x ≤ q) s.heap s.heap [] := va_S.rf
  have hl := lv_entry ([.ref (xk x i)]) (n := 1) (Nat.le_of_ble_eq_true rfl)
  rw [lg_entry_eq]
  generalize (lg_sl ([.ref (xk x i)]) ++ List.replicate (1 - (lg_sl ([.ref (xk x i)])).length) Slot.unset).toArray = ls at hl ⊢
  have hl : lv_has ls 1 [(0, .ref (xk x i))] := hl
  have hln := sB_lt hi
  obtain ⟨v, o1, o2, o3, o4⟩ := hs i hi
  refine lv_aload_n hx hb jLen_0 rfl (lv_at hl 0 rfl) ?_
  refine vk_getf hx hb o3 hS hown (hts (.fieldLink "java/lang/String" 9 "java/lang/String" "value" "[B") (inTW 2277 (by decide +kernel) rfl)) (fun _ h9 => h9) jLen_1 ?_
  refine va_tlen (v := nI (sB.getD i []).length) hx hb o4 hS rfl jLen_4 ?_
  refine lv_aload_n hx hb jLen_5 rfl (lv_at hl 0 rfl) ?_
  have hpre : PreV s s.heap "java/lang/String" (xk x i) (PJ x [.ref (xk x i)]) [] := ⟨PJ.blind x _, by
    obtain ⟨cell, h1, h2, h3, -⟩ := o1
    exact ⟨cell, h1, h2, h3⟩, fun U hU hW => ⟨rfl, by rw [hU]; exact hB, hSt.moved hW.alike⟩⟩
  refine W_run (va_runV (As := []) (rest := [.int (nI (sB.getD i []).length)]) (⟨hx, hb, hml, hown, hts⟩ : CallFix p m c bLen 1 s _ TW "java/lang/String") (c_cod x l hi) ⟨callB_of 0 hts gCod rfl rfl rfl (hts _ iniJS) (hts (.methodLink "java/lang/String" 335 yCod) (inTW 637 (by decide +kernel) rfl)) ⟨by decide, by decide, by decide +kernel⟩ ⟨Nat.le_of_ble_eq_true rfl, Nat.le_of_ble_eq_true rfl⟩, hts (.instanceMethod yCod) (inTW 638 (by decide +kernel) rfl), hts (.selects "java/lang/String" yCod yCod) (inTW 639 (by decide +kernel) rfl)⟩ hpre rfl rfl hl.1 rfl (lv_room (Nat.le_of_ble_eq_true rfl)) jLen_6 ⟨Nat.zero_le _, Nat.zero_le _⟩) (fun v' st₀ t L h0 hq hL => ?_)
  obtain ⟨q1, q2⟩ := hq
  cases q1
  rw [q2, h0]
  refine lv_ishr hx hb jLen_9 ?_
  have e0 : nI (sB.getD i []).length >>> ((0 : Int32) &&& 31) = nI (sB.getD i []).length := sc_shr0 (by omega)
  refine W.eq (g2 := F0 m 10 ls [.int (nI (sB.getD i []).length)]) (by rw [e0]) ?_
  exact W.iret (v := nI (sB.getD i []).length) hx hb hr (fun t2 ht2 hW => ⟨rfl, ht2⟩) (fun q hq => hL q (by simpa using hq)) jLen_10
theorem c_pre (x : Cx) (l : Launch) {k n : Nat} (hk : k < n) (hn : n < 100) {w : Value} (hw : w = .null ∨ ∃ t, w = .ref t) : Met l yPre wsPre (rmJ 0 0) (PJ x [.int (nI k), .int (nI n), w]) (QJ (some (.int (nI k)))) 0 0 (fun q => xz x ≤ q) := by
  rcases hw with rfl | ⟨t, rfl⟩

  · refine Met.ofW (cc := bPre) (maxL := 3) (ret := (some .int)) (by decide) rfl ?_
    intro p e s m args below meth c s₁ B hml hv
    obtain ⟨rfl, hB, hSt⟩ := hv
    have hx := B.exec
    have hb := B.bytes
    have hr := B.returns
    have hts0 := atoms_spec (ws := wsPre) B.pre
    have hts : ∀ w ∈ TW, w.before _ s = true := fun w hw => hts0 w (List.mem_cons_of_mem _ hw)
    have hown : s.vm.findClass "jdk/internal/util/Preconditions" = some m.cls := findClass_of_methodNamed B.named
    have hlocks := B.notSynchronized
    obtain ⟨hs, hZ, hZq⟩ := hSt.at hB
    have hS : va_S (fun q => xz x ≤ q) s.heap s.heap [] := va_S.rf
    have hl := lv_entry ([.int (nI k), .int (nI n), .null]) (n := 3) (Nat.le_of_ble_eq_true rfl)
    rw [lg_entry_eq]
    generalize (lg_sl ([.int (nI k), .int (nI n), .null]) ++ List.replicate (3 - (lg_sl ([.int (nI k), .int (nI n), .null])).length) Slot.unset).toArray = ls at hl ⊢
    have hl : lv_has ls 3 [(0, .int (nI k)), (1, .int (nI n)), (2, .null)] := hl
    refine lv_iload_n hx hb jPre_0 rfl (lv_at hl 0 rfl) ?_
    refine lv_if_lt (tgt := 9) hx hb jPre_1 (by decide) (fun h => absurd h (nI_pos (by omega))) (fun _ => ?_)
    refine lv_iload_n hx hb jPre_4 rfl (lv_at hl 0 rfl) ?_
    refine lv_iload_n hx hb jPre_5 rfl (lv_at hl 1 rfl) ?_
    refine lv_icmp_lt (tgt := 16) hx hb jPre_6 (by decide) (fun _ => ?_) (fun h => absurd (nI_lt hk (by omega)) h)
    refine lv_iload_n hx hb jPre_16 rfl (lv_at hl 0 rfl) ?_
    exact W.iret (v := nI k) hx hb hr (fun t ht hW => ⟨rfl, ht⟩) (fun q hq => by cases hq) jPre_17
  · refine Met.ofW (cc := bPre) (maxL := 3) (ret := (some .int)) (by decide) rfl ?_
    intro p e s m args below meth c s₁ B hml hv
    obtain ⟨rfl, hB, hSt⟩ := hv
    have hx := B.exec
    have hb := B.bytes
    have hr := B.returns
    have hts0 := atoms_spec (ws := wsPre) B.pre
    have hts : ∀ w ∈ TW, w.before _ s = true := fun w hw => hts0 w (List.mem_cons_of_mem _ hw)
    have hown : s.vm.findClass "jdk/internal/util/Preconditions" = some m.cls := findClass_of_methodNamed B.named
    have hlocks := B.notSynchronized
    obtain ⟨hs, hZ, hZq⟩ := hSt.at hB
    have hS : va_S (fun q => xz x ≤ q) s.heap s.heap [] := va_S.rf
    have hl := lv_entry ([.int (nI k), .int (nI n), .ref t]) (n := 3) (Nat.le_of_ble_eq_true rfl)
    rw [lg_entry_eq]
    generalize (lg_sl ([.int (nI k), .int (nI n), .ref t]) ++ List.replicate (3 - (lg_sl ([.int (nI k), .int (nI n), .ref t])).length) Slot.unset).toArray = ls at hl ⊢
    have hl : lv_has ls 3 [(0, .int (nI k)), (1, .int (nI n)), (2, .ref t)] := hl
    refine lv_iload_n hx hb jPre_0 rfl (lv_at hl 0 rfl) ?_
    refine lv_if_lt (tgt := 9) hx hb jPre_1 (by decide) (fun h => absurd h (nI_pos (by omega))) (fun _ => ?_)
    refine lv_iload_n hx hb jPre_4 rfl (lv_at hl 0 rfl) ?_
    refine lv_iload_n hx hb jPre_5 rfl (lv_at hl 1 rfl) ?_
    refine lv_icmp_lt (tgt := 16) hx hb jPre_6 (by decide) (fun _ => ?_) (fun h => absurd (nI_lt hk (by omega)) h)
    refine lv_iload_n hx hb jPre_16 rfl (lv_at hl 0 rfl) ?_
    exact W.iret (v := nI k) hx hb hr (fun t ht hW => ⟨rfl, ht⟩) (fun q hq => by cases hq) jPre_17
theorem c_chk (x : Cx) (l : Launch) {k n : Nat} (hk : k < n) (hn : n < 100) : Met l yChk wsChk (rmJ 1 22) (PJ x [.int (nI k), .int (nI n)]) (QJ none) 0 0 (fun q => xz x ≤ q) := by
  refine Met.ofW (cc := bChk) (maxL := 2) (ret := none) (by decide) rfl ?_
  intro p e s m args below meth c s₁ B hml hv
  obtain ⟨rfl, hB, hSt⟩ := hv
  have hx := B.exec
  have hb := B.bytes
  have hr := B.returns
  have hts0 := atoms_spec (ws := wsChk) B.pre
  have hts : ∀ w ∈ TW, w.before _ s = true := fun w hw => hts0 w (List.mem_cons_of_mem _ hw)
  have hown : s.vm.findClass "java/lang/String" = some m.cls := findClass_of_methodNamed B.named
  have hlocks := B.notSynchronized
  obtain ⟨hs, hZ, hZq⟩ := hSt.at hB
  have hS : va_S (fun q => xz x ≤ q) s.heap s.heap [] := va_S.rf
  have hl := lv_entry ([.int (nI k), .int (nI n)]) (n := 2) (Nat.le_of_ble_eq_true rfl)
  rw [lg_entry_eq]
  generalize (lg_sl ([.int (nI k), .int (nI n)]) ++ List.replicate (2 - (lg_sl ([.int (nI k), .int (nI n)])).length) Slot.unset).toArray = ls at hl ⊢
  have hl : lv_has ls 2 [(0, .int (nI k)), (1, .int (nI n))] := hl
  refine lv_iload_n hx hb jChk_0 rfl (lv_at hl 0 rfl) ?_
  refine lv_iload_n hx hb jChk_1 rfl (lv_at hl 1 rfl) ?_
  have core : ∀ w : Value, w = .null ∨ (∃ t, w = .ref t) → W p l e (headSpec wsChk (rmJ 1 22)).room s m ([.int (nI k), .int (nI n)] : List Value).toArray below meth c s.heap [] 0 0 (MQ below (QJ none) ([.int (nI k), .int (nI n)] : List Value).toArray s 0 0 (fun q => xz x ≤ q)) (F0 m 5 ls [w, .int (nI n), .int (nI k)]) := by
    intro w hw
    have hcat : w.category = 1 := by
      rcases hw with rfl | ⟨t, rfl⟩ <;> rfl
    have hpre : PreS s s.heap (PJ x [.int (nI k), .int (nI n), w]) [.int (nI k), .int (nI n), w] := ⟨PJ.blind x _, fun U hU hW => ⟨rfl, by rw [hU]; exact hB, hSt.moved hW.alike⟩⟩
    refine W_run (va_runS (As := [.int (nI k), .int (nI n), w]) (rest := []) (⟨hx, hb, hml, hown, hts⟩ : CallFix p m c bChk 2 s _ TW "java/lang/String") (c_pre x l hk hn hw) ⟨callB_of 3 hts gPre rfl rfl rfl (hts _ iniJP) (hts (.methodLink "java/lang/String" 1059 yPre) (inTW 659 (by decide +kernel) rfl)) ⟨by decide, by decide, by decide +kernel⟩ ⟨Nat.le_of_ble_eq_true rfl, Nat.le_of_ble_eq_true rfl⟩, hts (.static yPre) (inTW 660 (by decide +kernel) rfl)⟩ hpre rfl rfl hl.1 rfl (lv_room (Nat.le_of_ble_eq_true rfl)) jChk_5 ⟨Nat.zero_le _, Nat.zero_le _⟩) (fun v' st₀ t L h0 hq hL => ?_)
    obtain ⟨q1, q2⟩ := hq
    cases q1
    rw [q2, h0]
    refine lv_pop hx hb jChk_8 rfl ?_
    exact W.vret hx hb hr (fun t2 ht2 hW => ⟨rfl, ht2⟩) (fun q hq => hL q (by simpa using hq)) jChk_9
  rcases hZq with hZ0 | ⟨t, hZ0⟩
  · refine va_gets hx hb hZ0 hS hown (hts (.fieldLink "java/lang/String" 1053 "jdk/internal/util/Preconditions" "SIOOBE_FORMATTER" "Ljava/util/function/BiFunction;") (inTW 657 (by decide +kernel) rfl)) (fun _ h9 => h9) jChk_2 ?_
    exact core .null (Or.inl rfl)
  · refine va_gets hx hb hZ0 hS hown (hts (.fieldLink "java/lang/String" 1053 "jdk/internal/util/Preconditions" "SIOOBE_FORMATTER" "Ljava/util/function/BiFunction;") (inTW 657 (by decide +kernel) rfl)) (fun _ h9 => h9) jChk_2 ?_
    exact core (.ref t) (Or.inr ⟨t, rfl⟩)
theorem c_l1c (x : Cx) (l : Launch) {i k v : Nat} (hi : i < 49) (hk : k < (sB.getD i []).length) : Met l yL1c wsL1c (rmJ 2 43) (fun a U => PJ x [.ref v, .int (nI k)] a U ∧ va_T .byte v (sB.getD i []).length (fun j => .int ((sB.getD i []).getD j 0)) (fun q => xz x ≤ q) U U.heap) (QJ (some (.int ((sB.getD i []).getD k 0)))) 0 0 (fun q => xz x ≤ q) := by
  refine Met.ofW (cc := bL1c) (maxL := 2) (ret := (some .char)) (by decide) rfl ?_
  intro p e s m args below meth c s₁ B hml hv
  obtain ⟨⟨rfl, hB, hSt⟩, o4⟩ := hv
  have hx := B.exec
  have hb := B.bytes
  have hr := B.returns
  have hts0 := atoms_spec (ws := wsL1c) B.pre
  have hts : ∀ w ∈ TW, w.before _ s = true := fun w hw => hts0 w (List.mem_cons_of_mem _ hw)
  have hown : s.vm.findClass "java/lang/StringLatin1" = some m.cls := findClass_of_methodNamed B.named
  have hlocks := B.notSynchronized
  obtain ⟨hs, hZ, hZq⟩ := hSt.at hB
  have hS : va_S (fun q => xz x ≤ q) s.heap s.heap [] := va_S.rf
  have hl := lv_entry ([.ref v, .int (nI k)]) (n := 2) (Nat.le_of_ble_eq_true rfl)
  rw [lg_entry_eq]
  generalize (lg_sl ([.ref v, .int (nI k)]) ++ List.replicate (2 - (lg_sl ([.ref v, .int (nI k)])).length) Slot.unset).toArray = ls at hl ⊢
  have hl : lv_has ls 2 [(0, .ref v), (1, .int (nI k))] := hl
  have hln := sB_lt hi
  obtain ⟨q, hq128, hqv⟩ := sB_ok hi hk
  refine lv_iload_n hx hb jL1c_0 rfl (lv_at hl 1 rfl) ?_
  refine lv_aload_n hx hb jL1c_1 rfl (lv_at hl 0 rfl) ?_
  refine va_tlen (v := nI (sB.getD i []).length) hx hb o4 hS rfl jL1c_2 ?_
  have hpre : PreS s s.heap (PJ x [.int (nI k), .int (nI (sB.getD i []).length)]) [.int (nI k), .int (nI (sB.getD i []).length)] := ⟨PJ.blind x _, fun U hU hW => ⟨rfl, by rw [hU]; exact hB, hSt.moved hW.alike⟩⟩
  refine W_run (va_runS (As := [.int (nI k), .int (nI (sB.getD i []).length)]) (rest := []) (⟨hx, hb, hml, hown, hts⟩ : CallFix p m c bL1c 2 s _ TW "java/lang/StringLatin1") (c_chk x l hk hln) ⟨callB_of 2 hts gChk rfl rfl rfl (hts _ iniJS) (hts (.methodLink "java/lang/StringLatin1" 9 yChk) (inTW 654 (by decide +kernel) rfl)) ⟨by decide, by decide, by decide +kernel⟩ ⟨Nat.le_of_ble_eq_true rfl, Nat.le_of_ble_eq_true rfl⟩, hts (.static yChk) (inTW 655 (by decide +kernel) rfl)⟩ hpre rfl rfl hl.1 rfl (lv_room (Nat.le_of_ble_eq_true rfl)) jL1c_3 ⟨Nat.zero_le _, Nat.zero_le _⟩) (fun v' st₀ t L h0 hq hL => ?_)
  obtain ⟨q1, q2⟩ := hq
  cases q1
  rw [q2, h0]
  have hS2 : va_S (fun q => xz x ≤ q) s.heap s.heap ([] ++ L) := ⟨Nat.le_refl _, fun _ _ _ => rfl, fun q hq => hL q (by simpa using hq)⟩
  refine lv_aload_n hx hb jL1c_6 rfl (lv_at hl 0 rfl) ?_
  refine lv_iload_n hx hb jL1c_7 rfl (lv_at hl 1 rfl) ?_
  refine T_bald (v := .int (nI q)) hx hb o4 hS2 hln hk (by rw [hqv]) jL1c_8 ?_
  refine lv_sipush (v := 255) hx hb jL1c_9 (by decide) ?_
  refine lv_iand hx hb jL1c_12 ?_
  refine W.eq (g2 := F0 m 13 ls [.int (nI q)]) (by rw [ch_and ⟨q, hq128⟩]; rfl) ?_
  refine lv_i2c (v := nI q) hx hb jL1c_13 (ch_c ⟨q, hq128⟩) ?_
  rw [hqv]
  exact W.zret (v := nI q) hx hb hr (ch_n q hq128) (fun t2 ht2 hW => ⟨rfl, ht2⟩) (fun q hq => hL q (by simpa using hq)) jL1c_14
theorem c_cha (x : Cx) (l : Launch) {i k : Nat} (hi : i < 49) (hk : k < (sB.getD i []).length) : Met l yCha wsCha (rmJ 3 64) (PJ x [.ref (xk x i), .int (nI k)]) (QJ (some (.int ((sB.getD i []).getD k 0)))) 0 0 (fun q => xz x ≤ q) := by
  refine Met.ofW (cc := bCha) (maxL := 2) (ret := (some .char)) (by decide) rfl ?_
  intro p e s m args below meth c s₁ B hml hv
  obtain ⟨rfl, hB, hSt⟩ := hv
  have hx := B.exec
  have hb := B.bytes
  have hr := B.returns
  have hts0 := atoms_spec (ws := wsCha) B.pre
  have hts : ∀ w ∈ TW, w.before _ s = true := fun w hw => hts0 w (List.mem_cons_of_mem _ hw)
  have hown : s.vm.findClass "java/lang/String" = some m.cls := findClass_of_methodNamed B.named
  have hlocks := B.notSynchronized
  obtain ⟨hs, hZ, hZq⟩ := hSt.at hB
  have hS : va_S (fun q => xz x ≤ q) s.heap s.heap [] := va_S.rf
  have hl := lv_entry ([.ref (xk x i), .int (nI k)]) (n := 2) (Nat.le_of_ble_eq_true rfl)
  rw [lg_entry_eq]
  generalize (lg_sl ([.ref (xk x i), .int (nI k)]) ++ List.replicate (2 - (lg_sl ([.ref (xk x i), .int (nI k)])).length) Slot.unset).toArray = ls at hl ⊢
  have hl : lv_has ls 2 [(0, .ref (xk x i)), (1, .int (nI k))] := hl
  obtain ⟨v, o1, o2, o3, o4⟩ := hs i hi
  obtain ⟨q, hq128, hqv⟩ := sB_ok hi hk
  refine lv_aload_n hx hb jCha_0 rfl (lv_at hl 0 rfl) ?_
  have hpre : PreV s s.heap "java/lang/String" (xk x i) (PJ x [.ref (xk x i)]) [] := ⟨PJ.blind x _, by
    obtain ⟨cell, h1, h2, h3, -⟩ := o1
    exact ⟨cell, h1, h2, h3⟩, fun U hU hW => ⟨rfl, by rw [hU]; exact hB, hSt.moved hW.alike⟩⟩
  refine W_run (va_runV (As := []) (rest := []) (⟨hx, hb, hml, hown, hts⟩ : CallFix p m c bCha 2 s _ TW "java/lang/String") (c_lat x l hi) ⟨callB_of 0 hts gLat rfl rfl rfl (hts _ iniJS) (hts (.methodLink "java/lang/String" 492 yLat) (inTW 647 (by decide +kernel) rfl)) ⟨by decide, by decide, by decide +kernel⟩ ⟨Nat.le_of_ble_eq_true rfl, Nat.le_of_ble_eq_true rfl⟩, hts (.instanceMethod yLat) (inTW 648 (by decide +kernel) rfl), hts (.selects "java/lang/String" yLat yLat) (inTW 649 (by decide +kernel) rfl)⟩ hpre rfl rfl hl.1 rfl (lv_room (Nat.le_of_ble_eq_true rfl)) jCha_1 ⟨Nat.zero_le _, Nat.zero_le _⟩) (fun v' st₀ t L h0 hq hL => ?_)
  obtain ⟨q1, q2⟩ := hq
  cases q1
  rw [q2, h0]
  have hS2 : va_S (fun q => xz x ≤ q) s.heap s.heap ([] ++ L) := ⟨Nat.le_refl _, fun _ _ _ => rfl, fun q hq => hL q (by simpa using hq)⟩
  refine lv_if_eq (tgt := 16) hx hb jCha_4 (by decide) (fun h => absurd h (by decide)) (fun _ => ?_)
  refine lv_aload_n hx hb jCha_7 rfl (lv_at hl 0 rfl) ?_
  refine vk_getf hx hb o3 hS2 hown (hts (.fieldLink "java/lang/String" 9 "java/lang/String" "value" "[B") (inTW 2277 (by decide +kernel) rfl)) (fun _ h9 => h9) jCha_8 ?_
  refine lv_iload_n hx hb jCha_11 rfl (lv_at hl 1 rfl) ?_
  have hpre2 : PreS s s.heap (fun a U => PJ x [.ref v, .int (nI k)] a U ∧ va_T .byte v (sB.getD i []).length (fun j => .int ((sB.getD i []).getD j 0)) (fun q => xz x ≤ q) U U.heap) [.ref v, .int (nI k)] := ⟨fun a U g mk q => ⟨PJ.blind x _ a U g mk q.1, q.2.moved (u := U) (U := U.calling g mk a) (Vm.Alike.refl U.vm)⟩, fun U hU hW => ⟨⟨rfl, by rw [hU]; exact hB, hSt.moved hW.alike⟩, by rw [hU]; exact o4.moved hW.alike⟩⟩
  refine W_run (va_runS (As := [.ref v, .int (nI k)]) (rest := []) (⟨hx, hb, hml, hown, hts⟩ : CallFix p m c bCha 2 s _ TW "java/lang/String") (c_l1c x l hi hk) ⟨callB_of 2 hts gL1c rfl rfl rfl (hts _ iniJL) (hts (.methodLink "java/lang/String" 495 yL1c) (inTW 651 (by decide +kernel) rfl)) ⟨by decide, by decide, by decide +kernel⟩ ⟨Nat.le_of_ble_eq_true rfl, Nat.le_of_ble_eq_true rfl⟩, hts (.static yL1c) (inTW 652 (by decide +kernel) rfl)⟩ hpre2 rfl rfl hl.1 rfl (lv_room (Nat.le_of_ble_eq_true rfl)) jCha_12 ⟨Nat.zero_le _, Nat.zero_le _⟩) (fun v' st₁ t1 L1 h1 hq1 hL1 => ?_)
  obtain ⟨q3, q4⟩ := hq1
  cases q3
  rw [q4, h1]
  rw [hqv]
  exact W.zret (v := nI q) hx hb hr (ch_n q hq128) (fun t2 ht2 hW => ⟨rfl, ht2⟩) (fun q hq => by
    rcases List.mem_append.mp hq with h | h
    · exact hS2.2.2 q h
    · exact hL1 q h) jCha_15
theorem strB_i {a : Nat} {t : List Int32} (h : strB a = some t) : ∃ i, i < 49 ∧ a = 1000000 + i ∧ t = sB.getD i [] := by
  unfold strB at h
  by_cases c : a < 1000000
  · rw [if_pos c] at h; cases h
  · rw [if_neg c] at h
    obtain ⟨h1, h2⟩ := List.getElem?_eq_some_iff.mp h
    have hl : sB.length = 49 := rfl
    refine ⟨a - 1000000, by omega, by omega, ?_⟩
    rw [List.getD_eq_getElem?_getD, h]
    rfl
theorem adr_k {x : Cx} {i : Nat} : adr x (1000000 + i) = xk x i := by
  unfold adr
  rw [if_neg (by omega), Nat.add_sub_cancel_left]
theorem jlen (x : Cx) : JLen x := by
  intro p l e R s mi args below meth c m H locs cells slots Q arr pc i wi a t r C hd hj ht hold hz hlo hR1 hR2 hRc hRs hr hsz kk
  obtain ⟨k, hk, rfl, rfl⟩ := strB_i ht
  rw [adr_k]
  obtain ⟨-, -, -, -, ⟨-, hSt⟩, -⟩ := C.kk
  obtain ⟨hs, -, -⟩ := hSt.at hold
  obtain ⟨v, o1, -⟩ := hs k hk
  have hpre : PreV s H "java/lang/String" (xk x k) (PJ x [.ref (xk x k)]) [] := ⟨PJ.blind x _, by
    obtain ⟨cell, h1, h2, h3, -⟩ := o1
    exact ⟨cell, h1, h2, h3⟩, fun U hU hW => ⟨rfl, by rw [hU]; exact hold, hSt.moved hW.alike⟩⟩
  have hl := C.hts _ (inTW wi (jWok C.own hj) rfl)
  refine W_run (va_runV (As := []) (rest := r) (⟨C.1, C.2.1, C.2.2.2.2.1, C.hown, C.hts⟩ : CallFix p mi c (mBy m) (mMax m) s args TW (RXs (mOwn m))) (c_len x l hk) ⟨callB_of 0 C.hts gLen rfl rfl rfl (C.hts _ iniJS) hl ⟨by decide, by decide, by decide +kernel⟩ ⟨by show 1 + 1 ≤ _; omega, by show 8 + (1 + 11) + 20 ≤ _; omega⟩, C.hts (.instanceMethod yLen) (inTW 634 (by decide +kernel) rfl), C.hts (.selects "java/lang/String" yLen yLen) (inTW 635 (by decide +kernel) rfl)⟩ hpre rfl rfl hsz rfl (lv_room hr) hd ⟨by omega, by omega⟩) (fun v' st₀ t L h0 hq hL => ?_)
  obtain ⟨q1, q2⟩ := hq
  cases q1
  rw [q2, h0]
  exact kk (locs ++ L) (fun q hq => by
    rcases List.mem_append.mp hq with h | h
    · exact hlo q h
    · exact hL q h)
theorem jchar (x : Cx) : JChar x := by
  intro p l e R s mi args below meth c m H locs cells slots Q arr pc i wi a j t r C hd hj ht hin hold hz hlo hR1 hR2 hRc hRs hr hsz kk
  obtain ⟨k, hk, rfl, rfl⟩ := strB_i ht
  rw [adr_k]
  unfold inb at hin
  rw [Bool.and_eq_true, Bool.not_eq_true', decide_eq_false_iff_not, decide_eq_true_eq] at hin
  obtain ⟨hj0, hjl⟩ := hin
  obtain ⟨n, hn, rfl⟩ := zn_all hj0
  rw [nI_clamp hn] at hjl kk
  obtain ⟨-, -, -, -, ⟨-, hSt⟩, -⟩ := C.kk
  obtain ⟨hs, -, -⟩ := hSt.at hold
  obtain ⟨v, o1, -⟩ := hs k hk
  have hpre : PreV s H "java/lang/String" (xk x k) (PJ x [.ref (xk x k), .int (nI n)]) [.int (nI n)] := ⟨PJ.blind x _, by
    obtain ⟨cell, h1, h2, h3, -⟩ := o1
    exact ⟨cell, h1, h2, h3⟩, fun U hU hW => ⟨rfl, by rw [hU]; exact hold, hSt.moved hW.alike⟩⟩
  have hl := C.hts _ (inTW wi (jWok C.own hj) rfl)
  refine W_run (va_runV (As := [.int (nI n)]) (rest := r) (⟨C.1, C.2.1, C.2.2.2.2.1, C.hown, C.hts⟩ : CallFix p mi c (mBy m) (mMax m) s args TW (RXs (mOwn m))) (c_cha x l hk hjl) ⟨callB_of 1 C.hts gCha rfl rfl rfl (C.hts _ iniJS) hl ⟨by decide, by decide, by decide +kernel⟩ ⟨by show 3 + 1 ≤ _; omega, by show 8 + (2 + 11) + 64 ≤ _; omega⟩, C.hts (.instanceMethod yCha) (inTW 644 (by decide +kernel) rfl), C.hts (.selects "java/lang/String" yCha yCha) (inTW 645 (by decide +kernel) rfl)⟩ hpre rfl rfl hsz rfl (lv_room hr) hd ⟨by omega, by omega⟩) (fun v' st₀ t L h0 hq hL => ?_)
  obtain ⟨q1, q2⟩ := hq
  cases q1
  rw [q2, h0]
  exact kk (locs ++ L) (fun q hq => by
    rcases List.mem_append.mp hq with h | h
    · exact hlo q h
    · exact hL q h)
theorem jx (x : Cx) : JX x := ⟨jlen x, jchar x, sw_mul x⟩
