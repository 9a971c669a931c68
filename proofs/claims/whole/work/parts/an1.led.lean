/-! led of the class: it throws when there is no such bather -/
/-- n cells of another's making -/
def gPad (G : Gm) (n : Nat) : Gm := ((gN G + n, gS G + 6), (fun c => if gN G ≤ c ∧ c < gN G + n then (98, 0) else gT G c), gR G, gJ G)
theorem HM.pad {x : Cx} {G : Gm} {I : Im} {H H' : Heap} {n : Nat} (h : HM x G I H) (hb : gN G + n ≤ 1000000) (hs : H'.size = H.size + n) (hq : ∀ q, q < H.size → H'[q]? = H[q]?) : HM x (gPad G n) I H' := by
  refine h.grow (G' := gPad G n) (Nat.le_add_right _ _) hb (fun b hb2 => ⟨?_, rfl, rfl, rfl⟩) (fun v hv => ?_) (by rw [hs, h.1]; show _ = xz x + (gN G + n); omega) hq (fun v h1 h2 => ?_)
  · show (if gN G ≤ b ∧ b < gN G + n then ((98, 0) : Nat × Nat) else gT G b) = gT G b
    rw [if_neg (by omega)]
  · have hv : gN G + n ≤ v := hv
    show (if gN G ≤ v ∧ v < gN G + n then ((98, 0) : Nat × Nat) else gT G v) = gT G v
    rw [if_neg (by omega)]
  · have h2 : v < gN G + n := h2
    have e : gT (gPad G n) v = (98, 0) := by
      show (if gN G ≤ v ∧ v < gN G + n then ((98, 0) : Nat × Nat) else gT G v) = (98, 0)
      rw [if_pos ⟨h1, h2⟩]
    refine ⟨fun k hk hk2 => ?_, fun ci hci hk2 => ?_⟩
    · rw [e] at hk2
      have : 98 = k := hk2
      omega
    · rw [e] at hk2
      have : 98 = 10 + ci := congrArg Prod.fst hk2
      omega
def nd1 : MethodName := ⟨"java/lang/RuntimeException", "<init>", "(Ljava/lang/String;)V"⟩
def nd2 : MethodName := ⟨"java/lang/Exception", "<init>", "(Ljava/lang/String;)V"⟩
def nd3 : MethodName := ⟨"java/lang/Throwable", "<init>", "(Ljava/lang/String;)V"⟩
theorem ld_b : ∀ w ∈ ndW.filter (fun w => !goodWord w), w ∈ ([.declares nd1, .declares nd2, .declares nd3, .castable nse nse] : List Jvm.Cond) := by decide +kernel
theorem ld_t : ∀ w ∈ ndW.filter goodWord, w ∈ lw_tbl := by decide +kernel
theorem ld_T : ∀ w ∈ ndW.filter goodWord, w ∈ TW := fun w hw => List.mem_filter.mpr ⟨ld_t w hw, (List.mem_filter.mp hw).2⟩
theorem nw_cast {a b : String} {s U : State} (hW : s.WarmedH U.vm) (hZ : va_Nw (.castable a b) s) : va_Nw (.castable a b) U := va_tabs rfl (rfl : (s.setVm U.vm).vm = U.vm) (by rw [Cond.castable_setVm hW.alike]; exact hZ)
/-- what a throw stands on -/
def LdW (x : Cx) (U : State) : Prop := (va_Nw (.declares nd1) U ∧ va_Nw (.declares nd2) U ∧ va_Nw (.declares nd3) U ∧ va_Nw (.castable nse nse) U) ∧ vx_Zq Bundle.tN "UNASSIGNED_STACK" Bundle.steD (fun q => xz x ≤ q) U (xH x) ∧ vx_Zq Bundle.tN "SUPPRESSED_SENTINEL" Bundle.listD (fun q => xz x ≤ q) U (xH x)
theorem LdW.warm {x : Cx} {s U : State} (hW : s.WarmedH U.vm) (h : LdW x s) : LdW x U := ⟨⟨va_Nw.warmD hW h.1.1, va_Nw.warmD hW h.1.2.1, va_Nw.warmD hW h.1.2.2.1, nw_cast hW h.1.2.2.2⟩, h.2.1.moved hW.alike, h.2.2.moved hW.alike⟩
theorem LdW.same {x : Cx} {s U : State} (hW : s.vm = U.vm) (h : LdW x s) : LdW x U := by
  have hvm : s.vm.Alike U.vm := by rw [hW]; exact Vm.Alike.refl _
  exact ⟨⟨va_Nw.same rfl hW h.1.1, va_Nw.same rfl hW h.1.2.1, va_Nw.same rfl hW h.1.2.2.1, va_Nw.same rfl hW h.1.2.2.2⟩, h.2.1.moved hvm, h.2.2.moved hvm⟩
/-- whom led finds: the one that isn't dry with z such ones ahead -/
def ledG (f : Nat → Bool) (z : Int32) : Nat → Nat → Nat → Option Nat
  | 0, _, _ => none
  | n + 1, b, c => if f b = true then ledG f z n (b + 1) c else if nI c = z then some b else ledG f z n (b + 1) (c + 1)
theorem ledG_lt {f : Nat → Bool} {z : Int32} : ∀ {n b c b' : Nat}, ledG f z n b c = some b' → b' < b + n
  | 0, b, c, b', h => by cases h
  | n + 1, b, c, b', h => by
    unfold ledG at h
    split at h
    · have := ledG_lt h; omega
    · split at h
      · cases h; omega
      · have := ledG_lt h; omega
theorem hm_getf {x : Cx} {p : Program} {l : Launch} {e : Env} {R : Room} {s : State} {m : MethodId} {args : Array Value} {below : List Frame} {meth : Method} {c : Code} {H : Heap} {locs : List Loc} {cells slots : Nat} {Q : State → Prop} {cc : ByteArray} {pc own i ci k wi a : Nat} {ls : Array Slot} {rest : List Value} {G : Gm} {I : Im} {v : Value}
    (hx : p.tables.exec = Jvm.exec) (hb : c.code = cc) (hown : s.vm.findClass (RXs own) = some m.cls) (ho : own < 14) (hts : ∀ w ∈ TW, w.before args s = true) (hK : KK x s) (hH : HM x G I H) (hq : fR own i = some (ci, k, false, wi)) (ht : gT G a = (10 + ci, nFd ci)) (hv : cv x (cval (tyKd (tFd ci k)) G I a k) = v) (hd : decode cc pc = .ok (.getfield i, 3))
    (kk : W p l e R s m args below meth c H locs cells slots Q (F0 m (pc + 3) ls (v :: rest))) : W p l e R s m args below meth c H locs cells slots Q (F0 m pc ls (.ref (adr x a) :: rest)) := by
  obtain ⟨hw, hci, hk⟩ := fWok ho hq
  have hw : tables_1[wi]? = some (fWd own i (ci, k, false, wi)) := hw
  have hci : ci < 14 := hci
  have hk : k < nFd ci := hk
  obtain ⟨cell, q1, q2, q3, q4⟩ := hH.obj hci ht
  obtain ⟨hS, hfc, kC, hkC, hkind⟩ := hK.1 ci hci
  obtain ⟨cf, kf, fi, f, hi, hsl⟩ := hS k hk
  have hst := (u_facts hfc hkC (u_lays hts (uWok hci) hk) hi).1
  have hslot : cell.slots[f.slot]? = some v := by rw [hsl, ← hv]; exact q4 k hk
  refine W.getf hx hb hown (ref := (TXs ci k).1) (name := (TXs ci k).2.1) (desc := (TXs ci k).2.2.1) ?_ hi hst q1 (by rw [q3]; exact fun h => by cases h) hslot rfl rfl hd kk
  exact hts _ (inTW wi hw rfl)
theorem hm_room {M D L : Nat} (h1 : M ≤ 20) (h2 : D * 48 + 450 ≤ L) : 8 + (M + 11) + (D * 48 + 400) ≤ L := by
  have h3 : 8 + (M + 11) ≤ 50 := by omega
  have := Nat.add_le_add_right h3 (D * 48 + 400)
  refine Nat.le_trans this (Nat.le_trans (Nat.le_of_eq ?_) h2)
  rw [Nat.add_comm 50, Nat.add_assoc]
theorem hm_call {x : Cx} {p : Program} {l : Launch} {e : Env} {R : Room} {s : State} {m : MethodId} {args : Array Value} {below : List Frame} {meth : Method} {c : Code} {H : Heap} {locs : List Loc} {cells slots nL D : Nat} {Q : State → Prop} {cc : ByteArray} {pc idx a : Nat} {ow : String} {ls : Array Slot} {As rest : List Value} {G : Gm} {I : Im} {mm : MD} {z : Int32}
    (hx : p.tables.exec = Jvm.exec) (hb : c.code = cc) (hml : c.maxLocals = nL) (hown : s.vm.findClass ow = some m.cls) (hts : ∀ w ∈ TW, w.before args s = true) (hK : KK x s) (hok : MOK mm) (hso : mSo mm = 0) (hlink : Cond.methodLink ow idx (mNm mm) ∈ TW)
    (hcls : gT G a = (10 + mOwn mm, nFd (mOwn mm))) (hal : As.length + 1 = mArg mm) (hz : (lg_sl (.ref a :: As)).length ≤ mMax mm) (hrun : run D mm (.ref a :: As) G I = some (some (.int z), G, I)) (hH : HM x G I H) (hlo : ∀ q ∈ locs, xz x ≤ q.base) (hRf : D + 9 ≤ R.frames) (hRl : D * 48 + 450 ≤ R.locals) (hRc : cells ≤ R.cells) (hRs : slots ≤ R.slots) (hsz : ls.size = nL) (hr : (rest.map fun v => v.category).sum ≤ 8) (hdg : decode cc pc = .ok (.invokevirtual idx, 3))
    (kk : ∀ (H' : Heap) (locs' : List Loc), HM x G I H' → (∀ q ∈ locs', xz x ≤ q.base) → W p l e R s m args below meth c H' locs' cells slots Q (F0 m (pc + 3) ls (.int z :: rest))) :
    W p l e R s m args below meth c H locs cells slots Q (F0 m pc ls ((As.map (cv x)).reverse ++ .ref (adr x a) :: rest)) := by
  have hm := met_of_ex (jx x) l hok hz hrun hH.2.1
  obtain ⟨cell, q1, q2, q3, -⟩ := hH.obj hok.1.1 hcls
  have hpre : PreV s H (mNm mm).cls (adr x a) (PcM x (.ref a :: As) G I) (As.map (cv x)) := ⟨PcM.blind x _ G I, ⟨cell, q1, by rw [q3]; rfl, by rw [q2, hok.1.2.1]; exact (hK.1 _ hok.1.1).2.1⟩, fun U hU hW => ⟨rfl, by rw [hU]; exact hH, KK.warm hW hK⟩⟩
  have hpd := hok.1.2.2.2.2.1
  rw [if_neg (by omega)] at hpd
  have hAl : (As.map (cv x)).length = mArg mm - 1 := by rw [List.length_map]; omega
  have hmx : mMax mm ≤ 20 := hok.1.2.2.2.1
  have hfr : (rmOf D (gN G - gN G) (gS G - gS G)).frames + 1 ≤ R.frames := by
    unfold rmOf
    omega
  have hlr : 8 + (mMax mm + 11) + (rmOf D (gN G - gN G) (gS G - gS G)).locals ≤ R.locals := hm_room hmx hRl
  refine W_run (va_runV (⟨hx, hb, hml, hown, hts⟩ : CallFix p m c cc nL s args TW ow) hm ⟨callB_of _ hts (wsM.good hok) rfl rfl rfl (hts _ hok.2.2.1) (hts _ hlink) hpd ⟨hfr, hlr⟩, hts _ (hok.2.2.2.2.1 (by omega)), hts _ (hok.2.2.2.2.2.1 hso)⟩ hpre rfl hAl hsz rfl (lv_room hr) hdg ⟨by show cells + (gN G - gN G) ≤ R.cells; omega, by show slots + (gS G - gS G) ≤ R.slots; omega⟩) (fun v st₀ t L' h0 hq hL' => ?_)
  obtain ⟨h1, h2⟩ := hq
  cases h1
  have h3 := kk t.heap (locs ++ L') h2 (fun q hq => (List.mem_append.mp hq).elim (hlo q) (hL' q))
  have e1 : cells + (gN G - gN G) = cells := by omega
  have e2 : slots + (gS G - gS G) = slots := by omega
  show W p l e R s m args below meth c t.heap (locs ++ L') (cells + (gN G - gN G)) (slots + (gS G - gS G)) _ _
  rw [e1, e2]
  exact h3
theorem jd_0 : decode cX11_led 0 = .ok (.iconst 0, 1) := by decide +kernel
theorem jd_1 : decode cX11_led 1 = .ok (.istore_n 2, 1) := by decide +kernel
theorem jd_2 : decode cX11_led 2 = .ok (.iconst 0, 1) := by decide +kernel
theorem jd_3 : decode cX11_led 3 = .ok (.istore_n 3, 1) := by decide +kernel
theorem jd_4 : decode cX11_led 4 = .ok (.iload_n 3, 1) := by decide +kernel
theorem jd_5 : decode cX11_led 5 = .ok (.aload_n 0, 1) := by decide +kernel
theorem jd_6 : decode cX11_led 6 = .ok (.getfield 19, 3) := by decide +kernel
theorem jd_9 : decode cX11_led 9 = .ok (.getfield 116, 3) := by decide +kernel
theorem jd_12 : decode cX11_led 12 = .ok (.getfield 120, 3) := by decide +kernel
theorem jd_15 : decode cX11_led 15 = .ok (.if_icmp .ge 34, 3) := by decide +kernel
theorem jd_18 : decode cX11_led 18 = .ok (.aload_n 0, 1) := by decide +kernel
theorem jd_19 : decode cX11_led 19 = .ok (.getfield 26, 3) := by decide +kernel
theorem jd_22 : decode cX11_led 22 = .ok (.aload_n 0, 1) := by decide +kernel
theorem jd_23 : decode cX11_led 23 = .ok (.getfield 19, 3) := by decide +kernel
theorem jd_26 : decode cX11_led 26 = .ok (.iload_n 3, 1) := by decide +kernel
theorem jd_27 : decode cX11_led 27 = .ok (.invokevirtual 151, 3) := by decide +kernel
theorem jd_30 : decode cX11_led 30 = .ok (.ifCond .ne 13, 3) := by decide +kernel
theorem jd_33 : decode cX11_led 33 = .ok (.iload_n 2, 1) := by decide +kernel
theorem jd_34 : decode cX11_led 34 = .ok (.iload_n 1, 1) := by decide +kernel
theorem jd_35 : decode cX11_led 35 = .ok (.if_icmp .ne 5, 3) := by decide +kernel
theorem jd_38 : decode cX11_led 38 = .ok (.iload_n 3, 1) := by decide +kernel
theorem jd_39 : decode cX11_led 39 = .ok (.ireturn, 1) := by decide +kernel
theorem jd_40 : decode cX11_led 40 = .ok (.iinc 2 1, 3) := by decide +kernel
theorem jd_43 : decode cX11_led 43 = .ok (.iinc 3 1, 3) := by decide +kernel
theorem jd_46 : decode cX11_led 46 = .ok (.goto (-42), 3) := by decide +kernel
theorem jd_49 : decode cX11_led 49 = .ok (.new 411, 3) := by decide +kernel
theorem jd_52 : decode cX11_led 52 = .ok (.dup, 1) := by decide +kernel
theorem jd_53 : decode cX11_led 53 = .ok (.ldc_w 413, 3) := by decide +kernel
theorem jd_56 : decode cX11_led 56 = .ok (.invokespecial 415, 3) := by decide +kernel
theorem jd_59 : decode cX11_led 59 = .ok (.athrow, 1) := by decide +kernel
/-- what led reads of the world -/
def LdF (x : Cx) (G : Gm) (I : Im) (sh N : Nat) (f : Nat → Bool) : Prop := gT G 0 = (21, 12) ∧ gR G 0 1 = some sh ∧ gR G 0 2 = some 171 ∧ gT G sh = (17, 11) ∧ gR G sh 7 = some (sh + 8) ∧ gT G (sh + 8) = (10, 7) ∧ I (sh + 8) 0 = nI N ∧ gT G 171 = (16, 6) ∧ N ≤ 6 ∧ ∀ b, b < N → run 0 mX6_isDry [.ref 171, .ref sh, .int (nI b)] G I = some (some (.int (bI (f b))), G, I)
theorem led_walk {x : Cx} {p : Program} {l : Launch} {e : Env} {R : Room} {s : State} {m : MethodId} {args : Array Value} {below : List Frame} {meth : Method} {c : Code} {cells slots : Nat} {Q : State → Prop} {G : Gm} {I : Im} {sh N : Nat} {z : Int32} {f : Nat → Bool}
    (hx : p.tables.exec = Jvm.exec) (hb : c.code = cX11_led) (hml : c.maxLocals = 4) (hown : s.vm.findClass RX11 = some m.cls) (hts : ∀ w ∈ TW, w.before args s = true) (hK : KK x s) (hRf : 9 ≤ R.frames) (hRl : 450 ≤ R.locals) (hRc : cells ≤ R.cells) (hRs : slots ≤ R.slots) (hF : LdF x G I sh N f) :
    ∀ (n b cn : Nat) (H : Heap) (locs : List Loc) (ls : Array Slot), b + n = N → cn ≤ b → HM x G I H → (∀ q ∈ locs, xz x ≤ q.base) → lv_has ls 4 [(0, .ref (adr x 0)), (1, .int z), (2, .int (nI cn)), (3, .int (nI b))] →
      (∀ (b' : Nat) (H' : Heap) (locs' : List Loc) (ls' : Array Slot), ledG f z n b cn = some b' → HM x G I H' → (∀ q ∈ locs', xz x ≤ q.base) → W p l e R s m args below meth c H' locs' cells slots Q (F0 m 39 ls' [.int (nI b')])) →
      (∀ (H' : Heap) (locs' : List Loc) (ls' : Array Slot), ledG f z n b cn = none → HM x G I H' → (∀ q ∈ locs', xz x ≤ q.base) → ls'.size = 4 → W p l e R s m args below meth c H' locs' cells slots Q (F0 m 49 ls' [])) →
      W p l e R s m args below meth c H locs cells slots Q (F0 m 4 ls []) := by
  obtain ⟨g0, g1, g2, g3, g4, g5, i0, g6, hN, hdry⟩ := hF
  have e1 : cv x (cval (tyKd (tFd 11 1)) G I 0 1) = .ref (adr x sh) := by
    show cv x (ofR (gR G 0 1)) = _
    rw [g1]
    rfl
  have e2 : cv x (cval (tyKd (tFd 7 7)) G I sh 7) = .ref (adr x (sh + 8)) := by
    show cv x (ofR (gR G sh 7)) = _
    rw [g4]
    rfl
  have e3 : cv x (cval (tyKd (tFd 0 0)) G I (sh + 8) 0) = .int (nI N) := by
    show cv x (.int (I (sh + 8) 0)) = _
    rw [i0]
    rfl
  have e4 : cv x (cval (tyKd (tFd 11 2)) G I 0 2) = .ref (adr x 171) := by
    show cv x (ofR (gR G 0 2)) = _
    rw [g2]
    rfl
  intro n
  induction n with
  | zero =>
    intro b cn H locs ls hbn hcn hH hlo hls kA kB
    refine lv_iload_n hx hb jd_4 rfl (lv_at hls 3 rfl) ?_
    refine lv_aload_n hx hb jd_5 rfl (lv_at hls 0 rfl) ?_
    refine hm_getf (own := 11) (i := 19) (ci := 11) (k := 1) (wi := 535) hx hb hown (by decide) hts hK hH rfl g0 e1 jd_6 ?_
    refine hm_getf (own := 11) (i := 116) (ci := 7) (k := 7) (wi := 275) hx hb hown (by decide) hts hK hH rfl g3 e2 jd_9 ?_
    refine hm_getf (own := 11) (i := 120) (ci := 0) (k := 0) (wi := 117) hx hb hown (by decide) hts hK hH rfl g5 e3 jd_12 ?_
    exact lv_icmp_ge (tgt := 49) hx hb jd_15 (by decide) (fun _ => kB H locs ls rfl hH hlo hls.1) (fun h => absurd (nI_le (by omega) (by omega)) h)
  | succ n ih =>
    intro b cn H locs ls hbn hcn hH hlo hls kA kB
    refine lv_iload_n hx hb jd_4 rfl (lv_at hls 3 rfl) ?_
    refine lv_aload_n hx hb jd_5 rfl (lv_at hls 0 rfl) ?_
    refine hm_getf (own := 11) (i := 19) (ci := 11) (k := 1) (wi := 535) hx hb hown (by decide) hts hK hH rfl g0 e1 jd_6 ?_
    refine hm_getf (own := 11) (i := 116) (ci := 7) (k := 7) (wi := 275) hx hb hown (by decide) hts hK hH rfl g3 e2 jd_9 ?_
    refine hm_getf (own := 11) (i := 120) (ci := 0) (k := 0) (wi := 117) hx hb hown (by decide) hts hK hH rfl g5 e3 jd_12 ?_
    refine lv_icmp_ge (tgt := 49) hx hb jd_15 (by decide) (fun h => absurd h (nI_ge (by omega) (by omega))) (fun _ => ?_)
    refine lv_aload_n hx hb jd_18 rfl (lv_at hls 0 rfl) ?_
    refine hm_getf (own := 11) (i := 26) (ci := 11) (k := 2) (wi := 536) hx hb hown (by decide) hts hK hH rfl g0 e4 jd_19 ?_
    refine lv_aload_n hx hb jd_22 rfl (lv_at hls 0 rfl) ?_
    refine hm_getf (own := 11) (i := 19) (ci := 11) (k := 1) (wi := 535) hx hb hown (by decide) hts hK hH rfl g0 e1 jd_23 ?_
    refine lv_iload_n hx hb jd_26 rfl (lv_at hls 3 rfl) ?_
    refine hm_call (D := 0) (mm := mX6_isDry) (As := [.ref sh, .int (nI b)]) (rest := []) (a := 171) hx hb hml hown hts hK okX6_isDry rfl (inTW 939 (by decide +kernel) rfl) g6 rfl (Nat.le_of_ble_eq_true rfl) (hdry b (by omega)) hH hlo (by omega) (by omega) hRc hRs hls.1 (by decide) jd_27 (fun H1 locs1 h1 h2 => ?_)
    have hG : ledG f z (n + 1) b cn = if f b = true then ledG f z n (b + 1) cn else if nI cn = z then some b else ledG f z n (b + 1) (cn + 1) := rfl
    rw [hG] at kA kB
    have hstep : ∀ (cn' : Nat) (ls1 : Array Slot), cn' ≤ b + 1 → lv_has ls1 4 [(0, .ref (adr x 0)), (1, .int z), (2, .int (nI cn')), (3, .int (nI b))] →
        (∀ (b' : Nat) (H' : Heap) (locs' : List Loc) (ls' : Array Slot), ledG f z n (b + 1) cn' = some b' → HM x G I H' → (∀ q ∈ locs', xz x ≤ q.base) → W p l e R s m args below meth c H' locs' cells slots Q (F0 m 39 ls' [.int (nI b')])) →
        (∀ (H' : Heap) (locs' : List Loc) (ls' : Array Slot), ledG f z n (b + 1) cn' = none → HM x G I H' → (∀ q ∈ locs', xz x ≤ q.base) → ls'.size = 4 → W p l e R s m args below meth c H' locs' cells slots Q (F0 m 49 ls' [])) →
        W p l e R s m args below meth c H1 locs1 cells slots Q (F0 m 43 ls1 []) := fun cn' ls1 hc' hl1 kA' kB' => by
      refine lv_iinc (i := 3) (k := 3) hx hb jd_43 hl1 rfl (show nI b + Int32.ofInt 1 = nI (b + 1) from nI_1 b) (by decide) rfl (fun ls2 hl2 => ?_)
      refine lv_goto (tgt := 4) hx hb jd_46 (by decide) ?_
      exact ih (b + 1) cn' H1 locs1 ls2 (by omega) hc' h1 h2 (lv_sub hl2 [1, 2, 3, 0] rfl) kA' kB'
    cases hf : f b with
    | true =>
      rw [hf] at kA kB
      refine lv_if_ne (tgt := 43) hx hb jd_30 (by decide) (fun _ => ?_) (fun h => absurd h (by decide))
      exact hstep cn ls (by omega) hls (fun b' H' locs' ls' q => kA b' H' locs' ls' (by rw [if_pos rfl]; exact q)) (fun H' locs' ls' q => kB H' locs' ls' (by rw [if_pos rfl]; exact q))
    | false =>
      rw [hf] at kA kB
      refine lv_if_ne (tgt := 43) hx hb jd_30 (by decide) (fun h => absurd rfl h) (fun _ => ?_)
      refine lv_iload_n hx hb jd_33 rfl (lv_at hls 2 rfl) ?_
      refine lv_iload_n hx hb jd_34 rfl (lv_at hls 1 rfl) ?_
      refine lv_icmp_ne (tgt := 40) hx hb jd_35 (by decide) (fun h => ?_) (fun h => ?_)
      · refine lv_iinc (i := 2) (k := 2) hx hb jd_40 hls rfl (show nI cn + Int32.ofInt 1 = nI (cn + 1) from nI_1 cn) (by decide) rfl (fun ls1 hl1 => ?_)
        exact hstep (cn + 1) ls1 (by omega) (lv_sub hl1 [1, 2, 0, 3] rfl) (fun b' H' locs' ls' q => kA b' H' locs' ls' (by rw [if_neg (by decide), if_neg h]; exact q)) (fun H' locs' ls' q => kB H' locs' ls' (by rw [if_neg (by decide), if_neg h]; exact q))
      · refine lv_iload_n hx hb jd_38 rfl (lv_at hls 3 rfl) ?_
        exact kA b H1 locs1 ls (by rw [if_neg (by decide), if_pos h]) h1 h2
def wsLd : List Jvm.Cond := Cond.code yX11_led cX11_led 4 (some .int) :: TW
def PcD (x : Cx) (as : List Value) (G : Gm) (I : Im) : Array Value → State → Prop := fun a U => a = (as.map (cv x)).toArray ∧ HM x G I U.heap ∧ KK x U ∧ LdW x U
theorem PcD.blind (x : Cx) (as : List Value) (G : Gm) (I : Im) : FrameBlind (PcD x as G I) := fun a U g mk q => ⟨q.1, q.2.1, KK.same (s := U) rfl q.2.2.1, LdW.same (s := U) rfl q.2.2.2⟩
/-- thrown, the heap but grown -/
def XCd (x : Cx) (G : Gm) (I : Im) : String → State → State → Prop := fun E _ t => E = nse ∧ ∃ H, HM x G I H ∧ H.size < t.heap.size ∧ ∀ q, q < H.size → t.heap[q]? = H[q]?
theorem met_ledA {x : Cx} (l : Launch) {z : Int32} {G : Gm} {I : Im} {sh N b : Nat} {f : Nat → Bool} (hF : LdF x G I sh N f) (hg : ledG f z N 0 0 = some b) : Met l yX11_led wsLd (rmJ 12 500) (PcD x [.ref 0, .int z] G I) (QcM x (some (.int (nI b)), G, I)) 0 0 (fun q => xz x ≤ q) := by
  refine Met.ofW (cc := cX11_led) (maxL := 4) (ret := some .int) (by decide) rfl ?_
  intro p e s m args below meth c s₁ B hml hv
  obtain ⟨rfl, hH, hK, hLd⟩ := hv
  have hx := B.exec
  have hb := B.bytes
  have hr := B.returns
  have hlocks := B.notSynchronized
  have hts0 := atoms_spec (ws := wsLd) B.pre
  have hts : ∀ w ∈ TW, w.before _ s = true := fun w hw => hts0 w (List.mem_cons_of_mem _ hw)
  have hown : s.vm.findClass RX11 = some m.cls := findClass_of_methodNamed B.named
  have hl0 := lv_entry ([.ref (adr x 0), .int z]) (n := 4) (Nat.le_of_ble_eq_true rfl)
  rw [lg_entry_eq]
  generalize hgen : (lg_sl ([.ref (adr x 0), .int z]) ++ List.replicate (4 - (lg_sl ([.ref (adr x 0), .int z])).length) Slot.unset).toArray = ls at hl0
  have hl0 : lv_has ls 4 [(0, .ref (adr x 0)), (1, .int z)] := hl0
  show W p l e _ s m _ below meth c s.heap [] 0 0 _ (F0 m 0 (lg_sl ([.ref (adr x 0), .int z]) ++ List.replicate (4 - (lg_sl ([.ref (adr x 0), .int z])).length) Slot.unset).toArray [])
  rw [hgen]
  refine lv_iconst (v := nI 0) hx hb jd_0 (by decide) ?_
  refine lv_istore_n hx hb jd_1 rfl hl0 (by decide) rfl (fun ls1 hl1 => ?_)
  refine lv_iconst (v := nI 0) hx hb jd_2 (by decide) ?_
  refine lv_istore_n hx hb jd_3 rfl hl1 (by decide) rfl (fun ls2 hl2 => ?_)
  refine led_walk hx hb hml hown hts hK (Nat.le_of_ble_eq_true rfl) (Nat.le_of_ble_eq_true rfl) (Nat.zero_le _) (Nat.zero_le _) hF N 0 0 s.heap [] ls2 (Nat.zero_add _) (Nat.le_refl _) hH (fun q hq => by cases hq) (lv_sub hl2 [2, 3, 1, 0] rfl) ?_ ?_
  · intro b' H' locs' ls' h1 h2 h3
    rw [hg] at h1
    cases h1
    exact W.iret (v := nI b) hx hb hr (fun t ht hW => ⟨rfl, by rw [ht]; exact h2⟩) h3 jd_39
  · intro H' locs' ls' h1
    rw [hg] at h1
    cases h1
def rmD : Room := { frames := 12, cells := 1, slots := 6, locals := 500 }
theorem met_ledB {x : Cx} (l : Launch) (hl : l.stackTraces = false) {z : Int32} {G : Gm} {I : Im} {sh N : Nat} {f : Nat → Bool} (hF : LdF x G I sh N f) (hg : ledG f z N 0 0 = none) : vx_Met l yX11_led wsLd rmD (PcD x [.ref 0, .int z] G I) (fun _ _ _ _ => False) (XCd x G I) 1 6 (fun q => xz x ≤ q) := by
  refine vx_ofW (cc := cX11_led) (maxL := 4) (ret := some .int) (by decide) rfl ?_
  intro p e s m args below meth c s₁ B hml htb hv
  obtain ⟨rfl, hH, hK, hLd⟩ := hv
  have hx := B.exec
  have hb := B.bytes
  have hr := B.returns
  have hlocks := B.notSynchronized
  have hts0 := atoms_spec (ws := wsLd) B.pre
  have hts : ∀ w ∈ TW, w.before _ s = true := fun w hw => hts0 w (List.mem_cons_of_mem _ hw)
  have hown : s.vm.findClass RX11 = some m.cls := findClass_of_methodNamed B.named
  have hl0 := lv_entry ([.ref (adr x 0), .int z]) (n := 4) (Nat.le_of_ble_eq_true rfl)
  rw [lg_entry_eq]
  generalize hgen : (lg_sl ([.ref (adr x 0), .int z]) ++ List.replicate (4 - (lg_sl ([.ref (adr x 0), .int z])).length) Slot.unset).toArray = ls at hl0
  have hl0 : lv_has ls 4 [(0, .ref (adr x 0)), (1, .int z)] := hl0
  show W p l e _ s m _ below meth c s.heap [] 0 0 _ (F0 m 0 (lg_sl ([.ref (adr x 0), .int z]) ++ List.replicate (4 - (lg_sl ([.ref (adr x 0), .int z])).length) Slot.unset).toArray [])
  rw [hgen]
  refine lv_iconst (v := nI 0) hx hb jd_0 (by decide) ?_
  refine lv_istore_n hx hb jd_1 rfl hl0 (by decide) rfl (fun ls1 hl1 => ?_)
  refine lv_iconst (v := nI 0) hx hb jd_2 (by decide) ?_
  refine lv_istore_n hx hb jd_3 rfl hl1 (by decide) rfl (fun ls2 hl2 => ?_)
  refine led_walk hx hb hml hown hts hK (Nat.le_of_ble_eq_true rfl) (Nat.le_of_ble_eq_true rfl) (Nat.zero_le _) (Nat.zero_le _) hF N 0 0 s.heap [] ls2 (Nat.zero_add _) (Nat.le_refl _) hH (fun q hq => by cases hq) (lv_sub hl2 [2, 3, 1, 0] rfl) ?_ ?_
  · intro b' H' locs' ls' h1
    rw [hg] at h1
    cases h1
  · intro H' locs' ls' h1 h2 h3 h4
    have hk1 : ∀ a : Nat, a < (xH x).size → ¬ (xz x ≤ a) → s.heap[a]? = (xH x)[a]? := fun a _ ha => hH.2.2.2.2 a (Nat.not_le.mp ha)
    have hS : va_S (fun q => xz x ≤ q) s.heap H' locs' := ⟨by rw [hH.1, h2.1]; exact Nat.le_refl _, fun q _ ha => by rw [h2.2.2.2.2 q (Nat.not_le.mp ha), hH.2.2.2.2 q (Nat.not_le.mp ha)], h3⟩
    have hstr := hK.2.2.2.2.1.1 11 (by omega) (413, 24, 1430) (by decide +kernel)
    exact nt_throw (A := fun q => xz x ≤ q) (text := sT 24) (sa := xk x 24) hx hb hl hown (hts _ (inTW 1391 (by decide +kernel) rfl)) (hts _ (inTW 24 (by decide +kernel) rfl)) hstr
      (vx_hat (fun w hw => hts w (ld_T w hw)) ld_b (vx_c (va_Nw.use rfl hLd.1.1) (vx_c (va_Nw.use rfl hLd.1.2.1) (vx_c (va_Nw.use rfl hLd.1.2.2.1) (vx_c (va_Nw.use rfl hLd.1.2.2.2) vx_n))))) (hLd.2.1.kept hk1) (hLd.2.2.kept hk1) hS (by rw [h4, hml]) jd_49 jd_52 jd_53 jd_56 jd_59 (fun y hy => (htb y hy).elim) (by decide) (by decide) (by decide) (by decide) hlocks (fun t _ h5 h6 => ⟨rfl, H', h2, h5, h6⟩) h3 (by decide) (by decide)
