/-! the law's case of led; its start, its loop, its end -/
theorem law_LdW {x : Cx} {p : Program} {s : State} {m : MethodId} {meth : Method} {c : Code} {b L : Nat} {xs : Nat → Int32} (C : LC x p s m meth c b L xs) : LdW x s := by
  obtain ⟨⟨hx, hb, hr, hml, hown, hts, hX, hbl, hlocks, hgv⟩, hK, hz, he⟩ := C
  have hf : ∀ w ∈ LFl, w.before #[Value.ref b] s = true := flat_of_before _ hgv
  have hA : ∀ a : Nat, a < s.heap.size → ¬ (xz x ≤ a) := fun a h => by rw [hz]; exact Nat.not_le.mpr h
  refine ⟨⟨va_Nw.of rfl (hts _ (t1_tbl (List.mem_of_getElem? (i := 1395) (by decide +kernel)))), va_Nw.of rfl (hts _ (t1_tbl (List.mem_of_getElem? (i := 1397) (by decide +kernel)))), va_Nw.of rfl (hts _ (t1_tbl (List.mem_of_getElem? (i := 1399) (by decide +kernel)))), va_Nw.of rfl (hts _ (t1_tbl (List.mem_of_getElem? (i := 1393) (by decide +kernel))))⟩, ?_, ?_⟩
  · rw [he]
    exact vx_Zqof (hts _ (t1_tbl (List.mem_of_getElem? (i := 1418) (by decide +kernel)))) (hts _ (t1_tbl (List.mem_of_getElem? (i := 21) (by decide +kernel)))) (hf _ (List.mem_of_getElem? (i := 9) (by decide +kernel))) hA
  · rw [he]
    exact vx_Zqof (hts _ (t1_tbl (List.mem_of_getElem? (i := 1420) (by decide +kernel)))) (hts _ (t1_tbl (List.mem_of_getElem? (i := 21) (by decide +kernel)))) (hf _ (List.mem_of_getElem? (i := 10) (by decide +kernel))) hA
theorem jj_0 : decode code 0 = .ok (.new 8, 3) := by decide +kernel
theorem jj_3 : decode code 3 = .ok (.dup, 1) := by decide +kernel
theorem jj_4 : decode code 4 = .ok (.invokespecial 15, 3) := by decide +kernel
theorem jj_7 : decode code 7 = .ok (.astore_n 1, 1) := by decide +kernel
theorem jj_8 : decode code 8 = .ok (.new 16, 3) := by decide +kernel
theorem jj_11 : decode code 11 = .ok (.dup, 1) := by decide +kernel
theorem jj_12 : decode code 12 = .ok (.invokespecial 18, 3) := by decide +kernel
theorem jj_15 : decode code 15 = .ok (.astore_n 2, 1) := by decide +kernel
theorem jj_16 : decode code 16 = .ok (.iconst 1, 1) := by decide +kernel
theorem jj_17 : decode code 17 = .ok (.newarray .long, 2) := by decide +kernel
theorem jj_19 : decode code 19 = .ok (.astore_n 3, 1) := by decide +kernel
theorem jj_20 : decode code 20 = .ok (.iconst 0, 1) := by decide +kernel
theorem jj_21 : decode code 21 = .ok (.istore 4, 2) := by decide +kernel
theorem jj_23 : decode code 23 = .ok (.iload 4, 2) := by decide +kernel
theorem jj_25 : decode code 25 = .ok (.aload_n 0, 1) := by decide +kernel
theorem jj_26 : decode code 26 = .ok (.arraylength, 1) := by decide +kernel
theorem jj_27 : decode code 27 = .ok (.bipush 6, 2) := by decide +kernel
theorem jj_29 : decode code 29 = .ok (.isub, 1) := by decide +kernel
theorem jj_30 : decode code 30 = .ok (.if_icmp .gt 1764, 3) := by decide +kernel
theorem jj_33 : decode code 33 = .ok (.aload_n 0, 1) := by decide +kernel
theorem jj_34 : decode code 34 = .ok (.iload 4, 2) := by decide +kernel
theorem jj_36 : decode code 36 = .ok (.iaload, 1) := by decide +kernel
theorem jj_37 : decode code 37 = .ok (.bipush 63, 2) := by decide +kernel
theorem jj_39 : decode code 39 = .ok (.iand, 1) := by decide +kernel
theorem jj_40 : decode code 40 = .ok (.tableswitch 1748 0 56 #[244, 317, 342, 355, 368, 405, 442, 467, 492, 529, 554, 567, 580, 593, 606, 643, 680, 717, 754, 779, 792, 817, 830, 843, 868, 881, 906, 943, 968, 1005, 1018, 1043, 1056, 1069, 1094, 1131, 1156, 1193, 1218, 1231, 1268, 1293, 1318, 1331, 1344, 1393, 1454, 1491, 1516, 1553, 1578, 1603, 1616, 1629, 1654, 1710, 1735], 244) := by decide +kernel
theorem jj_1694 : decode code 1694 = .ok (.aload_n 1, 1) := by decide +kernel
theorem jj_1695 : decode code 1695 = .ok (.aload_n 0, 1) := by decide +kernel
theorem jj_1696 : decode code 1696 = .ok (.iload 4, 2) := by decide +kernel
theorem jj_1698 : decode code 1698 = .ok (.iconst 1, 1) := by decide +kernel
theorem jj_1699 : decode code 1699 = .ok (.iadd, 1) := by decide +kernel
theorem jj_1700 : decode code 1700 = .ok (.iaload, 1) := by decide +kernel
theorem jj_1701 : decode code 1701 = .ok (.aload_n 3, 1) := by decide +kernel
theorem jj_1702 : decode code 1702 = .ok (.invokestatic 242, 3) := by decide +kernel
theorem jj_1705 : decode code 1705 = .ok (.istore 5, 2) := by decide +kernel
theorem jj_1707 : decode code 1707 = .ok (.aload_n 2, 1) := by decide +kernel
theorem jj_1708 : decode code 1708 = .ok (.aload_n 0, 1) := by decide +kernel
theorem jj_1709 : decode code 1709 = .ok (.iload 4, 2) := by decide +kernel
theorem jj_1711 : decode code 1711 = .ok (.iconst 1, 1) := by decide +kernel
theorem jj_1712 : decode code 1712 = .ok (.iadd, 1) := by decide +kernel
theorem jj_1713 : decode code 1713 = .ok (.iaload, 1) := by decide +kernel
theorem jj_1714 : decode code 1714 = .ok (.invokevirtual 247, 3) := by decide +kernel
theorem jj_1717 : decode code 1717 = .ok (.istore 6, 2) := by decide +kernel
theorem jj_1719 : decode code 1719 = .ok (.aload_n 2, 1) := by decide +kernel
theorem jj_1720 : decode code 1720 = .ok (.invokevirtual 248, 3) := by decide +kernel
theorem jj_1723 : decode code 1723 = .ok (.iload 5, 2) := by decide +kernel
theorem jj_1725 : decode code 1725 = .ok (.if_icmp .eq 5, 3) := by decide +kernel
theorem jj_1728 : decode code 1728 = .ok (.iconst 0, 1) := by decide +kernel
theorem jj_1729 : decode code 1729 = .ok (.ireturn, 1) := by decide +kernel
theorem jj_1730 : decode code 1730 = .ok (.iload 5, 2) := by decide +kernel
theorem jj_1732 : decode code 1732 = .ok (.ifCond .ne 15, 3) := by decide +kernel
theorem jj_1735 : decode code 1735 = .ok (.aload_n 3, 1) := by decide +kernel
theorem jj_1736 : decode code 1736 = .ok (.iconst 0, 1) := by decide +kernel
theorem jj_1737 : decode code 1737 = .ok (.laload, 1) := by decide +kernel
theorem jj_1738 : decode code 1738 = .ok (.iload 6, 2) := by decide +kernel
theorem jj_1740 : decode code 1740 = .ok (.i2l, 1) := by decide +kernel
theorem jj_1741 : decode code 1741 = .ok (.lcmp, 1) := by decide +kernel
theorem jj_1742 : decode code 1742 = .ok (.ifCond .eq 5, 3) := by decide +kernel
theorem jj_1745 : decode code 1745 = .ok (.iconst 0, 1) := by decide +kernel
theorem jj_1746 : decode code 1746 = .ok (.ireturn, 1) := by decide +kernel
theorem jj_1747 : decode code 1747 = .ok (.goto 41, 3) := by decide +kernel
theorem jj_1788 : decode code 1788 = .ok (.iinc 4 6, 3) := by decide +kernel
theorem jj_1791 : decode code 1791 = .ok (.goto (-1768), 3) := by decide +kernel
theorem jj_1794 : decode code 1794 = .ok (.iconst 1, 1) := by decide +kernel
theorem jj_1795 : decode code 1795 = .ok (.ireturn, 1) := by decide +kernel
theorem lw_stat {x : Cx} {p : Program} {l : Launch} {e : Env} {s : State} {m : MethodId} {below : List Frame} {meth : Method} {c : Code} {b L : Nat} {xs : Nat → Int32} (C : LC x p s m meth c b L xs) {G : Gm} {I : Im} {H : Heap} {locs : List Loc} {ls : Array Slot} (hLd : LdW x s) {z : Int32} {rm : Room} {mc ms pc : Nat} {rest : List Value} {Qc : Array Value → State → Outcome → State → Prop} (hM : Met l yLd wsLl rm (PcD x [.ref 0, .int z, .ref 351] G I) Qc mc ms (fun q => xz x ≤ q)) (hrc : rm.cells = mc) (hrs : rm.slots = ms) (hrf : rm.frames + 1 ≤ 2048) (hrl : 8 + (4 + 11) + rm.locals ≤ 84000)
    (hH : HM x G I H) (hlo : ∀ q ∈ locs, xz x ≤ q.base) (hsz : ls.size = 7) (hcap : gN G + mc ≤ 601024 ∧ gS G + ms ≤ 7293034) (hr : (rest.map fun v => v.category).sum ≤ 8) (hdg : decode code pc = .ok (.invokestatic 242, 3))
    (kk : ∀ (v : Option Value) (st₀ t : State) (locs' : List Loc), Qc ((([.ref 0, .int z, .ref 351] : List Value).map (cv x)).toArray) st₀ (.returned v) t → (∀ q ∈ locs', xz x ≤ q.base) → LW p l e s m below meth c b t.heap locs' (gN G + mc) (gS G + ms) (F0 m (pc + 3) ls (v.toList ++ rest))) :
    LW p l e s m below meth c b H locs (gN G) (gS G) (F0 m pc ls (.ref (adr x 351) :: .int z :: .ref (adr x 0) :: rest)) := by
  obtain ⟨⟨hx, hbd, hrr, hml, hown, hts, hX, hbl, hlocks, hgv⟩, hK, -⟩ := C
  have htw : ∀ w ∈ TW, w.before #[Value.ref b] s = true := fun w hw => hts w (TW_tbl hw)
  have hpre : PreS s H (PcD x [.ref 0, .int z, .ref 351] G I) [.ref (adr x 0), .int z, .ref (adr x 351)] := ⟨PcD.blind x _ G I, fun U hU hW => ⟨rfl, by rw [hU]; exact hH, KK.warm hW hK, LdW.warm hW hLd⟩⟩
  refine W_run (vx_runSW (hh := tLd) (n := 3) (As := [.ref (adr x 0), .int z, .ref (adr x 351)]) (rest := rest) (⟨hx, hbd, hml, hown, htw⟩ : CallFix p m c code 7 s _ TW R_law) hM (vx_cwSW 3 htw gLl rfl hrc hrs ⟨by decide, by decide, by decide +kernel⟩ ⟨hrf, hrl⟩) hpre rfl rfl hsz rfl (lv_room hr) hdg hcap) (fun v st₀ t L' h0 hq hL' => ?_)
  exact kk v st₀ t (locs ++ L') hq (fun q hq => (List.mem_append.mp hq).elim (hlo q) (hL' q))
theorem lg_cmp_s (w : Int64) : lg_cmp w w = 0 := by
  unfold lg_cmp
  simp
theorem lc54 {x : Cx} {p : Program} {l : Launch} {e : Env} {s : State} {m : MethodId} {below : List Frame} {meth : Method} {c : Code} {b L : Nat} {xs : Nat → Int32} (C : LC x p s m meth c b L xs) {G : Gm} {I : Im} {H : Heap} {locs : List Loc} {ls : Array Slot} {k : Nat} (hst : l.stackTraces = false) (hk : k < 512) (hi : 6 * k + 6 ≤ L) (hL : L ≤ 3072) (hH : HM x G I H) (hlo : ∀ q ∈ locs, xz x ≤ q.base) (hls : lv_has ls 7 (lwL x b k)) (hW : Wd G I 0 k)
    (K : ∀ H' locs' G' I' ls', HM x G' I' H' → Wd G' I' 0 (k + 1) → (∀ q ∈ locs', xz x ≤ q.base) → lv_has ls' 7 (lwL x b k) → LW p l e s m below meth c b H' locs' (gN G') (gS G') (F0 m 1788 ls' [])) : LW p l e s m below meth c b H locs (gN G) (gS G) (F0 m 1694 ls []) := by
  have hLd := law_LdW C
  have C0 := C
  obtain ⟨⟨hx, hbd, hrr, hml, hown, hts, hX, hbl, hlocks, hgv⟩, hK, hz, -⟩ := C0
  obtain ⟨sh, N, f, hF, hmod⟩ := led_both (x := x) (z := xs (6 * k + 1)) hW
  have hW0 := hW
  obtain ⟨_, _, _, _, _, -, hB0, ⟨c0, c1, c2, c3⟩, -⟩ := hW0
  have c0 : gT G 351 = (3, 1) := c0
  have hB0 : MoB G 339 := hB0
  refine lv_aload_n hx hbd jj_1694 rfl (lv_at hls 1 rfl) ?_
  refine l_arg (k := k) (j := 1) C hH hlo hls rfl rfl (by omega) hL rfl jj_1695 jj_1696 jj_1698 jj_1699 jj_1700 ?_
  refine lv_aload_n hx hbd jj_1701 rfl (lv_at hls 3 rfl) ?_
  cases hg : ledG f (xs (6 * k + 1)) N 0 0 with
  | some w =>
    have e0 : ∀ c, c < gN G → gT (gSetJ G 351 0 (nI w).toInt64) c = gT G c ∧ gR (gSetJ G 351 0 (nI w).toInt64) c = gR G c := fun _ _ => ⟨rfl, rfl⟩
    have hm := hmod _ e0 (Nat.le_refl _)
    rw [hg] at hm
    have hm : run 12 mX13_led [.ref 339, .int (xs (6 * k + 1))] (gSetJ G 351 0 (nI w).toInt64) I = some (some (.int (nI w)), gSetJ G 351 0 (nI w).toInt64, s2 I 339 0 (nI 0)) := hm
    have hWd : Wd (gSetJ G 351 0 (nI w).toInt64) (s2 I 339 0 (nI 0)) 0 (k + 1) := hW.upd e0 (Nat.le_refl _) (Nat.le_succ _) (Nat.le_add_right _ _)
    refine lw_stat C hLd (met_llA l hF c0 hg) rfl rfl (by decide) (by decide) hH hlo hls.1 ⟨by omega, by omega⟩ (by decide) jj_1702 (fun v st₀ t locs1 hq h2 => ?_)
    obtain ⟨q1, q2⟩ := hq
    cases q1
    have q2 : HM x (gSetJ G 351 0 (nI w).toInt64) I t.heap := q2
    show LW p l e s m below meth c b t.heap locs1 (gN (gSetJ G 351 0 (nI w).toInt64)) (gS (gSetJ G 351 0 (nI w).toInt64)) _
    refine lv_istore hx hbd jj_1705 hls (by decide) rfl (fun ls1 hl1 => ?_)
    refine lv_aload_n hx hbd jj_1707 rfl (lv_at hl1 3 rfl) ?_
    refine l_arg (k := k) (j := 1) C q2 h2 (lv_sub hl1 [1, 2, 3, 4, 5, 0] rfl) rfl rfl (by omega) hL rfl jj_1708 jj_1709 jj_1711 jj_1712 jj_1713 ?_
    refine lw_call C okX13_led rfl (wi := 2247) (by decide +kernel) rfl (a := 339) (As := [.int (xs (6 * k + 1))]) (rest := []) hB0.1 rfl (Nat.le_of_ble_eq_true rfl) hm q2 h2 (by show gN G ≤ 20000; omega) (by show gS G ≤ 200000; omega) hl1.1 (by decide) jj_1714 (fun H3 locs3 h3 h4 => ?_)
    refine lv_istore hx hbd jj_1717 hl1 (by decide) rfl (fun ls2 hl2 => ?_)
    refine lv_aload_n hx hbd jj_1719 rfl (lv_at hl2 4 rfl) ?_
    refine lw_call C okX13_thrown rfl (wi := 1559) (by decide +kernel) rfl (a := 339) (As := []) (rest := []) hB0.1 rfl (Nat.le_of_ble_eq_true rfl) (m_thrown (d := 12) hB0.1) h3 h4 (by show gN G ≤ 20000; omega) (by show gS G ≤ 200000; omega) hl2.1 (by decide) jj_1720 (fun H4 locs4 h5 h6 => ?_)
    refine lv_iload hx hbd jj_1723 (lv_at hl2 1 rfl) ?_
    refine lv_icmp_eq (tgt := 1730) hx hbd jj_1725 (by decide) (fun _ => ?_) (fun h => absurd (by rw [s2_s]; rfl) h)
    refine lv_iload hx hbd jj_1730 (lv_at hl2 1 rfl) ?_
    refine lv_if_ne (tgt := 1747) hx hbd jj_1732 (by decide) (fun h => absurd rfl h) (fun _ => ?_)
    refine lv_aload_n hx hbd jj_1735 rfl (lv_at hl2 5 rfl) ?_
    refine lv_iconst (v := 0) hx hbd jj_1736 (by decide) ?_
    refine hm_lald (a := 351) (n := 1) (i := 0) hx hbd hK h5 c0 (by decide) jj_1737 ?_
    refine lv_iload hx hbd jj_1738 (lv_at hl2 0 rfl) ?_
    refine lv_i2l (v := (nI w).toInt64) hx hbd jj_1740 rfl ?_
    refine W.lcmp hx hbd jj_1741 ?_
    refine lv_if_eq (tgt := 1747) hx hbd jj_1742 (by decide) (fun _ => ?_) (fun h => absurd ((congrArg (fun u => lg_cmp u (nI w).toInt64) (s2_s (f := gJ G) (a := 351) (k := 0) (x := (nI w).toInt64))).trans (lg_cmp_s _)) h)
    refine lv_goto (tgt := 1788) hx hbd jj_1747 (by decide) ?_
    exact K H4 locs4 _ _ ls2 h5 hWd h6 (lv_sub hl2 [2, 3, 4, 5, 6] rfl)
  | none =>
    refine lw_stat C hLd (met_llB l hst hF (by omega) hg) rfl rfl (by decide) (by decide) hH hlo hls.1 ⟨by omega, by omega⟩ (by decide) jj_1702 (fun v st₀ t locs1 hq h2 => ?_)
    obtain ⟨q1, q2⟩ := hq
    cases q1
    have e0 : ∀ c, c < gN G → gT (gPad G 1) c = gT G c ∧ gR (gPad G 1) c = gR G c := fun c hc => ⟨by
      show (if gN G ≤ c ∧ c < gN G + 1 then ((98, 0) : Nat × Nat) else gT G c) = gT G c
      rw [if_neg (by omega)], rfl⟩
    have hNn : gN (gPad G 1) = gN G + 1 := rfl
    have hSn : gS (gPad G 1) = gS G + 6 := rfl
    have hm := hmod _ e0 (Nat.le_add_right _ _)
    rw [hg] at hm
    have hm : run 12 mX13_led [.ref 339, .int (xs (6 * k + 1))] (gPad G 1) I = some (some (.int (nI 0)), gPad G 1, s2 I 339 0 (nI 1)) := hm
    have hWd : Wd (gPad G 1) (s2 I 339 0 (nI 1)) 0 (k + 1) := hW.upd e0 (Nat.le_add_right _ _) (by omega) (by omega)
    have g9 : gT (gPad G 1) 339 = (23, 32) := by rw [(e0 339 (by omega)).1]; exact hB0.1
    show LW p l e s m below meth c b t.heap locs1 (gN (gPad G 1)) (gS (gPad G 1)) _
    refine lv_istore hx hbd jj_1705 hls (by decide) rfl (fun ls1 hl1 => ?_)
    refine lv_aload_n hx hbd jj_1707 rfl (lv_at hl1 3 rfl) ?_
    refine l_arg (k := k) (j := 1) C q2 h2 (lv_sub hl1 [1, 2, 3, 4, 5, 0] rfl) rfl rfl (by omega) hL rfl jj_1708 jj_1709 jj_1711 jj_1712 jj_1713 ?_
    refine lw_call C okX13_led rfl (wi := 2247) (by decide +kernel) rfl (a := 339) (As := [.int (xs (6 * k + 1))]) (rest := []) g9 rfl (Nat.le_of_ble_eq_true rfl) hm q2 h2 (by omega) (by omega) hl1.1 (by decide) jj_1714 (fun H3 locs3 h3 h4 => ?_)
    refine lv_istore hx hbd jj_1717 hl1 (by decide) rfl (fun ls2 hl2 => ?_)
    refine lv_aload_n hx hbd jj_1719 rfl (lv_at hl2 4 rfl) ?_
    refine lw_call C okX13_thrown rfl (wi := 1559) (by decide +kernel) rfl (a := 339) (As := []) (rest := []) g9 rfl (Nat.le_of_ble_eq_true rfl) (m_thrown (d := 12) g9) h3 h4 (by omega) (by omega) hl2.1 (by decide) jj_1720 (fun H4 locs4 h5 h6 => ?_)
    refine lv_iload hx hbd jj_1723 (lv_at hl2 1 rfl) ?_
    refine lv_icmp_eq (tgt := 1730) hx hbd jj_1725 (by decide) (fun _ => ?_) (fun h => absurd (by rw [s2_s]; rfl) h)
    refine lv_iload hx hbd jj_1730 (lv_at hl2 1 rfl) ?_
    refine lv_if_ne (tgt := 1747) hx hbd jj_1732 (by decide) (fun _ => ?_) (fun h => absurd h (by decide))
    refine lv_goto (tgt := 1788) hx hbd jj_1747 (by decide) ?_
    exact K H4 locs4 _ _ ls2 h5 hWd h6 (lv_sub hl2 [2, 3, 4, 5, 6] rfl)
