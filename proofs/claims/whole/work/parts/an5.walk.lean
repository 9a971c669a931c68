/-! the law: which case, the loop, the start -/
theorem Wd.mono {G : Gm} {I : Im} {k : Nat} (W : Wd G I 0 k) : Wd G I 0 (k + 1) := by
  obtain ⟨s, u, n, B, o, hT, hB, ⟨c0, c1, c2, c3⟩, hV, hV2, hTr, hC, hM, hk⟩ := W
  exact ⟨s, u, n, B, o, hT, hB, ⟨c0, c1, by omega, by omega⟩, hV, hV2, hTr, hC, hM, hk.mono⟩
theorem lw_disp {x : Cx} {p : Program} {l : Launch} {e : Env} {s : State} {m : MethodId} {below : List Frame} {meth : Method} {c : Code} {b L : Nat} {xs : Nat → Int32} (C : LC x p s m meth c b L xs) {G : Gm} {I : Im} {H : Heap} {locs : List Loc} {ls : Array Slot} {k : Nat} (hst : l.stackTraces = false) (hk : k < 512) (hi : 6 * k + 6 ≤ L) (hL : L ≤ 3072) (hH : HM x G I H) (hlo : ∀ q ∈ locs, xz x ≤ q.base) (hls : lv_has ls 7 (lwL x b k)) (hW : Wd G I 0 k)
    (K : ∀ H' locs' G' I' ls', HM x G' I' H' → Wd G' I' 0 (k + 1) → (∀ q ∈ locs', xz x ≤ q.base) → lv_has ls' 7 (lwL x b k) → LW p l e s m below meth c b H' locs' (gN G') (gS G') (F0 m 1788 ls' [])) :
    ∀ v, v < 64 → LW p l e s m below meth c b H locs (gN G) (gS G) (F0 m 40 ls [.int (nI v)]) := by
  have hx := C.1.1
  have hbd := C.1.2.1
  have K1 : ∀ H' locs' G' I', HM x G' I' H' → Wd G' I' 0 (k + 1) → (∀ q ∈ locs', xz x ≤ q.base) → LW p l e s m below meth c b H' locs' (gN G') (gS G') (F0 m 1788 ls []) := fun H' locs' G' I' a1 a2 a3 => K H' locs' G' I' ls a1 a2 a3 hls
  intro v hv
  by_cases c57 : v < 57
  · match v, c57 with
    | 0, _ => exact lv_tableIn (tgt := 284) hx hbd jj_40 (by decide) (by decide) rfl rfl (lc0 C hk hi hL hH hlo hls hW K1)
    | 1, _ => exact lv_tableIn (tgt := 357) hx hbd jj_40 (by decide) (by decide) rfl rfl (lc1 C hk hi hL hH hlo hls hW K1)
    | 2, _ => exact lv_tableIn (tgt := 382) hx hbd jj_40 (by decide) (by decide) rfl rfl (lc2 C hk hi hL hH hlo hls hW K1)
    | 3, _ => exact lv_tableIn (tgt := 395) hx hbd jj_40 (by decide) (by decide) rfl rfl (lc3 C hk hi hL hH hlo hls hW K1)
    | 4, _ => exact lv_tableIn (tgt := 408) hx hbd jj_40 (by decide) (by decide) rfl rfl (lc4 C hk hi hL hH hlo hls hW K1)
    | 5, _ => exact lv_tableIn (tgt := 445) hx hbd jj_40 (by decide) (by decide) rfl rfl (lc5 C hk hi hL hH hlo hls hW K1)
    | 6, _ => exact lv_tableIn (tgt := 482) hx hbd jj_40 (by decide) (by decide) rfl rfl (lc6 C hk hi hL hH hlo hls hW K1)
    | 7, _ => exact lv_tableIn (tgt := 507) hx hbd jj_40 (by decide) (by decide) rfl rfl (lc7 C hk hi hL hH hlo hls hW K1)
    | 8, _ => exact lv_tableIn (tgt := 532) hx hbd jj_40 (by decide) (by decide) rfl rfl (lc8 C hk hi hL hH hlo hls hW K1)
    | 9, _ => exact lv_tableIn (tgt := 569) hx hbd jj_40 (by decide) (by decide) rfl rfl (lc9 C hk hi hL hH hlo hls hW K1)
    | 10, _ => exact lv_tableIn (tgt := 594) hx hbd jj_40 (by decide) (by decide) rfl rfl (lc10 C hk hi hL hH hlo hls hW K1)
    | 11, _ => exact lv_tableIn (tgt := 607) hx hbd jj_40 (by decide) (by decide) rfl rfl (lc11 C hk hi hL hH hlo hls hW K1)
    | 12, _ => exact lv_tableIn (tgt := 620) hx hbd jj_40 (by decide) (by decide) rfl rfl (lc12 C hk hi hL hH hlo hls hW K1)
    | 13, _ => exact lv_tableIn (tgt := 633) hx hbd jj_40 (by decide) (by decide) rfl rfl (lc13 C hk hi hL hH hlo hls hW K1)
    | 14, _ => exact lv_tableIn (tgt := 646) hx hbd jj_40 (by decide) (by decide) rfl rfl (lc14 C hk hi hL hH hlo hls hW K1)
    | 15, _ => exact lv_tableIn (tgt := 683) hx hbd jj_40 (by decide) (by decide) rfl rfl (lc15 C hk hi hL hH hlo hls hW K1)
    | 16, _ => exact lv_tableIn (tgt := 720) hx hbd jj_40 (by decide) (by decide) rfl rfl (lc16 C hk hi hL hH hlo hls hW K1)
    | 17, _ => exact lv_tableIn (tgt := 757) hx hbd jj_40 (by decide) (by decide) rfl rfl (lc17 C hk hi hL hH hlo hls hW K1)
    | 18, _ => exact lv_tableIn (tgt := 794) hx hbd jj_40 (by decide) (by decide) rfl rfl (lc18 C hk hi hL hH hlo hls hW K1)
    | 19, _ => exact lv_tableIn (tgt := 819) hx hbd jj_40 (by decide) (by decide) rfl rfl (lc19 C hk hi hL hH hlo hls hW K1)
    | 20, _ => exact lv_tableIn (tgt := 832) hx hbd jj_40 (by decide) (by decide) rfl rfl (lc20 C hk hi hL hH hlo hls hW K1)
    | 21, _ => exact lv_tableIn (tgt := 857) hx hbd jj_40 (by decide) (by decide) rfl rfl (lc21 C hk hi hL hH hlo hls hW K1)
    | 22, _ => exact lv_tableIn (tgt := 870) hx hbd jj_40 (by decide) (by decide) rfl rfl (lc22 C hk hi hL hH hlo hls hW K1)
    | 23, _ => exact lv_tableIn (tgt := 883) hx hbd jj_40 (by decide) (by decide) rfl rfl (lc23 C hk hi hL hH hlo hls hW K1)
    | 24, _ => exact lv_tableIn (tgt := 908) hx hbd jj_40 (by decide) (by decide) rfl rfl (lc24 C hk hi hL hH hlo hls hW K1)
    | 25, _ => exact lv_tableIn (tgt := 921) hx hbd jj_40 (by decide) (by decide) rfl rfl (lc25 C hk hi hL hH hlo hls hW K1)
    | 26, _ => exact lv_tableIn (tgt := 946) hx hbd jj_40 (by decide) (by decide) rfl rfl (lc26 C hk hi hL hH hlo hls hW K1)
    | 27, _ => exact lv_tableIn (tgt := 983) hx hbd jj_40 (by decide) (by decide) rfl rfl (lc27 C hk hi hL hH hlo hls hW K1)
    | 28, _ => exact lv_tableIn (tgt := 1008) hx hbd jj_40 (by decide) (by decide) rfl rfl (lc28 C hk hi hL hH hlo hls hW K1)
    | 29, _ => exact lv_tableIn (tgt := 1045) hx hbd jj_40 (by decide) (by decide) rfl rfl (lc29 C hk hi hL hH hlo hls hW K1)
    | 30, _ => exact lv_tableIn (tgt := 1058) hx hbd jj_40 (by decide) (by decide) rfl rfl (lc30 C hk hi hL hH hlo hls hW K1)
    | 31, _ => exact lv_tableIn (tgt := 1083) hx hbd jj_40 (by decide) (by decide) rfl rfl (lc31 C hk hi hL hH hlo hls hW K1)
    | 32, _ => exact lv_tableIn (tgt := 1096) hx hbd jj_40 (by decide) (by decide) rfl rfl (lc32 C hk hi hL hH hlo hls hW K1)
    | 33, _ => exact lv_tableIn (tgt := 1109) hx hbd jj_40 (by decide) (by decide) rfl rfl (lc33 C hk hi hL hH hlo hls hW K1)
    | 34, _ => exact lv_tableIn (tgt := 1134) hx hbd jj_40 (by decide) (by decide) rfl rfl (lc34 C hk hi hL hH hlo hls hW K1)
    | 35, _ => exact lv_tableIn (tgt := 1171) hx hbd jj_40 (by decide) (by decide) rfl rfl (lc35 C hk hi hL hH hlo hls hW K1)
    | 36, _ => exact lv_tableIn (tgt := 1196) hx hbd jj_40 (by decide) (by decide) rfl rfl (lc36 C hk hi hL hH hlo hls hW K1)
    | 37, _ => exact lv_tableIn (tgt := 1233) hx hbd jj_40 (by decide) (by decide) rfl rfl (lc37 C hk hi hL hH hlo hls hW K1)
    | 38, _ => exact lv_tableIn (tgt := 1258) hx hbd jj_40 (by decide) (by decide) rfl rfl (lc38 C hk hi hL hH hlo hls hW K1)
    | 39, _ => exact lv_tableIn (tgt := 1271) hx hbd jj_40 (by decide) (by decide) rfl rfl (lc39 C hk hi hL hH hlo hls hW K1)
    | 40, _ => exact lv_tableIn (tgt := 1308) hx hbd jj_40 (by decide) (by decide) rfl rfl (lc40 C hk hi hL hH hlo hls hW K1)
    | 41, _ => exact lv_tableIn (tgt := 1333) hx hbd jj_40 (by decide) (by decide) rfl rfl (lc41 C hk hi hL hH hlo hls hW K1)
    | 42, _ => exact lv_tableIn (tgt := 1358) hx hbd jj_40 (by decide) (by decide) rfl rfl (lc42 C hk hi hL hH hlo hls hW K1)
    | 43, _ => exact lv_tableIn (tgt := 1371) hx hbd jj_40 (by decide) (by decide) rfl rfl (lc43 C hk hi hL hH hlo hls hW K1)
    | 44, _ => exact lv_tableIn (tgt := 1384) hx hbd jj_40 (by decide) (by decide) rfl rfl (lc44 C hk hi hL hH hlo hls hW K1)
    | 45, _ => exact lv_tableIn (tgt := 1433) hx hbd jj_40 (by decide) (by decide) rfl rfl (lc45 C hk hi hL hH hlo hls hW K1)
    | 46, _ => exact lv_tableIn (tgt := 1494) hx hbd jj_40 (by decide) (by decide) rfl rfl (lc46 C hk hi hL hH hlo hls hW K1)
    | 47, _ => exact lv_tableIn (tgt := 1531) hx hbd jj_40 (by decide) (by decide) rfl rfl (lc47 C hk hi hL hH hlo hls hW K1)
    | 48, _ => exact lv_tableIn (tgt := 1556) hx hbd jj_40 (by decide) (by decide) rfl rfl (lc48 C hk hi hL hH hlo hls hW K1)
    | 49, _ => exact lv_tableIn (tgt := 1593) hx hbd jj_40 (by decide) (by decide) rfl rfl (lc49 C hk hi hL hH hlo hls hW K1)
    | 50, _ => exact lv_tableIn (tgt := 1618) hx hbd jj_40 (by decide) (by decide) rfl rfl (lc50 C hk hi hL hH hlo hls hW K1)
    | 51, _ => exact lv_tableIn (tgt := 1643) hx hbd jj_40 (by decide) (by decide) rfl rfl (lc51 C hk hi hL hH hlo hls hW K1)
    | 52, _ => exact lv_tableIn (tgt := 1656) hx hbd jj_40 (by decide) (by decide) rfl rfl (lc52 C hk hi hL hH hlo hls hW K1)
    | 53, _ => exact lv_tableIn (tgt := 1669) hx hbd jj_40 (by decide) (by decide) rfl rfl (lc53 C hk hi hL hH hlo hls hW K1)
    | 54, _ => exact lv_tableIn (tgt := 1694) hx hbd jj_40 (by decide) (by decide) rfl rfl (lc54 C hst hk hi hL hH hlo hls hW K)
    | 55, _ => exact lv_tableIn (tgt := 1750) hx hbd jj_40 (by decide) (by decide) rfl rfl (lc55 C hk hi hL hH hlo hls hW K1)
    | 56, _ => exact lv_tableIn (tgt := 1775) hx hbd jj_40 (by decide) (by decide) rfl rfl (lc56 C hk hi hL hH hlo hls hW K1)
    | n + 57, h => exact absurd h (by omega)
  · exact lv_tableOut (tgt := 1788) hx hbd jj_40 (Or.inr (by rw [nI_toInt (by omega)]; omega)) (by decide) (K1 H locs G I hH hW.mono hlo)
theorem lw_lim {k L : Nat} (hL : L ≤ 3072) (hk : 6 * k ≤ L) : Int32.ofNat L - 6 < nI (6 * k) ↔ L < 6 * k + 6 := by
  have e : Int32.ofNat L - 6 = nI L - nI 6 := rfl
  rw [e, Int32.lt_iff_toInt_lt, pk_sub_toInt (by omega) (by omega), nI_toInt (by omega)]
  omega
theorem lw_loop {x : Cx} {p : Program} {l : Launch} {e : Env} {s : State} {m : MethodId} {below : List Frame} {meth : Method} {c : Code} {b L : Nat} {xs : Nat → Int32} (C : LC x p s m meth c b L xs) (hst : l.stackTraces = false) (hL : L ≤ 3072) : ∀ (r k : Nat) (G : Gm) (I : Im) (H : Heap) (locs : List Loc) (ls : Array Slot), k + r = 512 → 6 * k ≤ L → HM x G I H → (∀ q ∈ locs, xz x ≤ q.base) → lv_has ls 7 (lwL x b k) → Wd G I 0 k →
    LW p l e s m below meth c b H locs (gN G) (gS G) (F0 m 23 ls []) := by
  intro r
  induction r with
  | zero =>
    intro k G I H locs ls hkr hkL hH hlo hls hW
    have hS := C.S hH hlo
    obtain ⟨⟨hx, hbd, hrr, hml, hown, hts, hX, hbl, hlocks, hgv⟩, hK, hz, -⟩ := id C
    obtain ⟨_, _, _, _, _, -, -, ⟨-, b1, b2, b3⟩, -⟩ := id hW
    refine lv_iload hx hbd jj_23 (lv_at hls 4 rfl) ?_
    refine lv_aload_n hx hbd jj_25 rfl (lv_at hls 0 rfl) ?_
    refine va_slen hx hbd hX hbl (by omega) hS jj_26 ?_
    refine lv_bipush (v := 6) hx hbd jj_27 (by decide) ?_
    refine lv_isub hx hbd jj_29 ?_
    refine lv_icmp_gt (tgt := 1794) hx hbd jj_30 (by decide) (fun _ => ?_) (fun h => absurd ((lw_lim hL hkL).mpr (by omega)) h)
    refine lv_iconst (v := 1) hx hbd jj_1794 (by decide) ?_
    refine va_forget (fun q hq => by rw [← hz]; exact hlo q hq) ?_
    refine w_widen (k := 601024) (n := 7293034) (by omega) (by omega) ?_
    exact lw_ret hx hbd hrr hlocks jj_1795
  | succ r ih =>
    intro k G I H locs ls hkr hkL hH hlo hls hW
    have hS := C.S hH hlo
    obtain ⟨⟨hx, hbd, hrr, hml, hown, hts, hX, hbl, hlocks, hgv⟩, hK, hz, -⟩ := id C
    obtain ⟨_, _, _, _, _, -, -, ⟨-, b1, b2, b3⟩, -⟩ := id hW
    refine lv_iload hx hbd jj_23 (lv_at hls 4 rfl) ?_
    refine lv_aload_n hx hbd jj_25 rfl (lv_at hls 0 rfl) ?_
    refine va_slen hx hbd hX hbl (by omega) hS jj_26 ?_
    refine lv_bipush (v := 6) hx hbd jj_27 (by decide) ?_
    refine lv_isub hx hbd jj_29 ?_
    refine lv_icmp_gt (tgt := 1794) hx hbd jj_30 (by decide) (fun _ => ?_) (fun h => ?_)
    · refine lv_iconst (v := 1) hx hbd jj_1794 (by decide) ?_
      refine va_forget (fun q hq => by rw [← hz]; exact hlo q hq) ?_
      refine w_widen (k := 601024) (n := 7293034) (by omega) (by omega) ?_
      exact lw_ret hx hbd hrr hlocks jj_1795
    · have hi : 6 * k + 6 ≤ L := Nat.not_lt.mp (fun q => h ((lw_lim hL hkL).mpr q))
      refine lv_aload_n hx hbd jj_33 rfl (lv_at hls 0 rfl) ?_
      refine lv_iload hx hbd jj_34 (lv_at hls 4 rfl) ?_
      refine va_sld hx hbd hX hbl (by omega) hS (nI_in (by omega) (by omega)) jj_36 ?_
      rw [nI_clamp (by omega)]
      refine lv_bipush (v := 63) hx hbd jj_37 (by decide) ?_
      refine lv_iand hx hbd jj_39 ?_
      obtain ⟨v, hv, ev⟩ := and63 (xs (6 * k))
      rw [ev]
      refine lw_disp C hst (by omega) hi hL hH hlo hls hW (fun H' locs' G' I' ls' a1 a2 a3 a4 => ?_) v hv
      refine lv_iinc (i := 4) (k := 4) hx hbd jj_1788 a4 rfl (show nI (6 * k) + Int32.ofInt 6 = nI (6 * (k + 1)) from nI_add (6 * k) 6) (by decide) rfl (fun ls2 hl2 => ?_)
      refine lv_goto (tgt := 23) hx hbd jj_1791 (by decide) ?_
      exact ih (k + 1) G' I' H' locs' ls2 (by omega) (by omega) a1 a3 (lv_sub hl2 [1, 2, 3, 4, 0] rfl) a2
theorem hm_adr {x : Cx} {n : Nat} (h : n ≤ 20000) : adr x n = xz x + n := by
  unfold adr
  exact if_pos (Nat.lt_of_le_of_lt h (by decide))
theorem lw_new_long {x : Cx} {p : Program} {l : Launch} {e : Env} {s : State} {m : MethodId} {below : List Frame} {meth : Method} {c : Code} {b L : Nat} {xs : Nat → Int32} (C : LC x p s m meth c b L xs) {G : Gm} {I : Im} {H : Heap} {locs : List Loc} {ls : Array Slot} {pc : Nat} {rest : List Value} (hH : HM x G I H) (hb : gN G ≤ 20000) (hbs : gS G ≤ 200000) (hdg : decode code pc = .ok (.newarray .long, 2))
    (kk : ∀ (H' : Heap), HM x (gNew G (3, 1)) (iNew I (gN G)) H' → LW p l e s m below meth c b H' locs (gN G + 1) (gS G + 1) (F0 m (pc + 2) ls (.ref (adr x (gN G)) :: rest))) :
    LW p l e s m below meth c b H locs (gN G) (gS G) (F0 m pc ls (.int 1 :: rest)) := by
  obtain ⟨⟨hx, hbd, hrr, hml, hown, hts, hX, hbl, hlocks, hgv⟩, hK, -⟩ := C
  have htw : ∀ w ∈ TW, w.before #[Value.ref b] s = true := fun w hw => hts w (TW_tbl hw)
  have hz := hH.1
  refine va_newaK (atype := .long) hx hbd (htw _ acLong) (g := F0 m pc ls (.int 1 :: rest)) rfl hdg rfl (n := 1) (N := 1) (by decide) (by decide) (by decide) (by show gN G + 1 ≤ 601024; omega) (by show gS G + 1 ≤ 7293034; omega) rfl (fun H1 cA e1 z1 o1 hAr hNm => ?_)
  rw [raN (k := 3) hK (by omega) hNm] at e1
  have h3 := kk H1 (hH.new (t := (3, 1)) (by omega) z1 o1 (cellArr (k := 3) (by omega) (by rw [gNew_T]) ?_))
  · have ea : adr x (gN G) = H.size := by rw [hm_adr hb, hz]
    rw [ea] at h3
    exact h3
  · rw [← hz, e1, gNew_T]
    refine congrArg some (congrArg (arrV (xA x 3) 1) (funext fun j => ?_))
    rw [gNew_val]
    rfl
theorem whole_start {p : Program} {e : Env} {s : State} {m : MethodId} {below : List Frame} {meth : Method} {c : Code} (l : Launch) (hflags : l.flags = flags0) {b L : Nat} {xs : Nat → Int32} (hL : L ≤ 3072) (C0 : lw_At p s m meth c b L xs) : W p l e room_1 s m #[Value.ref b] below meth c s.heap [] 0 0 (lw_Z below #[Value.ref b] s) (entryFrame m ([Value.ref b] : List Value).toArray 7) := by
  have hst : l.stackTraces = false := by
    unfold Launch.stackTraces
    rw [hflags]
    decide +kernel
  obtain ⟨x, hz, he, hK⟩ := law_KK C0
  have C : LC x p s m meth c b L xs := ⟨C0, hK, hz, he⟩
  obtain ⟨hx, hbd, hrr, hml, hown, hts, hX, hbl, hlocks, hgv⟩ := C0
  obtain ⟨G, I, G', I', r1, r2, hI⟩ := ini_ok
  have hwd := ini_wd hI
  have n339 := hI.1.1
  have n351 := hI.1.2.1
  have hsl := hI.1.2.2
  obtain ⟨m1, m2⟩ := run_mono r2
  have m2 : gS G + 32 ≤ gS G' := m2
  have hH0 : HM x G0 I0 s.heap := ⟨by rw [hz]; rfl, Nat.zero_le _, fun v _ => rfl, fun v hv => absurd hv (Nat.not_lt_zero v), fun q _ => by rw [he]⟩
  have hl0 := lv_entry ([.ref b]) (n := 7) (Nat.le_of_ble_eq_true rfl)
  rw [lg_entry_eq]
  generalize hgen : (lg_sl ([.ref b]) ++ List.replicate (7 - (lg_sl ([.ref b])).length) Slot.unset).toArray = ls at hl0
  have hl0 : lv_has ls 7 [(0, .ref b)] := hl0
  show LW p l e s m below meth c b s.heap [] (gN G0) (gS G0) (F0 m 0 ls [])
  refine lw_new C (ci := 11) (by decide) (wi := 25) (by decide +kernel) rfl hH0 (Nat.zero_le _) (Nat.le_of_ble_eq_true rfl) jj_0 (fun H1 h1 => ?_)
  refine lv_dup hx hbd jj_3 rfl ?_
  show LW p l e s m below meth c b H1 [] (gN (gNew G0 (21, 12))) (gS (gNew G0 (21, 12))) (F0 m 4 ls [.ref (adr x 0), .ref (adr x 0)])
  refine lw_init C okX11_init rfl rfl (wi := 27) (by decide +kernel) rfl (a := 0) (rest := [.ref (adr x 0)]) (Nat.le_of_ble_eq_true rfl) r1 h1 (fun q hq => by cases hq) (by omega) (by omega) hl0.1 (by show 1 + 0 ≤ 8; omega) jj_4 (fun H2 locs2 h2 q2 => ?_)
  refine lv_astore_n hx hbd jj_7 rfl hl0 (by decide) rfl (fun ls1 hl1 => ?_)
  refine lw_new C (ci := 13) (by decide) (wi := 1456) (by decide +kernel) rfl h2 (by omega) (by show gS G + 32 ≤ 200000; omega) jj_8 (fun H3 h3 => ?_)
  have ea : adr x (gN G) = adr x 339 := by rw [n339]
  rw [ea]
  refine lv_dup hx hbd jj_11 rfl ?_
  show LW p l e s m below meth c b H3 locs2 (gN (gNew G (23, 32))) (gS (gNew G (23, 32))) (F0 m 12 ls1 [.ref (adr x 339), .ref (adr x 339)])
  refine lw_init C okX13_init rfl rfl (wi := 1458) (by decide +kernel) rfl (a := 339) (rest := [.ref (adr x 339)]) (Nat.le_of_ble_eq_true rfl) r2 h3 q2 (by omega) (by omega) hl1.1 (by show 1 + 0 ≤ 8; omega) jj_12 (fun H4 locs4 h4 q4 => ?_)
  refine lv_astore_n hx hbd jj_15 rfl hl1 (by decide) rfl (fun ls2 hl2 => ?_)
  refine lv_iconst (v := 1) hx hbd jj_16 (by decide) ?_
  refine lw_new_long C h4 (by omega) (by omega) jj_17 (fun H5 h5 => ?_)
  have eb : adr x (gN G') = adr x 351 := by rw [n351]
  rw [eb]
  refine lv_astore_n hx hbd jj_19 rfl hl2 (by decide) rfl (fun ls3 hl3 => ?_)
  refine lv_iconst (v := nI 0) hx hbd jj_20 (by decide) ?_
  refine lv_istore hx hbd jj_21 hl3 (by decide) rfl (fun ls4 hl4 => ?_)
  exact lw_loop C hst hL 512 0 (gNew G' (3, 1)) (iNew I' (gN G')) H5 locs4 ls4 rfl (Nat.zero_le _) h5 q4 (lv_sub hl4 [4, 3, 2, 1, 0] rfl) hwd
