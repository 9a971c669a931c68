/-! the law: its rows, an argument, a pair of calls -/
theorem w_widen {p : Program} {l : Launch} {e : Env} {R : Room} {s : State} {m : MethodId} {args : Array Value} {below : List Frame} {meth : Method} {c : Code} {H : Heap} {locs : List Loc} {cells slots k n : Nat} {Q : State → Prop} {g : JFrame} (h1 : cells ≤ k) (h2 : slots ≤ n) (kk : W p l e R s m args below meth c H locs k n Q g) : W p l e R s m args below meth c H locs cells slots Q g := fun T hT X => kk T hT (stand_widen X h1 h2)
theorem nI_and (a b : Nat) : nI a &&& nI b = nI (a &&& b) := by
  apply Int32.toBitVec_inj.mp
  show BitVec.ofNat 32 a &&& BitVec.ofNat 32 b = BitVec.ofNat 32 (a &&& b)
  apply BitVec.eq_of_toNat_eq
  rw [BitVec.toNat_and, BitVec.toNat_ofNat, BitVec.toNat_ofNat, BitVec.toNat_ofNat, Nat.and_mod_two_pow]
theorem and63 (z : Int32) : ∃ v, v < 64 ∧ z &&& 63 = nI v := by
  obtain ⟨n, rfl⟩ := nI_all z
  refine ⟨n &&& 63, ?_, nI_and n 63⟩
  have : n &&& 63 ≤ 63 := Nat.and_le_right
  omega
theorem ini_wd {G G' : Gm} {I I' : Im} (h : iniP G I G' I') : Wd (gNew G' (3, 1)) (iNew I' (gN G')) 0 0 := by
  obtain ⟨⟨h1, h2, h3⟩, ⟨h4, h5⟩, ⟨i1, i2, i3, i4, i5⟩, ⟨j1, j2, j3, j4, j5, j6, j7⟩, k1, k2, k3⟩ := h
  have e : ∀ c, c ≠ 351 → iNew I' (gN G') c = I' c := fun c hc => by
    rw [h2]
    unfold iNew s1
    rw [if_neg hc]
  refine ⟨89, 3, 0, (fun _ => 0), none, h4, h5, ⟨?_, ?_, ?_, ?_⟩, ⟨?_, Nat.zero_le _, fun k hk => absurd hk (Nat.not_lt_zero k)⟩, ⟨?_, Nat.zero_le _, fun k hk => absurd hk (Nat.not_lt_zero k)⟩, ⟨?_, ?_, ?_⟩, ⟨?_, ?_, ?_, ?_, ?_, ?_, 0, by omega, ?_⟩, ⟨?_, ?_, ?_⟩, trivial⟩
  · show s1 (gT G') (gN G') (3, 1) 351 = (3, 1)
    rw [h2, s1_s]
  · show 352 ≤ gN G' + 1
    omega
  · show gN G' + 1 ≤ 352 + 0
    omega
  · show gS G' + 1 ≤ 20000 + 166 * 0
    omega
  · rw [e _ (by omega)]; exact i1
  · rw [e _ (by omega)]; exact i2
  · rw [e _ (by omega), e _ (by omega)]; exact i3
  · rw [e _ (by omega), e _ (by omega)]; exact i4
  · rw [e _ (by omega), e _ (by omega)]; exact i5
  · intro j hj; rw [e _ (by omega)]; exact j1 j hj
  · intro j hj; rw [e _ (by omega)]; exact j2 j hj
  · rw [e _ (by omega)]; exact j3
  · rw [e _ (by omega)]; exact j4
  · rw [e _ (by omega)]; exact j5
  · rw [e _ (by omega)]; exact j6
  · rw [e _ (by omega)]; exact j7
  · show s1 (gR G') (gN G') (fun _ => none) 339 3 = none
    rw [h2, s1_o (by omega)]
    exact k1
  · rw [e _ (by omega)]; exact k2
  · rw [e _ (by omega)]; exact k3
abbrev lwL (x : Cx) (b k : Nat) : List (Nat × Value) := [(0, .ref b), (1, .ref (adr x 0)), (2, .ref (adr x 339)), (3, .ref (adr x 351)), (4, .int (nI (6 * k)))]
theorem LC.S {x : Cx} {p : Program} {s : State} {m : MethodId} {meth : Method} {c : Code} {b L : Nat} {xs : Nat → Int32} (C : LC x p s m meth c b L xs) {G : Gm} {I : Im} {H : Heap} {locs : List Loc} (hH : HM x G I H) (hlo : ∀ q ∈ locs, xz x ≤ q.base) : va_S (fun q => xz x ≤ q) s.heap H locs := by
  obtain ⟨-, -, hz, he⟩ := C
  refine ⟨by rw [hH.1, ← hz]; omega, fun q hq ha => ?_, hlo⟩
  rw [← he]
  exact hH.2.2.2.2 q (Nat.not_le.mp ha)
theorem l_arg {x : Cx} {p : Program} {l : Launch} {e : Env} {s : State} {m : MethodId} {below : List Frame} {meth : Method} {c : Code} {b L : Nat} {xs : Nat → Int32} (C : LC x p s m meth c b L xs) {G : Gm} {I : Im} {H : Heap} {locs : List Loc} {ls : Array Slot} {cells slots k j pc : Nat} {n : Int} {lv : List (Nat × Value)} {rest : List Value} (hH : HM x G I H) (hlo : ∀ q ∈ locs, xz x ≤ q.base) (hls : lv_has ls 7 lv) (hl0 : lv[0]? = some (0, .ref b)) (hl4 : lv[4]? = some (4, .int (nI (6 * k)))) (hi : 6 * k + j < L) (hL : L ≤ 3072) (hn : Int32.ofInt n = nI j)
    (h1 : decode code pc = .ok (.aload_n 0, 1)) (h2 : decode code (pc + 1) = .ok (.iload 4, 2)) (h3 : decode code (pc + 3) = .ok (.iconst n, 1)) (h4 : decode code (pc + 4) = .ok (.iadd, 1)) (h5 : decode code (pc + 5) = .ok (.iaload, 1))
    (kk : LW p l e s m below meth c b H locs cells slots (F0 m (pc + 6) ls (.int (xs (6 * k + j)) :: rest))) : LW p l e s m below meth c b H locs cells slots (F0 m pc ls rest) := by
  have hS := C.S hH hlo
  obtain ⟨⟨hx, hbd, hrr, hml, hown, hts, hX, hbl, hlocks, hgv⟩, hK, hz, -⟩ := C
  refine lv_aload_n hx hbd h1 rfl (lv_at hls 0 hl0) ?_
  refine lv_iload hx hbd h2 (lv_at hls 4 hl4) ?_
  refine lv_iconst hx hbd h3 hn ?_
  refine lv_iadd hx hbd h4 ?_
  rw [nI_add]
  refine va_sld hx hbd hX hbl (by omega) hS (nI_in hi (by omega)) h5 ?_
  rw [nI_clamp (by omega)]
  exact kk
def CA (mm : MD) (own n idx wi : Nat) : Prop := MOK mm ∧ mSo mm = 0 ∧ mOwn mm = own ∧ mArg mm = n + 1 ∧ n + 1 ≤ mMax mm ∧ tables_1[wi]? = some (.methodLink R_law idx (mNm mm)) ∧ goodWord (.methodLink R_law idx (mNm mm)) = true
def rw0 (q iA iB : Nat) (off : Int) : List (Nat × Instr × Nat) := [(q, .aload_n 1, 1), (q + 1, .invokevirtual iA, 3), (q + 4, .aload_n 2, 1), (q + 5, .invokevirtual iB, 3), (q + 8, .if_icmp .eq off, 3)]
theorem cs0 {x : Cx} {p : Program} {l : Launch} {e : Env} {s : State} {m : MethodId} {below : List Frame} {meth : Method} {c : Code} {b L : Nat} {xs : Nat → Int32} (C : LC x p s m meth c b L xs) {G : Gm} {I : Im} {H : Heap} {locs : List Loc} {ls : Array Slot} {k q iA iB wA wB : Nat} {off : Int} {mA mB : MD} (hk : k < 512) (hi : 6 * k + 6 ≤ L) (hL : L ≤ 3072) (hA : CA mA 11 0 iA wA) (hB : CA mB 13 0 iB wB) (hr : ∀ r ∈ rw0 q iA iB off, decode code r.1 = .ok r.2) (ho : ((q + 8 : Nat) : Int) + off = ((1788 : Nat) : Int))
    (hcall : Call 12 0 k G I mA mB []) (hH : HM x G I H) (hlo : ∀ q ∈ locs, xz x ≤ q.base) (hls : lv_has ls 7 (lwL x b k)) (hW : Wd G I 0 k)
    (K : ∀ H' locs' G' I', HM x G' I' H' → Wd G' I' 0 (k + 1) → (∀ q ∈ locs', xz x ≤ q.base) → LW p l e s m below meth c b H' locs' (gN G') (gS G') (F0 m 1788 ls [])) : LW p l e s m below meth c b H locs (gN G) (gS G) (F0 m q ls []) := by
  have C0 := C
  obtain ⟨⟨hx, hbd, hrr, hml, hown, hts, hX, hbl, hlocks, hgv⟩, hK, hz, -⟩ := C0
  obtain ⟨z, G1, I1, G2, I2, t1, r1, r2, w2⟩ := hcall
  obtain ⟨m1, m2⟩ := run_mono r1
  obtain ⟨m3, m4⟩ := run_mono r2
  have m1 : gN G ≤ gN G1 := m1
  have m2 : gS G ≤ gS G1 := m2
  have m3 : gN G1 ≤ gN G2 := m3
  have m4 : gS G1 ≤ gS G2 := m4
  have hW2 := w2
  obtain ⟨s2, u2, n2, B2, o2, hT2, hB2, ⟨-, -, b1, b2⟩, -⟩ := hW2
  obtain ⟨s0, u0, n0, B0, o0, hT0, -⟩ := hW
  obtain ⟨a1, a2, a3, a4, a5, a6, a7⟩ := hA
  obtain ⟨c1, c2, c3, c4, c5, c6, c7⟩ := hB
  refine lv_aload_n hx hbd (hr (q, .aload_n 1, 1) (by simp [rw0])) rfl (lv_at hls 1 rfl) ?_
  refine lw_call C a1 a2 (wi := wA) a6 a7 (a := 0) (As := []) (rest := []) (by rw [a3]; exact hT0.1.1) (by rw [a4]; rfl) (Nat.le_trans (Nat.le_of_ble_eq_true rfl) a5) r1 hH hlo (by omega) (by omega) hls.1 (by decide) (hr (q + 1, .invokevirtual iA, 3) (by simp [rw0])) (fun H1 locs1 h3 h4 => ?_)
  refine lv_aload_n hx hbd (hr (q + 4, .aload_n 2, 1) (by simp [rw0])) rfl (lv_at hls 2 rfl) ?_
  refine lw_call C c1 c2 (wi := wB) c6 c7 (a := 339) (As := []) (rest := [.int z]) (by rw [c3]; exact t1) (by rw [c4]; rfl) (Nat.le_trans (Nat.le_of_ble_eq_true rfl) c5) r2 h3 h4 (by omega) (by omega) hls.1 (by show 1 + 0 ≤ 8; omega) (hr (q + 5, .invokevirtual iB, 3) (by simp [rw0])) (fun H2 locs2 h5 h6 => ?_)
  exact lv_icmp_eq (tgt := 1788) hx hbd (hr (q + 8, .if_icmp .eq off, 3) (by simp [rw0])) ho (fun _ => K H2 locs2 G2 I2 h5 w2 h6) (fun h => absurd rfl h)
def rw1 (q iA iB : Nat) (off : Int) : List (Nat × Instr × Nat) := [(q, .aload_n 1, 1), (q + 1, .aload_n 0, 1), (q + 2, .iload 4, 2), (q + 4, .iconst 1, 1), (q + 5, .iadd, 1), (q + 6, .iaload, 1), (q + 7, .invokevirtual iA, 3), (q + 10, .aload_n 2, 1), (q + 11, .aload_n 0, 1), (q + 12, .iload 4, 2), (q + 14, .iconst 1, 1), (q + 15, .iadd, 1), (q + 16, .iaload, 1), (q + 17, .invokevirtual iB, 3), (q + 20, .if_icmp .eq off, 3)]
theorem cs1 {x : Cx} {p : Program} {l : Launch} {e : Env} {s : State} {m : MethodId} {below : List Frame} {meth : Method} {c : Code} {b L : Nat} {xs : Nat → Int32} (C : LC x p s m meth c b L xs) {G : Gm} {I : Im} {H : Heap} {locs : List Loc} {ls : Array Slot} {k q iA iB wA wB : Nat} {off : Int} {mA mB : MD} (hk : k < 512) (hi : 6 * k + 6 ≤ L) (hL : L ≤ 3072) (hA : CA mA 11 1 iA wA) (hB : CA mB 13 1 iB wB) (hr : ∀ r ∈ rw1 q iA iB off, decode code r.1 = .ok r.2) (ho : ((q + 20 : Nat) : Int) + off = ((1788 : Nat) : Int))
    (hcall : Call 12 0 k G I mA mB [.int (xs (6 * k + 1))]) (hH : HM x G I H) (hlo : ∀ q ∈ locs, xz x ≤ q.base) (hls : lv_has ls 7 (lwL x b k)) (hW : Wd G I 0 k)
    (K : ∀ H' locs' G' I', HM x G' I' H' → Wd G' I' 0 (k + 1) → (∀ q ∈ locs', xz x ≤ q.base) → LW p l e s m below meth c b H' locs' (gN G') (gS G') (F0 m 1788 ls [])) : LW p l e s m below meth c b H locs (gN G) (gS G) (F0 m q ls []) := by
  have C0 := C
  obtain ⟨⟨hx, hbd, hrr, hml, hown, hts, hX, hbl, hlocks, hgv⟩, hK, hz, -⟩ := C0
  obtain ⟨z, G1, I1, G2, I2, t1, r1, r2, w2⟩ := hcall
  obtain ⟨m1, m2⟩ := run_mono r1
  obtain ⟨m3, m4⟩ := run_mono r2
  have m1 : gN G ≤ gN G1 := m1
  have m2 : gS G ≤ gS G1 := m2
  have m3 : gN G1 ≤ gN G2 := m3
  have m4 : gS G1 ≤ gS G2 := m4
  have hW2 := w2
  obtain ⟨s2, u2, n2, B2, o2, hT2, hB2, ⟨-, -, b1, b2⟩, -⟩ := hW2
  obtain ⟨s0, u0, n0, B0, o0, hT0, -⟩ := hW
  obtain ⟨a1, a2, a3, a4, a5, a6, a7⟩ := hA
  obtain ⟨c1, c2, c3, c4, c5, c6, c7⟩ := hB
  refine lv_aload_n hx hbd (hr (q, .aload_n 1, 1) (by simp [rw1])) rfl (lv_at hls 1 rfl) ?_
  refine l_arg (k := k) (j := 1) C hH hlo hls rfl rfl (by omega) hL rfl (hr (q + 1, .aload_n 0, 1) (by simp [rw1])) (hr (q + 2, .iload 4, 2) (by simp [rw1])) (hr (q + 4, .iconst 1, 1) (by simp [rw1])) (hr (q + 5, .iadd, 1) (by simp [rw1])) (hr (q + 6, .iaload, 1) (by simp [rw1])) ?_
  refine lw_call C a1 a2 (wi := wA) a6 a7 (a := 0) (As := [.int (xs (6 * k + 1))]) (rest := []) (by rw [a3]; exact hT0.1.1) (by rw [a4]; rfl) (Nat.le_trans (Nat.le_of_ble_eq_true rfl) a5) r1 hH hlo (by omega) (by omega) hls.1 (by decide) (hr (q + 7, .invokevirtual iA, 3) (by simp [rw1])) (fun H1 locs1 h3 h4 => ?_)
  refine lv_aload_n hx hbd (hr (q + 10, .aload_n 2, 1) (by simp [rw1])) rfl (lv_at hls 2 rfl) ?_
  refine l_arg (k := k) (j := 1) C h3 h4 hls rfl rfl (by omega) hL rfl (hr (q + 11, .aload_n 0, 1) (by simp [rw1])) (hr (q + 12, .iload 4, 2) (by simp [rw1])) (hr (q + 14, .iconst 1, 1) (by simp [rw1])) (hr (q + 15, .iadd, 1) (by simp [rw1])) (hr (q + 16, .iaload, 1) (by simp [rw1])) ?_
  refine lw_call C c1 c2 (wi := wB) c6 c7 (a := 339) (As := [.int (xs (6 * k + 1))]) (rest := [.int z]) (by rw [c3]; exact t1) (by rw [c4]; rfl) (Nat.le_trans (Nat.le_of_ble_eq_true rfl) c5) r2 h3 h4 (by omega) (by omega) hls.1 (by show 1 + 0 ≤ 8; omega) (hr (q + 17, .invokevirtual iB, 3) (by simp [rw1])) (fun H2 locs2 h5 h6 => ?_)
  exact lv_icmp_eq (tgt := 1788) hx hbd (hr (q + 20, .if_icmp .eq off, 3) (by simp [rw1])) ho (fun _ => K H2 locs2 G2 I2 h5 w2 h6) (fun h => absurd rfl h)
def rw2 (q iA iB : Nat) (off : Int) : List (Nat × Instr × Nat) := [(q, .aload_n 1, 1), (q + 1, .aload_n 0, 1), (q + 2, .iload 4, 2), (q + 4, .iconst 1, 1), (q + 5, .iadd, 1), (q + 6, .iaload, 1), (q + 7, .aload_n 0, 1), (q + 8, .iload 4, 2), (q + 10, .iconst 2, 1), (q + 11, .iadd, 1), (q + 12, .iaload, 1), (q + 13, .invokevirtual iA, 3), (q + 16, .aload_n 2, 1), (q + 17, .aload_n 0, 1), (q + 18, .iload 4, 2), (q + 20, .iconst 1, 1), (q + 21, .iadd, 1), (q + 22, .iaload, 1), (q + 23, .aload_n 0, 1), (q + 24, .iload 4, 2), (q + 26, .iconst 2, 1), (q + 27, .iadd, 1), (q + 28, .iaload, 1), (q + 29, .invokevirtual iB, 3), (q + 32, .if_icmp .eq off, 3)]
theorem cs2 {x : Cx} {p : Program} {l : Launch} {e : Env} {s : State} {m : MethodId} {below : List Frame} {meth : Method} {c : Code} {b L : Nat} {xs : Nat → Int32} (C : LC x p s m meth c b L xs) {G : Gm} {I : Im} {H : Heap} {locs : List Loc} {ls : Array Slot} {k q iA iB wA wB : Nat} {off : Int} {mA mB : MD} (hk : k < 512) (hi : 6 * k + 6 ≤ L) (hL : L ≤ 3072) (hA : CA mA 11 2 iA wA) (hB : CA mB 13 2 iB wB) (hr : ∀ r ∈ rw2 q iA iB off, decode code r.1 = .ok r.2) (ho : ((q + 32 : Nat) : Int) + off = ((1788 : Nat) : Int))
    (hcall : Call 12 0 k G I mA mB [.int (xs (6 * k + 1)), .int (xs (6 * k + 2))]) (hH : HM x G I H) (hlo : ∀ q ∈ locs, xz x ≤ q.base) (hls : lv_has ls 7 (lwL x b k)) (hW : Wd G I 0 k)
    (K : ∀ H' locs' G' I', HM x G' I' H' → Wd G' I' 0 (k + 1) → (∀ q ∈ locs', xz x ≤ q.base) → LW p l e s m below meth c b H' locs' (gN G') (gS G') (F0 m 1788 ls [])) : LW p l e s m below meth c b H locs (gN G) (gS G) (F0 m q ls []) := by
  have C0 := C
  obtain ⟨⟨hx, hbd, hrr, hml, hown, hts, hX, hbl, hlocks, hgv⟩, hK, hz, -⟩ := C0
  obtain ⟨z, G1, I1, G2, I2, t1, r1, r2, w2⟩ := hcall
  obtain ⟨m1, m2⟩ := run_mono r1
  obtain ⟨m3, m4⟩ := run_mono r2
  have m1 : gN G ≤ gN G1 := m1
  have m2 : gS G ≤ gS G1 := m2
  have m3 : gN G1 ≤ gN G2 := m3
  have m4 : gS G1 ≤ gS G2 := m4
  have hW2 := w2
  obtain ⟨s2, u2, n2, B2, o2, hT2, hB2, ⟨-, -, b1, b2⟩, -⟩ := hW2
  obtain ⟨s0, u0, n0, B0, o0, hT0, -⟩ := hW
  obtain ⟨a1, a2, a3, a4, a5, a6, a7⟩ := hA
  obtain ⟨c1, c2, c3, c4, c5, c6, c7⟩ := hB
  refine lv_aload_n hx hbd (hr (q, .aload_n 1, 1) (by simp [rw2])) rfl (lv_at hls 1 rfl) ?_
  refine l_arg (k := k) (j := 1) C hH hlo hls rfl rfl (by omega) hL rfl (hr (q + 1, .aload_n 0, 1) (by simp [rw2])) (hr (q + 2, .iload 4, 2) (by simp [rw2])) (hr (q + 4, .iconst 1, 1) (by simp [rw2])) (hr (q + 5, .iadd, 1) (by simp [rw2])) (hr (q + 6, .iaload, 1) (by simp [rw2])) ?_
  refine l_arg (k := k) (j := 2) C hH hlo hls rfl rfl (by omega) hL rfl (hr (q + 7, .aload_n 0, 1) (by simp [rw2])) (hr (q + 8, .iload 4, 2) (by simp [rw2])) (hr (q + 10, .iconst 2, 1) (by simp [rw2])) (hr (q + 11, .iadd, 1) (by simp [rw2])) (hr (q + 12, .iaload, 1) (by simp [rw2])) ?_
  refine lw_call C a1 a2 (wi := wA) a6 a7 (a := 0) (As := [.int (xs (6 * k + 1)), .int (xs (6 * k + 2))]) (rest := []) (by rw [a3]; exact hT0.1.1) (by rw [a4]; rfl) (Nat.le_trans (Nat.le_of_ble_eq_true rfl) a5) r1 hH hlo (by omega) (by omega) hls.1 (by decide) (hr (q + 13, .invokevirtual iA, 3) (by simp [rw2])) (fun H1 locs1 h3 h4 => ?_)
  refine lv_aload_n hx hbd (hr (q + 16, .aload_n 2, 1) (by simp [rw2])) rfl (lv_at hls 2 rfl) ?_
  refine l_arg (k := k) (j := 1) C h3 h4 hls rfl rfl (by omega) hL rfl (hr (q + 17, .aload_n 0, 1) (by simp [rw2])) (hr (q + 18, .iload 4, 2) (by simp [rw2])) (hr (q + 20, .iconst 1, 1) (by simp [rw2])) (hr (q + 21, .iadd, 1) (by simp [rw2])) (hr (q + 22, .iaload, 1) (by simp [rw2])) ?_
  refine l_arg (k := k) (j := 2) C h3 h4 hls rfl rfl (by omega) hL rfl (hr (q + 23, .aload_n 0, 1) (by simp [rw2])) (hr (q + 24, .iload 4, 2) (by simp [rw2])) (hr (q + 26, .iconst 2, 1) (by simp [rw2])) (hr (q + 27, .iadd, 1) (by simp [rw2])) (hr (q + 28, .iaload, 1) (by simp [rw2])) ?_
  refine lw_call C c1 c2 (wi := wB) c6 c7 (a := 339) (As := [.int (xs (6 * k + 1)), .int (xs (6 * k + 2))]) (rest := [.int z]) (by rw [c3]; exact t1) (by rw [c4]; rfl) (Nat.le_trans (Nat.le_of_ble_eq_true rfl) c5) r2 h3 h4 (by omega) (by omega) hls.1 (by show 1 + 0 ≤ 8; omega) (hr (q + 29, .invokevirtual iB, 3) (by simp [rw2])) (fun H2 locs2 h5 h6 => ?_)
  exact lv_icmp_eq (tgt := 1788) hx hbd (hr (q + 32, .if_icmp .eq off, 3) (by simp [rw2])) ho (fun _ => K H2 locs2 G2 I2 h5 w2 h6) (fun h => absurd rfl h)
def rw3 (q iA iB : Nat) (off : Int) : List (Nat × Instr × Nat) := [(q, .aload_n 1, 1), (q + 1, .aload_n 0, 1), (q + 2, .iload 4, 2), (q + 4, .iconst 1, 1), (q + 5, .iadd, 1), (q + 6, .iaload, 1), (q + 7, .aload_n 0, 1), (q + 8, .iload 4, 2), (q + 10, .iconst 2, 1), (q + 11, .iadd, 1), (q + 12, .iaload, 1), (q + 13, .aload_n 0, 1), (q + 14, .iload 4, 2), (q + 16, .iconst 3, 1), (q + 17, .iadd, 1), (q + 18, .iaload, 1), (q + 19, .invokevirtual iA, 3), (q + 22, .aload_n 2, 1), (q + 23, .aload_n 0, 1), (q + 24, .iload 4, 2), (q + 26, .iconst 1, 1), (q + 27, .iadd, 1), (q + 28, .iaload, 1), (q + 29, .aload_n 0, 1), (q + 30, .iload 4, 2), (q + 32, .iconst 2, 1), (q + 33, .iadd, 1), (q + 34, .iaload, 1), (q + 35, .aload_n 0, 1), (q + 36, .iload 4, 2), (q + 38, .iconst 3, 1), (q + 39, .iadd, 1), (q + 40, .iaload, 1), (q + 41, .invokevirtual iB, 3), (q + 44, .if_icmp .eq off, 3)]
theorem cs3 {x : Cx} {p : Program} {l : Launch} {e : Env} {s : State} {m : MethodId} {below : List Frame} {meth : Method} {c : Code} {b L : Nat} {xs : Nat → Int32} (C : LC x p s m meth c b L xs) {G : Gm} {I : Im} {H : Heap} {locs : List Loc} {ls : Array Slot} {k q iA iB wA wB : Nat} {off : Int} {mA mB : MD} (hk : k < 512) (hi : 6 * k + 6 ≤ L) (hL : L ≤ 3072) (hA : CA mA 11 3 iA wA) (hB : CA mB 13 3 iB wB) (hr : ∀ r ∈ rw3 q iA iB off, decode code r.1 = .ok r.2) (ho : ((q + 44 : Nat) : Int) + off = ((1788 : Nat) : Int))
    (hcall : Call 12 0 k G I mA mB [.int (xs (6 * k + 1)), .int (xs (6 * k + 2)), .int (xs (6 * k + 3))]) (hH : HM x G I H) (hlo : ∀ q ∈ locs, xz x ≤ q.base) (hls : lv_has ls 7 (lwL x b k)) (hW : Wd G I 0 k)
    (K : ∀ H' locs' G' I', HM x G' I' H' → Wd G' I' 0 (k + 1) → (∀ q ∈ locs', xz x ≤ q.base) → LW p l e s m below meth c b H' locs' (gN G') (gS G') (F0 m 1788 ls [])) : LW p l e s m below meth c b H locs (gN G) (gS G) (F0 m q ls []) := by
  have C0 := C
  obtain ⟨⟨hx, hbd, hrr, hml, hown, hts, hX, hbl, hlocks, hgv⟩, hK, hz, -⟩ := C0
  obtain ⟨z, G1, I1, G2, I2, t1, r1, r2, w2⟩ := hcall
  obtain ⟨m1, m2⟩ := run_mono r1
  obtain ⟨m3, m4⟩ := run_mono r2
  have m1 : gN G ≤ gN G1 := m1
  have m2 : gS G ≤ gS G1 := m2
  have m3 : gN G1 ≤ gN G2 := m3
  have m4 : gS G1 ≤ gS G2 := m4
  have hW2 := w2
  obtain ⟨s2, u2, n2, B2, o2, hT2, hB2, ⟨-, -, b1, b2⟩, -⟩ := hW2
  obtain ⟨s0, u0, n0, B0, o0, hT0, -⟩ := hW
  obtain ⟨a1, a2, a3, a4, a5, a6, a7⟩ := hA
  obtain ⟨c1, c2, c3, c4, c5, c6, c7⟩ := hB
  refine lv_aload_n hx hbd (hr (q, .aload_n 1, 1) (by simp [rw3])) rfl (lv_at hls 1 rfl) ?_
  refine l_arg (k := k) (j := 1) C hH hlo hls rfl rfl (by omega) hL rfl (hr (q + 1, .aload_n 0, 1) (by simp [rw3])) (hr (q + 2, .iload 4, 2) (by simp [rw3])) (hr (q + 4, .iconst 1, 1) (by simp [rw3])) (hr (q + 5, .iadd, 1) (by simp [rw3])) (hr (q + 6, .iaload, 1) (by simp [rw3])) ?_
  refine l_arg (k := k) (j := 2) C hH hlo hls rfl rfl (by omega) hL rfl (hr (q + 7, .aload_n 0, 1) (by simp [rw3])) (hr (q + 8, .iload 4, 2) (by simp [rw3])) (hr (q + 10, .iconst 2, 1) (by simp [rw3])) (hr (q + 11, .iadd, 1) (by simp [rw3])) (hr (q + 12, .iaload, 1) (by simp [rw3])) ?_
  refine l_arg (k := k) (j := 3) C hH hlo hls rfl rfl (by omega) hL rfl (hr (q + 13, .aload_n 0, 1) (by simp [rw3])) (hr (q + 14, .iload 4, 2) (by simp [rw3])) (hr (q + 16, .iconst 3, 1) (by simp [rw3])) (hr (q + 17, .iadd, 1) (by simp [rw3])) (hr (q + 18, .iaload, 1) (by simp [rw3])) ?_
  refine lw_call C a1 a2 (wi := wA) a6 a7 (a := 0) (As := [.int (xs (6 * k + 1)), .int (xs (6 * k + 2)), .int (xs (6 * k + 3))]) (rest := []) (by rw [a3]; exact hT0.1.1) (by rw [a4]; rfl) (Nat.le_trans (Nat.le_of_ble_eq_true rfl) a5) r1 hH hlo (by omega) (by omega) hls.1 (by decide) (hr (q + 19, .invokevirtual iA, 3) (by simp [rw3])) (fun H1 locs1 h3 h4 => ?_)
  refine lv_aload_n hx hbd (hr (q + 22, .aload_n 2, 1) (by simp [rw3])) rfl (lv_at hls 2 rfl) ?_
  refine l_arg (k := k) (j := 1) C h3 h4 hls rfl rfl (by omega) hL rfl (hr (q + 23, .aload_n 0, 1) (by simp [rw3])) (hr (q + 24, .iload 4, 2) (by simp [rw3])) (hr (q + 26, .iconst 1, 1) (by simp [rw3])) (hr (q + 27, .iadd, 1) (by simp [rw3])) (hr (q + 28, .iaload, 1) (by simp [rw3])) ?_
  refine l_arg (k := k) (j := 2) C h3 h4 hls rfl rfl (by omega) hL rfl (hr (q + 29, .aload_n 0, 1) (by simp [rw3])) (hr (q + 30, .iload 4, 2) (by simp [rw3])) (hr (q + 32, .iconst 2, 1) (by simp [rw3])) (hr (q + 33, .iadd, 1) (by simp [rw3])) (hr (q + 34, .iaload, 1) (by simp [rw3])) ?_
  refine l_arg (k := k) (j := 3) C h3 h4 hls rfl rfl (by omega) hL rfl (hr (q + 35, .aload_n 0, 1) (by simp [rw3])) (hr (q + 36, .iload 4, 2) (by simp [rw3])) (hr (q + 38, .iconst 3, 1) (by simp [rw3])) (hr (q + 39, .iadd, 1) (by simp [rw3])) (hr (q + 40, .iaload, 1) (by simp [rw3])) ?_
  refine lw_call C c1 c2 (wi := wB) c6 c7 (a := 339) (As := [.int (xs (6 * k + 1)), .int (xs (6 * k + 2)), .int (xs (6 * k + 3))]) (rest := [.int z]) (by rw [c3]; exact t1) (by rw [c4]; rfl) (Nat.le_trans (Nat.le_of_ble_eq_true rfl) c5) r2 h3 h4 (by omega) (by omega) hls.1 (by show 1 + 0 ≤ 8; omega) (hr (q + 41, .invokevirtual iB, 3) (by simp [rw3])) (fun H2 locs2 h5 h6 => ?_)
  exact lv_icmp_eq (tgt := 1788) hx hbd (hr (q + 44, .if_icmp .eq off, 3) (by simp [rw3])) ho (fun _ => K H2 locs2 G2 I2 h5 w2 h6) (fun h => absurd rfl h)
def rw4 (q iA iB : Nat) (off : Int) : List (Nat × Instr × Nat) := [(q, .aload_n 1, 1), (q + 1, .aload_n 0, 1), (q + 2, .iload 4, 2), (q + 4, .iconst 1, 1), (q + 5, .iadd, 1), (q + 6, .iaload, 1), (q + 7, .aload_n 0, 1), (q + 8, .iload 4, 2), (q + 10, .iconst 2, 1), (q + 11, .iadd, 1), (q + 12, .iaload, 1), (q + 13, .aload_n 0, 1), (q + 14, .iload 4, 2), (q + 16, .iconst 3, 1), (q + 17, .iadd, 1), (q + 18, .iaload, 1), (q + 19, .aload_n 0, 1), (q + 20, .iload 4, 2), (q + 22, .iconst 4, 1), (q + 23, .iadd, 1), (q + 24, .iaload, 1), (q + 25, .invokevirtual iA, 3), (q + 28, .aload_n 2, 1), (q + 29, .aload_n 0, 1), (q + 30, .iload 4, 2), (q + 32, .iconst 1, 1), (q + 33, .iadd, 1), (q + 34, .iaload, 1), (q + 35, .aload_n 0, 1), (q + 36, .iload 4, 2), (q + 38, .iconst 2, 1), (q + 39, .iadd, 1), (q + 40, .iaload, 1), (q + 41, .aload_n 0, 1), (q + 42, .iload 4, 2), (q + 44, .iconst 3, 1), (q + 45, .iadd, 1), (q + 46, .iaload, 1), (q + 47, .aload_n 0, 1), (q + 48, .iload 4, 2), (q + 50, .iconst 4, 1), (q + 51, .iadd, 1), (q + 52, .iaload, 1), (q + 53, .invokevirtual iB, 3), (q + 56, .if_icmp .eq off, 3)]
theorem cs4 {x : Cx} {p : Program} {l : Launch} {e : Env} {s : State} {m : MethodId} {below : List Frame} {meth : Method} {c : Code} {b L : Nat} {xs : Nat → Int32} (C : LC x p s m meth c b L xs) {G : Gm} {I : Im} {H : Heap} {locs : List Loc} {ls : Array Slot} {k q iA iB wA wB : Nat} {off : Int} {mA mB : MD} (hk : k < 512) (hi : 6 * k + 6 ≤ L) (hL : L ≤ 3072) (hA : CA mA 11 4 iA wA) (hB : CA mB 13 4 iB wB) (hr : ∀ r ∈ rw4 q iA iB off, decode code r.1 = .ok r.2) (ho : ((q + 56 : Nat) : Int) + off = ((1788 : Nat) : Int))
    (hcall : Call 12 0 k G I mA mB [.int (xs (6 * k + 1)), .int (xs (6 * k + 2)), .int (xs (6 * k + 3)), .int (xs (6 * k + 4))]) (hH : HM x G I H) (hlo : ∀ q ∈ locs, xz x ≤ q.base) (hls : lv_has ls 7 (lwL x b k)) (hW : Wd G I 0 k)
    (K : ∀ H' locs' G' I', HM x G' I' H' → Wd G' I' 0 (k + 1) → (∀ q ∈ locs', xz x ≤ q.base) → LW p l e s m below meth c b H' locs' (gN G') (gS G') (F0 m 1788 ls [])) : LW p l e s m below meth c b H locs (gN G) (gS G) (F0 m q ls []) := by
  have C0 := C
  obtain ⟨⟨hx, hbd, hrr, hml, hown, hts, hX, hbl, hlocks, hgv⟩, hK, hz, -⟩ := C0
  obtain ⟨z, G1, I1, G2, I2, t1, r1, r2, w2⟩ := hcall
  obtain ⟨m1, m2⟩ := run_mono r1
  obtain ⟨m3, m4⟩ := run_mono r2
  have m1 : gN G ≤ gN G1 := m1
  have m2 : gS G ≤ gS G1 := m2
  have m3 : gN G1 ≤ gN G2 := m3
  have m4 : gS G1 ≤ gS G2 := m4
  have hW2 := w2
  obtain ⟨s2, u2, n2, B2, o2, hT2, hB2, ⟨-, -, b1, b2⟩, -⟩ := hW2
  obtain ⟨s0, u0, n0, B0, o0, hT0, -⟩ := hW
  obtain ⟨a1, a2, a3, a4, a5, a6, a7⟩ := hA
  obtain ⟨c1, c2, c3, c4, c5, c6, c7⟩ := hB
  refine lv_aload_n hx hbd (hr (q, .aload_n 1, 1) (by simp [rw4])) rfl (lv_at hls 1 rfl) ?_
  refine l_arg (k := k) (j := 1) C hH hlo hls rfl rfl (by omega) hL rfl (hr (q + 1, .aload_n 0, 1) (by simp [rw4])) (hr (q + 2, .iload 4, 2) (by simp [rw4])) (hr (q + 4, .iconst 1, 1) (by simp [rw4])) (hr (q + 5, .iadd, 1) (by simp [rw4])) (hr (q + 6, .iaload, 1) (by simp [rw4])) ?_
  refine l_arg (k := k) (j := 2) C hH hlo hls rfl rfl (by omega) hL rfl (hr (q + 7, .aload_n 0, 1) (by simp [rw4])) (hr (q + 8, .iload 4, 2) (by simp [rw4])) (hr (q + 10, .iconst 2, 1) (by simp [rw4])) (hr (q + 11, .iadd, 1) (by simp [rw4])) (hr (q + 12, .iaload, 1) (by simp [rw4])) ?_
  refine l_arg (k := k) (j := 3) C hH hlo hls rfl rfl (by omega) hL rfl (hr (q + 13, .aload_n 0, 1) (by simp [rw4])) (hr (q + 14, .iload 4, 2) (by simp [rw4])) (hr (q + 16, .iconst 3, 1) (by simp [rw4])) (hr (q + 17, .iadd, 1) (by simp [rw4])) (hr (q + 18, .iaload, 1) (by simp [rw4])) ?_
  refine l_arg (k := k) (j := 4) C hH hlo hls rfl rfl (by omega) hL rfl (hr (q + 19, .aload_n 0, 1) (by simp [rw4])) (hr (q + 20, .iload 4, 2) (by simp [rw4])) (hr (q + 22, .iconst 4, 1) (by simp [rw4])) (hr (q + 23, .iadd, 1) (by simp [rw4])) (hr (q + 24, .iaload, 1) (by simp [rw4])) ?_
  refine lw_call C a1 a2 (wi := wA) a6 a7 (a := 0) (As := [.int (xs (6 * k + 1)), .int (xs (6 * k + 2)), .int (xs (6 * k + 3)), .int (xs (6 * k + 4))]) (rest := []) (by rw [a3]; exact hT0.1.1) (by rw [a4]; rfl) (Nat.le_trans (Nat.le_of_ble_eq_true rfl) a5) r1 hH hlo (by omega) (by omega) hls.1 (by decide) (hr (q + 25, .invokevirtual iA, 3) (by simp [rw4])) (fun H1 locs1 h3 h4 => ?_)
  refine lv_aload_n hx hbd (hr (q + 28, .aload_n 2, 1) (by simp [rw4])) rfl (lv_at hls 2 rfl) ?_
  refine l_arg (k := k) (j := 1) C h3 h4 hls rfl rfl (by omega) hL rfl (hr (q + 29, .aload_n 0, 1) (by simp [rw4])) (hr (q + 30, .iload 4, 2) (by simp [rw4])) (hr (q + 32, .iconst 1, 1) (by simp [rw4])) (hr (q + 33, .iadd, 1) (by simp [rw4])) (hr (q + 34, .iaload, 1) (by simp [rw4])) ?_
  refine l_arg (k := k) (j := 2) C h3 h4 hls rfl rfl (by omega) hL rfl (hr (q + 35, .aload_n 0, 1) (by simp [rw4])) (hr (q + 36, .iload 4, 2) (by simp [rw4])) (hr (q + 38, .iconst 2, 1) (by simp [rw4])) (hr (q + 39, .iadd, 1) (by simp [rw4])) (hr (q + 40, .iaload, 1) (by simp [rw4])) ?_
  refine l_arg (k := k) (j := 3) C h3 h4 hls rfl rfl (by omega) hL rfl (hr (q + 41, .aload_n 0, 1) (by simp [rw4])) (hr (q + 42, .iload 4, 2) (by simp [rw4])) (hr (q + 44, .iconst 3, 1) (by simp [rw4])) (hr (q + 45, .iadd, 1) (by simp [rw4])) (hr (q + 46, .iaload, 1) (by simp [rw4])) ?_
  refine l_arg (k := k) (j := 4) C h3 h4 hls rfl rfl (by omega) hL rfl (hr (q + 47, .aload_n 0, 1) (by simp [rw4])) (hr (q + 48, .iload 4, 2) (by simp [rw4])) (hr (q + 50, .iconst 4, 1) (by simp [rw4])) (hr (q + 51, .iadd, 1) (by simp [rw4])) (hr (q + 52, .iaload, 1) (by simp [rw4])) ?_
  refine lw_call C c1 c2 (wi := wB) c6 c7 (a := 339) (As := [.int (xs (6 * k + 1)), .int (xs (6 * k + 2)), .int (xs (6 * k + 3)), .int (xs (6 * k + 4))]) (rest := [.int z]) (by rw [c3]; exact t1) (by rw [c4]; rfl) (Nat.le_trans (Nat.le_of_ble_eq_true rfl) c5) r2 h3 h4 (by omega) (by omega) hls.1 (by show 1 + 0 ≤ 8; omega) (hr (q + 53, .invokevirtual iB, 3) (by simp [rw4])) (fun H2 locs2 h5 h6 => ?_)
  exact lv_icmp_eq (tgt := 1788) hx hbd (hr (q + 56, .if_icmp .eq off, 3) (by simp [rw4])) ho (fun _ => K H2 locs2 G2 I2 h5 w2 h6) (fun h => absurd rfl h)
def rw5 (q iA iB : Nat) (off : Int) : List (Nat × Instr × Nat) := [(q, .aload_n 1, 1), (q + 1, .aload_n 0, 1), (q + 2, .iload 4, 2), (q + 4, .iconst 1, 1), (q + 5, .iadd, 1), (q + 6, .iaload, 1), (q + 7, .aload_n 0, 1), (q + 8, .iload 4, 2), (q + 10, .iconst 2, 1), (q + 11, .iadd, 1), (q + 12, .iaload, 1), (q + 13, .aload_n 0, 1), (q + 14, .iload 4, 2), (q + 16, .iconst 3, 1), (q + 17, .iadd, 1), (q + 18, .iaload, 1), (q + 19, .aload_n 0, 1), (q + 20, .iload 4, 2), (q + 22, .iconst 4, 1), (q + 23, .iadd, 1), (q + 24, .iaload, 1), (q + 25, .aload_n 0, 1), (q + 26, .iload 4, 2), (q + 28, .iconst 5, 1), (q + 29, .iadd, 1), (q + 30, .iaload, 1), (q + 31, .invokevirtual iA, 3), (q + 34, .aload_n 2, 1), (q + 35, .aload_n 0, 1), (q + 36, .iload 4, 2), (q + 38, .iconst 1, 1), (q + 39, .iadd, 1), (q + 40, .iaload, 1), (q + 41, .aload_n 0, 1), (q + 42, .iload 4, 2), (q + 44, .iconst 2, 1), (q + 45, .iadd, 1), (q + 46, .iaload, 1), (q + 47, .aload_n 0, 1), (q + 48, .iload 4, 2), (q + 50, .iconst 3, 1), (q + 51, .iadd, 1), (q + 52, .iaload, 1), (q + 53, .aload_n 0, 1), (q + 54, .iload 4, 2), (q + 56, .iconst 4, 1), (q + 57, .iadd, 1), (q + 58, .iaload, 1), (q + 59, .aload_n 0, 1), (q + 60, .iload 4, 2), (q + 62, .iconst 5, 1), (q + 63, .iadd, 1), (q + 64, .iaload, 1), (q + 65, .invokevirtual iB, 3), (q + 68, .if_icmp .eq off, 3)]
theorem cs5 {x : Cx} {p : Program} {l : Launch} {e : Env} {s : State} {m : MethodId} {below : List Frame} {meth : Method} {c : Code} {b L : Nat} {xs : Nat → Int32} (C : LC x p s m meth c b L xs) {G : Gm} {I : Im} {H : Heap} {locs : List Loc} {ls : Array Slot} {k q iA iB wA wB : Nat} {off : Int} {mA mB : MD} (hk : k < 512) (hi : 6 * k + 6 ≤ L) (hL : L ≤ 3072) (hA : CA mA 11 5 iA wA) (hB : CA mB 13 5 iB wB) (hr : ∀ r ∈ rw5 q iA iB off, decode code r.1 = .ok r.2) (ho : ((q + 68 : Nat) : Int) + off = ((1788 : Nat) : Int))
    (hcall : Call 12 0 k G I mA mB [.int (xs (6 * k + 1)), .int (xs (6 * k + 2)), .int (xs (6 * k + 3)), .int (xs (6 * k + 4)), .int (xs (6 * k + 5))]) (hH : HM x G I H) (hlo : ∀ q ∈ locs, xz x ≤ q.base) (hls : lv_has ls 7 (lwL x b k)) (hW : Wd G I 0 k)
    (K : ∀ H' locs' G' I', HM x G' I' H' → Wd G' I' 0 (k + 1) → (∀ q ∈ locs', xz x ≤ q.base) → LW p l e s m below meth c b H' locs' (gN G') (gS G') (F0 m 1788 ls [])) : LW p l e s m below meth c b H locs (gN G) (gS G) (F0 m q ls []) := by
  have C0 := C
  obtain ⟨⟨hx, hbd, hrr, hml, hown, hts, hX, hbl, hlocks, hgv⟩, hK, hz, -⟩ := C0
  obtain ⟨z, G1, I1, G2, I2, t1, r1, r2, w2⟩ := hcall
  obtain ⟨m1, m2⟩ := run_mono r1
  obtain ⟨m3, m4⟩ := run_mono r2
  have m1 : gN G ≤ gN G1 := m1
  have m2 : gS G ≤ gS G1 := m2
  have m3 : gN G1 ≤ gN G2 := m3
  have m4 : gS G1 ≤ gS G2 := m4
  have hW2 := w2
  obtain ⟨s2, u2, n2, B2, o2, hT2, hB2, ⟨-, -, b1, b2⟩, -⟩ := hW2
  obtain ⟨s0, u0, n0, B0, o0, hT0, -⟩ := hW
  obtain ⟨a1, a2, a3, a4, a5, a6, a7⟩ := hA
  obtain ⟨c1, c2, c3, c4, c5, c6, c7⟩ := hB
  refine lv_aload_n hx hbd (hr (q, .aload_n 1, 1) (by simp [rw5])) rfl (lv_at hls 1 rfl) ?_
  refine l_arg (k := k) (j := 1) C hH hlo hls rfl rfl (by omega) hL rfl (hr (q + 1, .aload_n 0, 1) (by simp [rw5])) (hr (q + 2, .iload 4, 2) (by simp [rw5])) (hr (q + 4, .iconst 1, 1) (by simp [rw5])) (hr (q + 5, .iadd, 1) (by simp [rw5])) (hr (q + 6, .iaload, 1) (by simp [rw5])) ?_
  refine l_arg (k := k) (j := 2) C hH hlo hls rfl rfl (by omega) hL rfl (hr (q + 7, .aload_n 0, 1) (by simp [rw5])) (hr (q + 8, .iload 4, 2) (by simp [rw5])) (hr (q + 10, .iconst 2, 1) (by simp [rw5])) (hr (q + 11, .iadd, 1) (by simp [rw5])) (hr (q + 12, .iaload, 1) (by simp [rw5])) ?_
  refine l_arg (k := k) (j := 3) C hH hlo hls rfl rfl (by omega) hL rfl (hr (q + 13, .aload_n 0, 1) (by simp [rw5])) (hr (q + 14, .iload 4, 2) (by simp [rw5])) (hr (q + 16, .iconst 3, 1) (by simp [rw5])) (hr (q + 17, .iadd, 1) (by simp [rw5])) (hr (q + 18, .iaload, 1) (by simp [rw5])) ?_
  refine l_arg (k := k) (j := 4) C hH hlo hls rfl rfl (by omega) hL rfl (hr (q + 19, .aload_n 0, 1) (by simp [rw5])) (hr (q + 20, .iload 4, 2) (by simp [rw5])) (hr (q + 22, .iconst 4, 1) (by simp [rw5])) (hr (q + 23, .iadd, 1) (by simp [rw5])) (hr (q + 24, .iaload, 1) (by simp [rw5])) ?_
  refine l_arg (k := k) (j := 5) C hH hlo hls rfl rfl (by omega) hL rfl (hr (q + 25, .aload_n 0, 1) (by simp [rw5])) (hr (q + 26, .iload 4, 2) (by simp [rw5])) (hr (q + 28, .iconst 5, 1) (by simp [rw5])) (hr (q + 29, .iadd, 1) (by simp [rw5])) (hr (q + 30, .iaload, 1) (by simp [rw5])) ?_
  refine lw_call C a1 a2 (wi := wA) a6 a7 (a := 0) (As := [.int (xs (6 * k + 1)), .int (xs (6 * k + 2)), .int (xs (6 * k + 3)), .int (xs (6 * k + 4)), .int (xs (6 * k + 5))]) (rest := []) (by rw [a3]; exact hT0.1.1) (by rw [a4]; rfl) (Nat.le_trans (Nat.le_of_ble_eq_true rfl) a5) r1 hH hlo (by omega) (by omega) hls.1 (by decide) (hr (q + 31, .invokevirtual iA, 3) (by simp [rw5])) (fun H1 locs1 h3 h4 => ?_)
  refine lv_aload_n hx hbd (hr (q + 34, .aload_n 2, 1) (by simp [rw5])) rfl (lv_at hls 2 rfl) ?_
  refine l_arg (k := k) (j := 1) C h3 h4 hls rfl rfl (by omega) hL rfl (hr (q + 35, .aload_n 0, 1) (by simp [rw5])) (hr (q + 36, .iload 4, 2) (by simp [rw5])) (hr (q + 38, .iconst 1, 1) (by simp [rw5])) (hr (q + 39, .iadd, 1) (by simp [rw5])) (hr (q + 40, .iaload, 1) (by simp [rw5])) ?_
  refine l_arg (k := k) (j := 2) C h3 h4 hls rfl rfl (by omega) hL rfl (hr (q + 41, .aload_n 0, 1) (by simp [rw5])) (hr (q + 42, .iload 4, 2) (by simp [rw5])) (hr (q + 44, .iconst 2, 1) (by simp [rw5])) (hr (q + 45, .iadd, 1) (by simp [rw5])) (hr (q + 46, .iaload, 1) (by simp [rw5])) ?_
  refine l_arg (k := k) (j := 3) C h3 h4 hls rfl rfl (by omega) hL rfl (hr (q + 47, .aload_n 0, 1) (by simp [rw5])) (hr (q + 48, .iload 4, 2) (by simp [rw5])) (hr (q + 50, .iconst 3, 1) (by simp [rw5])) (hr (q + 51, .iadd, 1) (by simp [rw5])) (hr (q + 52, .iaload, 1) (by simp [rw5])) ?_
  refine l_arg (k := k) (j := 4) C h3 h4 hls rfl rfl (by omega) hL rfl (hr (q + 53, .aload_n 0, 1) (by simp [rw5])) (hr (q + 54, .iload 4, 2) (by simp [rw5])) (hr (q + 56, .iconst 4, 1) (by simp [rw5])) (hr (q + 57, .iadd, 1) (by simp [rw5])) (hr (q + 58, .iaload, 1) (by simp [rw5])) ?_
  refine l_arg (k := k) (j := 5) C h3 h4 hls rfl rfl (by omega) hL rfl (hr (q + 59, .aload_n 0, 1) (by simp [rw5])) (hr (q + 60, .iload 4, 2) (by simp [rw5])) (hr (q + 62, .iconst 5, 1) (by simp [rw5])) (hr (q + 63, .iadd, 1) (by simp [rw5])) (hr (q + 64, .iaload, 1) (by simp [rw5])) ?_
  refine lw_call C c1 c2 (wi := wB) c6 c7 (a := 339) (As := [.int (xs (6 * k + 1)), .int (xs (6 * k + 2)), .int (xs (6 * k + 3)), .int (xs (6 * k + 4)), .int (xs (6 * k + 5))]) (rest := [.int z]) (by rw [c3]; exact t1) (by rw [c4]; rfl) (Nat.le_trans (Nat.le_of_ble_eq_true rfl) c5) r2 h3 h4 (by omega) (by omega) hls.1 (by show 1 + 0 ≤ 8; omega) (hr (q + 65, .invokevirtual iB, 3) (by simp [rw5])) (fun H2 locs2 h5 h6 => ?_)
  exact lv_icmp_eq (tgt := 1788) hx hbd (hr (q + 68, .if_icmp .eq off, 3) (by simp [rw5])) ho (fun _ => K H2 locs2 G2 I2 h5 w2 h6) (fun h => absurd rfl h)
