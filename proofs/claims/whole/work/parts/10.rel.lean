/-! how our memory lies in the machine's heap. x: the base, the heap below it, the texts' places, the classes' numbers, their slots, the array classes' numbers -/
abbrev Cx : Type := Nat × Heap × (Nat → Nat) × (Nat → ClassId) × (Nat → Nat → Nat) × (Nat → ClassId)
def xz (x : Cx) : Nat := x.1
def xH (x : Cx) : Heap := x.2.1
def xk (x : Cx) : Nat → Nat := x.2.2.1
def xC (x : Cx) : Nat → ClassId := x.2.2.2.1
def xI (x : Cx) : Nat → Nat → Nat := x.2.2.2.2.1
def xA (x : Cx) : Nat → ClassId := x.2.2.2.2.2
def adr (x : Cx) (v : Nat) : Nat := if v < 1000000 then xz x + v else xk x (v - 1000000)
def cv (x : Cx) (v : Value) : Value := match v with
  | .ref a => .ref (adr x a)
  | w => w
theorem cv_cat (x : Cx) (v : Value) : (cv x v).category = v.category := by cases v <;> rfl
def aTy (k : Nat) : FieldType := match k with
  | 0 => .int
  | 1 => .byte
  | 2 => .boolean
  | 3 => .long
  | 4 => .object RX6
  | _ => .array .int
def akd (k : Nat) : Nat := if k ≤ 2 then 0 else if k = 3 then 1 else 2
/-- the texts, below the base: their objects and bytes; the JDK's two statics that they ask -/
def StW (x : Cx) (U : State) : Prop :=
  (∀ i, i < 49 → ∃ v, va_O "java/lang/String" (xk x i) (fun q => xz x ≤ q) U (xH x) ∧ va_OF "java/lang/String" "coder" "B" (.int 0) (xk x i) (fun q => xz x ≤ q) U (xH x) ∧ va_OF "java/lang/String" "value" "[B" (.ref v) (xk x i) (fun q => xz x ≤ q) U (xH x) ∧ va_T .byte v (sB.getD i []).length (fun j => .int ((sB.getD i []).getD j 0)) (fun q => xz x ≤ q) U (xH x)) ∧
  va_Z "java/lang/String" "COMPACT_STRINGS" "Z" (.int 1) (fun q => xz x ≤ q) U (xH x) ∧ va_Zq "jdk/internal/util/Preconditions" "SIOOBE_FORMATTER" "Ljava/util/function/BiFunction;" (fun q => xz x ≤ q) U (xH x)
theorem StW.moved {x : Cx} {u U : State} (hvm : u.vm.Alike U.vm) (h : StW x u) : StW x U :=
  ⟨fun i hi => by
    obtain ⟨v, h1, h2, h3, h4⟩ := h.1 i hi
    exact ⟨v, h1.moved hvm, h2.moved hvm, h3.moved hvm, h4.moved hvm⟩, h.2.1.moved hvm, h.2.2.moved hvm⟩
/-- what stays of a state's tables -/
def KK (x : Cx) (U : State) : Prop :=
  (∀ ci, ci < 14 → u_Kn U (RXs ci) (TXs ci) (nFd ci) (xC x ci) (xI x ci)) ∧
  (∀ k, k ≤ 5 → ArrOfT U (xA x k) (aTy k) ∧ va_RA U (xA x k) (aTy k)) ∧
  (∀ own, own < 14 → ∀ q ∈ fRs own, q.2.2.2.1 = true → va_Nw (fWd own q.1 q.2) U) ∧
  (∀ own, own < 14 → ∀ q ∈ cRs own, q.2.1 = true → va_Nw (cWd own q.1 q.2) U) ∧
  ((∀ own, own < 14 → ∀ q ∈ sRs own, vk_R (RXs own) q.1 (sT q.2.1) (xk x q.2.1) U) ∧ StW x U) ∧
  va_AO RX6 U ∧ (Cond.arrayOver (.array .int)).before #[] U = true
def cellAt (x : Cx) (G : Gm) (I : Im) (H : Heap) (v : Nat) : Prop :=
  (∀ k, k ≤ 5 → (gT G v).1 = k → H[xz x + v]? = some (arrV (xA x k) (gT G v).2 (fun j => cv x (cval (akd k) G I v j)))) ∧
  (∀ ci, ci < 14 → gT G v = (10 + ci, nFd ci) → t_OB (xz x + v) (xC x ci) (nFd ci) (xI x ci) H (fun j => cv x (cval (tyKd (tFd ci j)) G I v j)))
def HM (x : Cx) (G : Gm) (I : Im) (H : Heap) : Prop :=
  H.size = xz x + gN G ∧ gN G ≤ 1000000 ∧ (∀ v, gN G ≤ v → (gT G v).1 = 99) ∧ (∀ v, v < gN G → cellAt x G I H v) ∧ ∀ q, q < xz x → H[q]? = (xH x)[q]?
theorem HM.lt {x : Cx} {G : Gm} {I : Im} {H : Heap} (h : HM x G I H) {v : Nat} (hv : (gT G v).1 ≠ 99) : v < gN G := by
  rcases Nat.lt_or_ge v (gN G) with q | q
  · exact q
  · exact absurd (h.2.2.1 v q) hv
theorem HM.ad {x : Cx} {G : Gm} {I : Im} {H : Heap} (h : HM x G I H) {v : Nat} (hv : (gT G v).1 ≠ 99) : adr x v = xz x + v := by
  have h1 := h.lt hv
  have h2 := h.2.1
  unfold adr
  rw [if_pos (by omega)]
theorem HM.arr {x : Cx} {G : Gm} {I : Im} {H : Heap} (h : HM x G I H) {v k : Nat} (hk : k ≤ 5) (hv : (gT G v).1 = k) : H[adr x v]? = some (arrV (xA x k) (gT G v).2 (fun j => cv x (cval (akd k) G I v j))) := by
  have h9 : (gT G v).1 ≠ 99 := by omega
  rw [h.ad h9]
  exact (h.2.2.2.1 v (h.lt h9)).1 k hk hv
theorem HM.obj {x : Cx} {G : Gm} {I : Im} {H : Heap} (h : HM x G I H) {v ci : Nat} (hc : ci < 14) (hv : gT G v = (10 + ci, nFd ci)) : t_OB (adr x v) (xC x ci) (nFd ci) (xI x ci) H (fun j => cv x (cval (tyKd (tFd ci j)) G I v j)) := by
  have h9 : (gT G v).1 ≠ 99 := by rw [hv]; show 10 + ci ≠ 99; omega
  rw [h.ad h9]
  exact (h.2.2.2.1 v (h.lt h9)).2 ci hc hv
/-- a cell that is written: all others as they were -/
theorem HM.put {x : Cx} {G G' : Gm} {I I' : Im} {H H' : Heap} (h : HM x G I H) {v : Nat} (hv : v < gN G) (hG : gN G' = gN G ∧ gT G' = gT G) (hoth : ∀ b, b ≠ v → gR G' b = gR G b ∧ gJ G' b = gJ G b ∧ I' b = I b)
    (hs : H'.size = H.size) (hq : ∀ q, q ≠ xz x + v → H'[q]? = H[q]?) (hc : cellAt x G' I' H' v) : HM x G' I' H' := by
  obtain ⟨h1, h2, h3, h4, h5⟩ := h
  refine ⟨by rw [hs, hG.1]; exact h1, by rw [hG.1]; exact h2, fun b hb => by rw [hG.2]; exact h3 b (by rw [← hG.1]; exact hb), fun b hb => ?_, fun q hq2 => ?_⟩
  · by_cases e : b = v
    · rw [e]; exact hc
    · obtain ⟨c1, c2⟩ := h4 b (by rw [← hG.1]; exact hb)
      obtain ⟨o1, o2, o3⟩ := hoth b e
      have hcv : ∀ kd j, cval kd G' I' b j = cval kd G I b j := by
        intro kd j
        unfold cval
        rw [o1, o2, o3]
      have hqb : H'[xz x + b]? = H[xz x + b]? := hq _ (by omega)
      refine ⟨fun k hk ht => ?_, fun ci hci ht => ?_⟩
      · rw [hG.2] at ht
        rw [hqb, c1 k hk ht, hG.2]
        congr 2
        funext j
        rw [hcv]
      · rw [hG.2] at ht
        exact ((c2 ci hci ht).kept hqb).to (fun j _ => by rw [hcv])
  · rw [hq q (by omega)]; exact h5 q hq2
/-- cells that are new -/
theorem HM.grow {x : Cx} {G G' : Gm} {I I' : Im} {H H' : Heap} (h : HM x G I H) (hn : gN G ≤ gN G') (hb : gN G' ≤ 1000000) (hoth : ∀ b, b < gN G → gT G' b = gT G b ∧ gR G' b = gR G b ∧ gJ G' b = gJ G b ∧ I' b = I b) (h99 : ∀ v, gN G' ≤ v → gT G' v = gT G v)
    (hs : H'.size = xz x + gN G') (hq : ∀ q, q < H.size → H'[q]? = H[q]?) (hc : ∀ v, gN G ≤ v → v < gN G' → cellAt x G' I' H' v) : HM x G' I' H' := by
  obtain ⟨h1, h2, h3, h4, h5⟩ := h
  refine ⟨hs, hb, fun b hb2 => by rw [h99 b hb2]; exact h3 b (by omega), fun b hb2 => ?_, fun q hq2 => ?_⟩
  · by_cases e : b < gN G
    · obtain ⟨c1, c2⟩ := h4 b e
      obtain ⟨o0, o1, o2, o3⟩ := hoth b e
      have hcv : ∀ kd j, cval kd G' I' b j = cval kd G I b j := by
        intro kd j
        unfold cval
        rw [o1, o2, o3]
      have hqb : H'[xz x + b]? = H[xz x + b]? := hq _ (by omega)
      refine ⟨fun k hk ht => ?_, fun ci hci ht => ?_⟩
      · rw [o0] at ht
        rw [hqb, c1 k hk ht, o0]
        congr 2
        funext j
        rw [hcv]
      · rw [o0] at ht
        exact ((c2 ci hci ht).kept hqb).to (fun j _ => by rw [hcv])
    · exact hc b (by omega) hb2
  · rw [hq q (by omega)]; exact h5 q hq2
/-- the locals -/
def LsR (x : Cx) (ls : List Slot) (arr : Array Slot) (n : Nat) : Prop := ls.length = n ∧ arr.size = n ∧ lv_wf arr ∧ ∀ (i : Nat) (v : Value), ls[i]? = some (.val v) → arr[i]? = some (.val (cv x v))
def lau (x : Cx) (i : Nat) (s : Option Slot) : Option (Nat × Value) := match s with
  | some (Slot.val v) => some (i, cv x v)
  | _ => none
def la (x : Cx) (ls : List Slot) : List (Nat × Value) := (List.range ls.length).filterMap (fun i => lau x i ls[i]?)
theorem la_mem {x : Cx} {ls : List Slot} {i : Nat} {v : Value} (h : ls[i]? = some (.val v)) : (i, cv x v) ∈ la x ls := by
  have hi : i < ls.length := (List.getElem?_eq_some_iff.mp h).1
  exact List.mem_filterMap.mpr ⟨i, List.mem_range.mpr hi, by rw [h]; rfl⟩
theorem la_of {x : Cx} {ls : List Slot} {q : Nat × Value} (h : q ∈ la x ls) : ∃ v, ls[q.1]? = some (.val v) ∧ q.2 = cv x v := by
  obtain ⟨i, -, hi⟩ := List.mem_filterMap.mp h
  cases hx : ls[i]? with
  | none => rw [hx] at hi; cases hi
  | some s =>
    rw [hx] at hi
    cases s with
    | val v => cases hi; exact ⟨v, hx, rfl⟩
    | unset => cases hi
    | second => cases hi
theorem LsR.has {x : Cx} {ls : List Slot} {arr : Array Slot} {n : Nat} (h : LsR x ls arr n) : lv_has arr n (la x ls) := by
  refine ⟨h.2.1, h.2.2.1, fun q hq => ?_⟩
  obtain ⟨v, h1, h2⟩ := la_of hq
  rw [h2]
  exact h.2.2.2 _ _ h1
theorem LsR.has2 {x : Cx} {ls : List Slot} {arr : Array Slot} {n i : Nat} {v : Value} (h : LsR x ls arr n) (hi : ls[i]? = some (.val v)) : lv_has arr n ((i, cv x v) :: la x ls) := by
  obtain ⟨h1, h2, h3⟩ := h.has
  refine ⟨h1, h2, fun q hq => ?_⟩
  rcases List.mem_cons.mp hq with rfl | hq
  · exact h.2.2.2 _ _ hi
  · exact h3 q hq
theorem LsR.st {x : Cx} {ls ls' : List Slot} {arr arr' : Array Slot} {n i : Nat} {v : Value} {L : List (Nat × Value)} (h : LsR x ls arr n) (hs : stL ls i v = some ls') (hL : ∀ q ∈ la x ls, q ∈ L)
    (h' : lv_has arr' n ((i, cv x v) :: L.filter (fun q => !(q.1 == i) && !(q.1 + 1 == i && q.2.category == 2)))) : LsR x ls' arr' n := by
  unfold stL at hs
  by_cases hc : i < ls.length ∧ (i = 0 ∨ isLong ls[i - 1]? = false)
  · rw [if_pos hc] at hs
    cases hs
    refine ⟨by rw [List.length_set]; exact h.1, h'.1, h'.2.1, fun j w hj => ?_⟩
    by_cases e : j = i
    · subst e
      rw [List.getElem?_set_self hc.1] at hj
      cases hj
      exact h'.2.2 (j, cv x v) List.mem_cons_self
    · rw [List.getElem?_set_ne (Ne.symm e)] at hj
      refine h'.2.2 (j, cv x w) (List.mem_cons_of_mem _ (List.mem_filter.mpr ⟨hL _ (la_mem hj), ?_⟩))
      simp only [Bool.and_eq_true, Bool.not_eq_true', beq_eq_false_iff_ne, ne_eq, Bool.and_eq_false_iff]
      refine ⟨e, ?_⟩
      by_cases e2 : j + 1 = i
      · right
        rcases hc.2 with z | z
        · omega
        · rw [show i - 1 = j by omega, hj] at z
          rw [cv_cat]
          simpa [isLong] using z
      · exact Or.inl e2
  · rw [if_neg hc] at hs
    cases hs
theorem LsR.st2 {x : Cx} {ls ls' : List Slot} {arr arr' : Array Slot} {n i : Nat} {v : Value} {L : List (Nat × Value)} (h : LsR x ls arr n) (hs : stL2 ls i v = some ls') (hL : ∀ q ∈ la x ls, q ∈ L)
    (h' : lv_has arr' n ((i, cv x v) :: L.filter (fun q => !(q.1 == i) && (!(q.1 == i + 1) && !(q.1 + 1 == i && q.2.category == 2))))) : LsR x ls' arr' n := by
  unfold stL2 at hs
  by_cases hc : i + 1 < ls.length ∧ (i = 0 ∨ isLong ls[i - 1]? = false)
  · rw [if_pos hc] at hs
    cases hs
    refine ⟨by rw [List.length_set, List.length_set]; exact h.1, h'.1, h'.2.1, fun j w hj => ?_⟩
    by_cases e3 : j = i + 1
    · subst e3
      rw [List.getElem?_set_self (by rw [List.length_set]; exact hc.1)] at hj
      cases hj
    rw [List.getElem?_set_ne (Ne.symm e3)] at hj
    by_cases e : j = i
    · subst e
      rw [List.getElem?_set_self (by omega)] at hj
      cases hj
      exact h'.2.2 (j, cv x v) List.mem_cons_self
    · rw [List.getElem?_set_ne (Ne.symm e)] at hj
      refine h'.2.2 (j, cv x w) (List.mem_cons_of_mem _ (List.mem_filter.mpr ⟨hL _ (la_mem hj), ?_⟩))
      simp only [Bool.and_eq_true, Bool.not_eq_true', beq_eq_false_iff_ne, ne_eq, Bool.and_eq_false_iff]
      refine ⟨e, e3, ?_⟩
      by_cases e2 : j + 1 = i
      · right
        rcases hc.2 with z | z
        · omega
        · rw [show i - 1 = j by omega, hj] at z
          rw [cv_cat]
          simpa [isLong] using z
      · exact Or.inl e2
  · rw [if_neg hc] at hs
    cases hs
