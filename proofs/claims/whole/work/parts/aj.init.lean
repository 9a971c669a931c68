/-! the objects that the law makes -/
def G0 : Gm := ((0, 0), fun _ => (99, 0), fun _ _ => none, fun _ _ => 0)
def I0 : Im := fun _ _ => 0
def dcSc (G : Gm) (a : Nat) : Decidable (Sc G a) := by  unfold Sc; infer_instance
def dcTo (G : Gm) (a : Nat) : Decidable (To G a) := by  unfold To; infer_instance
def dcBa (G : Gm) (a : Nat) : Decidable (Ba G a) := by  unfold Ba; infer_instance
def dcSh (G : Gm) (a : Nat) : Decidable (Sh G a) := by have := dcTo; have := dcBa; unfold Sh; infer_instance
def dcPl (G : Gm) (a : Nat) : Decidable (Pl G a) := by have := dcSc; unfold Pl; infer_instance
def dcHy (G : Gm) (a : Nat) : Decidable (Hy G a) := by have := dcSc; unfold Hy; infer_instance
def dcWk (G : Gm) (a : Nat) : Decidable (Wk G a) := by have := dcSc; unfold Wk; infer_instance
def dcCh (G : Gm) (a : Nat) : Decidable (Ch G a) := by  unfold Ch; infer_instance
def dcNxL (G : Gm) (a : Nat) : Decidable (NxL G a) := by have := dcSc; unfold NxL; infer_instance
def dcFiL (G : Gm) (a : Nat) : Decidable (FiL G a) := by have := dcSc; unfold FiL; infer_instance
def dcTpL (G : Gm) (a u : Nat) : Decidable (TpL G a u) := by unfold TpL; infer_instance
def dcTp (G : Gm) (a s u : Nat) : Decidable (Tp G a s u) := by have := dcSc; have := dcSh; have := dcPl; have := dcHy; have := dcWk; have := dcCh; have := dcNxL; have := dcFiL; have := dcTpL; unfold Tp; infer_instance
def dcMo (G : Gm) (m : Nat) : Decidable (MoB G m) := by unfold MoB; infer_instance
def iniP (G : Gm) (I : Im) (G' : Gm) (I' : Im) : Prop :=
  (gN G = 339 ∧ gN G' = 351 ∧ gS G' ≤ 19900) ∧ (Tp (gNew G' (3, 1)) 0 89 3 ∧ MoB (gNew G' (3, 1)) 339) ∧ (I' 1 0 = 0 ∧ I' 339 6 = 0 ∧ I' 339 1 = I' 0 11 ∧ I' 339 13 = I' 0 9 ∧ I' 339 2 = if I' 0 11 = nI 4 then I' 0 10 else -1) ∧
  ((∀ j : Nat, j < 6 → I' 89 j = nI 0) ∧ (∀ j : Nat, j < 3 → I' 90 j = nI 0) ∧ I' 97 0 = nI 0 ∧ I' 104 0 = nI 0 ∧ I' 179 0 = nI 0 ∧ I' 179 1 = nI 0 ∧ I' 179 2 = nI 0) ∧ gR G' 339 3 = none ∧ I' 339 19 = nI 0 ∧ I' 339 20 = nI 0
def dcI (G : Gm) (I : Im) (G' : Gm) (I' : Im) : Decidable (iniP G I G' I') := by have := dcTp; have := dcMo; unfold iniP; infer_instance
def inA1 : Option Rs := exec 20000 12 mX11_init 0 (entL mX11_init [.ref 0]) [] (gNew G0 (21, 12)) (iNew I0 0)
def inA2 (G : Gm) (I : Im) : Option Rs := exec 20000 12 mX13_init 0 (entL mX13_init [.ref 339]) [] (gNew G (23, 32)) (iNew I (gN G))
def iniB : Bool := match inA1 with
  | some (none, G, I) => (match inA2 G I with
    | some (none, G', I') => @decide (iniP G I G' I') (dcI G I G' I')
    | _ => false)
  | _ => false
theorem ini_b : iniB = true := by decide +kernel
theorem ini_ok : ∃ G I G' I', run 12 mX11_init [.ref 0] (gNew G0 (21, 12)) (iNew I0 0) = some (none, G, I) ∧ run 12 mX13_init [.ref 339] (gNew G (23, 32)) (iNew I (gN G)) = some (none, G', I') ∧ iniP G I G' I' := by
  have h := ini_b
  unfold iniB at h
  split at h
  · rename_i G I h1
    split at h
    · rename_i G' I' h2
      exact ⟨G, I, G', I', ex_of h1, ex_of h2, @of_decide_eq_true _ (dcI G I G' I') h⟩
    · cases h
  · cases h
