/-! layouts in another memory -/
/-- two memories have the same cells from a to b -/
def Gq (G G' : Gm) (a b : Nat) : Prop := ∀ c, a ≤ c → c ≤ b → gT G' c = gT G c ∧ gR G' c = gR G c
theorem Gq.m {G G' : Gm} {a b a' b' : Nat} (h : Gq G G' a b) (h1 : a ≤ a') (h2 : b' ≤ b) : Gq G G' a' b' := fun c p q => h c (by omega) (by omega)
theorem Sc.g {G G' : Gm} {a : Nat} (h : Sc G a) (e : Gq G G' a (a + 3)) : Sc G' a := by
  unfold Sc at h ⊢
  rw [(e a (by omega) (by omega)).1, (e a (by omega) (by omega)).2, (e (a + 1) (by omega) (by omega)).1, (e (a + 2) (by omega) (by omega)).1, (e (a + 3) (by omega) (by omega)).1]
  exact h
theorem To.g {G G' : Gm} {a : Nat} (h : To G a) (e : Gq G G' a (a + 6)) : To G' a := by
  unfold To at h ⊢
  rw [(e a (by omega) (by omega)).2, (e a (by omega) (by omega)).1, (e (a + 1) (by omega) (by omega)).1, (e (a + 2) (by omega) (by omega)).1, (e (a + 3) (by omega) (by omega)).1, (e (a + 4) (by omega) (by omega)).1, (e (a + 5) (by omega) (by omega)).1, (e (a + 6) (by omega) (by omega)).1]
  exact h
theorem Ba.g {G G' : Gm} {a : Nat} (h : Ba G a) (e : Gq G G' a (a + 6)) : Ba G' a := by
  unfold Ba at h ⊢
  rw [(e a (by omega) (by omega)).2, (e a (by omega) (by omega)).1, (e (a + 1) (by omega) (by omega)).1, (e (a + 2) (by omega) (by omega)).1, (e (a + 3) (by omega) (by omega)).1, (e (a + 4) (by omega) (by omega)).1, (e (a + 5) (by omega) (by omega)).1, (e (a + 6) (by omega) (by omega)).1]
  exact h
theorem Sh.g {G G' : Gm} {a : Nat} (h : Sh G a) (e : Gq G G' a (a + 81)) : Sh G' a := by
  obtain ⟨h1, h2, h3, h4, h5, h6, h7, h8, h9, h10, h11⟩ := h
  have ea := e a (by omega) (by omega)
  exact ⟨by rw [ea.1]; exact h1, by rw [ea.2]; exact h2, by rw [ea.2]; exact h3, by rw [ea.2]; exact h4, by rw [ea.2]; exact h5, by rw [ea.2]; exact h6, h7.g (e.m (by omega) (by omega)), h8.g (e.m (by omega) (by omega)), by rw [(e _ (by omega) (by omega)).1]; exact h9, fun k hk => ⟨by rw [(e _ (by omega) (by omega)).2]; exact (h10 k hk).1, by rw [(e _ (by omega) (by omega)).1]; exact (h10 k hk).2⟩, by rw [(e _ (by omega) (by omega)).1]; exact h11⟩
theorem Pl.g {G G' : Gm} {a : Nat} (h : Pl G a) (e : Gq G G' a (a + 81)) : Pl G' a := by
  obtain ⟨h1, h2, h3, h4, h5, h6, h7, h8, h9, h10, h11, h12⟩ := h
  have ea := e (a + 15) (by omega) (by omega)
  exact ⟨by rw [ea.1]; exact h1, by rw [ea.2]; exact h2, by rw [ea.2]; exact h3, by rw [ea.2]; exact h4, by rw [ea.2]; exact h5, by rw [ea.2]; exact h6, by rw [(e _ (by omega) (by omega)).1]; exact h7, by rw [(e _ (by omega) (by omega)).1]; exact h8, by rw [(e _ (by omega) (by omega)).1]; exact h9, by rw [(e _ (by omega) (by omega)).1]; exact h10, by rw [(e _ (by omega) (by omega)).1]; exact h11, fun k hk => ⟨by rw [(e _ (by omega) (by omega)).2]; exact (h12 k hk).1, (h12 k hk).2.g (e.m (by omega) (by omega))⟩⟩
theorem Hy.g {G G' : Gm} {a : Nat} (h : Hy G a) (e : Gq G G' a (a + 78)) : Hy G' a := by
  obtain ⟨h1, h2, h3, h4, h5, h6, h7⟩ := h
  have ea := e a (by omega) (by omega)
  exact ⟨by rw [ea.1]; exact h1, by rw [ea.2]; exact h2, by rw [ea.2]; exact h3, by rw [(e _ (by omega) (by omega)).1]; exact h4, by rw [(e _ (by omega) (by omega)).1]; exact h5, fun k hk => ⟨by rw [(e _ (by omega) (by omega)).2]; exact (h6 k hk).1, (h6 k hk).2.g (e.m (by omega) (by omega))⟩, fun k hk => ⟨by rw [(e _ (by omega) (by omega)).2]; exact (h7 k hk).1, (h7 k hk).2.g (e.m (by omega) (by omega))⟩⟩
theorem Wk.g {G G' : Gm} {a : Nat} (h : Wk G a) (e : Gq G G' a (a + 30)) : Wk G' a := by
  obtain ⟨h1, h2, h3, h4, h5, h6⟩ := h
  have ea := e a (by omega) (by omega)
  exact ⟨by rw [ea.1]; exact h1, by rw [ea.2]; exact h2, by rw [ea.2]; exact h3, by rw [(e _ (by omega) (by omega)).1]; exact h4, by rw [(e _ (by omega) (by omega)).1]; exact h5, fun k hk => ⟨by rw [(e _ (by omega) (by omega)).2]; exact (h6 k hk).1, (h6 k hk).2.g (e.m (by omega) (by omega))⟩⟩
theorem Ch.g {G G' : Gm} {a : Nat} (h : Ch G a) (e : Gq G G' a (a + 12)) : Ch G' a := by
  obtain ⟨h1, h2, h3, h4, h5, h6, h7, h8, h9, h10, h11, h12⟩ := h
  have ea := e a (by omega) (by omega)
  exact ⟨by rw [ea.1]; exact h1, by rw [ea.2]; exact h2, by rw [ea.2]; exact h3, by rw [ea.2]; exact h4, by rw [ea.2]; exact h5, by rw [ea.2]; exact h6, by rw [(e _ (by omega) (by omega)).1]; exact h7, by rw [(e _ (by omega) (by omega)).1]; exact h8, by rw [(e _ (by omega) (by omega)).1]; exact h9, by rw [(e _ (by omega) (by omega)).1]; exact h10, by rw [(e _ (by omega) (by omega)).1]; exact h11, fun k hk => ⟨by rw [(e _ (by omega) (by omega)).2]; exact (h12 k hk).1, by rw [(e _ (by omega) (by omega)).1]; exact (h12 k hk).2⟩⟩
theorem NxL.g {G G' : Gm} {a : Nat} (h : NxL G a) (e : Gq G G' a (a + 22)) : NxL G' a := by
  obtain ⟨h1, h2, h3, h4, h5, h6, h7, h8, h9, h10, h11, h12, h13, h14, h15⟩ := h
  have ea := e a (by omega) (by omega)
  exact ⟨by rw [ea.1]; exact h1, by rw [ea.2]; exact h2, by rw [ea.2]; exact h3, by rw [ea.2]; exact h4, by rw [ea.2]; exact h5, by rw [ea.2]; exact h6, by rw [ea.2]; exact h7, by rw [(e _ (by omega) (by omega)).1]; exact h8, by rw [(e _ (by omega) (by omega)).1]; exact h9, by rw [(e _ (by omega) (by omega)).1]; exact h10, by rw [(e _ (by omega) (by omega)).1]; exact h11, by rw [(e _ (by omega) (by omega)).1]; exact h12, by rw [(e _ (by omega) (by omega)).1]; exact h13, fun k hk => ⟨by rw [(e _ (by omega) (by omega)).2]; exact (h14 k hk).1, by rw [(e _ (by omega) (by omega)).1]; exact (h14 k hk).2⟩, fun k hk => ⟨by rw [(e _ (by omega) (by omega)).2]; exact (h15 k hk).1, (h15 k hk).2.g (e.m (by omega) (by omega))⟩⟩
theorem FiL.g {G G' : Gm} {a : Nat} (h : FiL G a) (e : Gq G G' a (a + 13)) : FiL G' a := by
  obtain ⟨h1, h2, h3, h4, h5, h6, h7, h8, h9, h10⟩ := h
  have ea := e a (by omega) (by omega)
  exact ⟨by rw [ea.1]; exact h1, by rw [ea.2]; exact h2, by rw [ea.2]; exact h3, by rw [ea.2]; exact h4, by rw [ea.2]; exact h5, by rw [(e _ (by omega) (by omega)).1]; exact h6, by rw [(e _ (by omega) (by omega)).1]; exact h7, by rw [(e _ (by omega) (by omega)).1]; exact h8, fun k hk => ⟨by rw [(e _ (by omega) (by omega)).2]; exact (h9 k hk).1, by rw [(e _ (by omega) (by omega)).1]; exact (h9 k hk).2⟩, h10.g (e.m (by omega) (by omega))⟩
theorem CT.g {G G' : Gm} {I : Im} {a s : Nat} {h : Sp} {q : Qp} (K : CT G I a s h q) (e1 : Gq G G' a (a + 3)) (e2 : Gq G G' s (s + 81)) : CT G' I a s h q := ⟨K.1.g e1, K.2.1.g e2, K.2.2⟩
