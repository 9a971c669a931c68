/-! the class' shore -/
/-- a shore told, as the class has it at s -/
def SWV (G : Gm) (I : Im) (s : Nat) (sh : Shr) (r : RS) : Prop := r.1 = some sh ∧ (∃ e, ROk e r) ∧ (0 < rT r ∧ 0 < rN r) ∧ Sh G s ∧ ShV I s (hOf sh r) ∧ BgV I s (hOf sh r) (q0R r) ∧ SzV I s (hOf sh r) (rBz r) ∧ HmV I s (hOf sh r) (rHm r) ∧ SeV I s (hOf sh r) (rSn r) ∧ PF G I s (hOf sh r) (q0R r) (rSt r) (rF r) ∧ I (s + 15) 1 = encO (firstU (fun i => noUse (hOf sh r) (atK (hOf sh r) (q0R r) (rF r) i) (rF r i)) (rSt r)) ∧ AW I s (hOf sh r) ∧ I (s + 1) 2 = nI (rSc r)
theorem SWV.fr {G : Gm} {I I' : Im} {s : Nat} {sh : Shr} {r : RS} (h : SWV G I s sh r) (hf : ∀ c, s ≤ c → c ≤ s + 81 → I' c = I c) : SWV G I' s sh r := by
  obtain ⟨h1, h2, h3, h4, h5, h6, h7, h8, h9, ⟨h10, h11, h12⟩, h13, h14, h15⟩ := h
  obtain ⟨e, he⟩ := id h2
  refine ⟨h1, h2, h3, h4, h5.fr (fun c a b => hf c a (by omega)), ?_, ?_, ?_, ?_, ⟨h10, h11.fr (by rw [hf _ (by omega) (by omega)]) (fun c a b => hf c (by omega) (by omega)), fun k hk => (h12 k hk).fr (fun c hc => hf c ?_ ?_)⟩, ?_, h14.fr (fun c a b => hf c (by omega) (by omega)), ?_⟩
  · unfold BgV at h6 ⊢
    rw [hf _ (by omega) (by omega), hf _ (by omega) (by omega)]
    exact h6
  · unfold SzV at h7 ⊢
    rw [hf _ (by omega) (by omega)]
    exact h7
  · unfold HmV at h8 ⊢
    rw [hf _ (by omega) (by omega)]
    exact h8
  · unfold SeV at h9 ⊢
    rw [hf _ (by omega) (by omega)]
    exact h9
  · have := he.2.1.2.2.2.1; unfold inSc at hc; omega
  · have := he.2.1.2.2.2.1; unfold inSc at hc; omega
  · rw [hf _ (by omega) (by omega)]; exact h13
  · rw [hf _ (by omega) (by omega)]; exact h15
