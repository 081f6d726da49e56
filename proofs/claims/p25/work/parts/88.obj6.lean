/-! AN OBJECT AT x: fresh -/
section
variable {h h' : cs_H} {x p n : Nat} {H : Nat → Int}
theorem cFx_ext (hf : cFx x h) (hx : cExt h h' p) (hl : x + 394 ≤ h.1.length) (hp : x + 394 ≤ p) : cFx x h' := by
  obtain ⟨⟨s0, s185, s186⟩, ⟨r0, r1, r2, r4, r185⟩, ⟨k1, k47, k93, kh⟩, m185⟩ := hf
  have ex : ∀ a, x ≤ a → a < x + 394 → h'.1[a]? = h.1[a]? ∧ h'.2.1 a = h.2.1 a ∧ h'.2.2 a = h.2.2 a := fun a h1 h2 => ⟨hx.2.1 a (by omega), hx.2.2 a (by omega) (by omega)⟩
  have cc : ∀ c, cCan h c → x ≤ c → c + 46 ≤ x + 394 → cCan h' c := fun c hc h1 h2 => cCan_ext hc hx (by omega) (by omega)
  refine ⟨⟨?_, ?_, ?_⟩, ?_, ⟨cc _ k1 (by omega) (by omega), cc _ k47 (by omega) (by omega), cc _ k93 (by omega) (by omega), fun i hi => ⟨cc _ (kh i hi).1 (by omega) (by omega), ?_⟩⟩, ?_⟩
  · rw [(ex x (by omega) (by omega)).1]; exact s0
  · rw [(ex (x + 185) (by omega) (by omega)).1]; exact s185
  · rw [(ex (x + 186) (by omega) (by omega)).1]; exact s186
  · rw [(ex x (by omega) (by omega)).2.2, (ex (x + 185) (by omega) (by omega)).2.2]; exact ⟨r0, r1, r2, r4, r185⟩
  · rw [(ex (x + 186) (by omega) (by omega)).2.2]; exact (kh i hi).2
  · rw [(ex (x + 185) (by omega) (by omega)).2.1]; exact m185
theorem kO_0 (hf : cFx x h) : kO x h.1 h.2.2 h.2.1 cS0 H 0 := by
  obtain ⟨hs, hr, ⟨k1, k47, k93, kh⟩, m185⟩ := hf
  exact ⟨⟨hs, hr, k1.1, k47.1, k93.1, fun i hi => (kh i hi).1.1⟩, ⟨fun i => i, ⟨fun i hi => ⟨(kh i hi).2, hi⟩, fun i j _ _ e => e⟩, fun i hi => absurd hi (by omega)⟩, fun i hi => absurd hi (by omega), by omega, k1.2, by rw [m185]; rfl⟩
end
