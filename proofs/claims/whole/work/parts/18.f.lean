/-! what give keeps; the reference's finish -/
section R8
variable {w : jw} {d : Nat} {hs : jh} {mo : Nat} {ra : Nat → Nat} {S T U : js} {g : Nat → Option va_E} {b : Nat × Nat}
/-- what a giving may change -/
def Gp (S T : js) : Prop := (∀ f i, f ≠ 7 → f ≠ 19 → f ≠ 23 → f ≠ 26 → f ≠ 29 → f ≠ 38 → T f i = S f i) ∧ (∀ i, T 26 i = S 26 i ∨ T 26 i = 0 ∧ (S 26 i = 1 ∨ S 26 i = 4 ∨ S 26 i = 5)) ∧ (∀ i, T 19 i = S 19 i ∨ S 19 i < 0 ∧ T 19 i = 0) ∧ Gd T
theorem Gp.rf (h : Gd S) : Gp S S := ⟨fun _ _ _ _ _ _ _ _ => rfl, fun _ => Or.inl rfl, fun _ => Or.inl rfl, h⟩
theorem Gp.tr (h1 : Gp S T) (h2 : Gp T U) : Gp S U := by
  obtain ⟨a1, a2, a3, a4⟩ := h1
  obtain ⟨b1, b2, b3, b4⟩ := h2
  refine ⟨fun f i z1 z2 z3 z4 z5 z6 => (b1 f i z1 z2 z3 z4 z5 z6).trans (a1 f i z1 z2 z3 z4 z5 z6), fun i => ?_, fun i => ?_, b4⟩
  · have := a2 i; have := b2 i; omega
  · have := a3 i; have := b3 i; omega
theorem Gp.up {c : Int} (h : Gd S) (hc : S 19 c < 0) : Gp S (up S 19 c 0) := by
  refine ⟨fun f i z1 z2 z3 z4 z5 z6 => up_f z2, fun i => Or.inl (up_f (by decide)), fun i => ?_, h.c (by omega)⟩
  by_cases hi : i = c
  · subst hi; rw [up_s]; exact Or.inr ⟨hc, rfl⟩
  · rw [up_i hi]; exact Or.inl rfl
theorem Gp.wk {k : Int} (h : Gd S) (hk : 0 ≤ k ∧ k < S 1 0) : Gp S (wk S k) := by
  have h4 := h.wkk hk
  unfold wk at h4 ⊢
  split
  · rename_i hc
    rw [if_pos hc] at h4
    refine ⟨fun f i z1 z2 z3 z4 z5 z6 => by simp [z_putReady, up, z1, z3, z4, z5, z6], fun i => ?_, fun i => by simp [z_putReady, up], h4⟩
    have e : z_putReady S k 0 26 i = if i = k then 0 else S 26 i := by simp [z_putReady, up]
    rw [e]
    split
    · rename_i hi
      subst hi
      exact Or.inr ⟨rfl, hc.1⟩
    · exact Or.inl rfl
  · exact Gp.rf h
theorem Gp.gvL {rec : js → Int → js} {k : Int} (hr : ∀ S c, Gd S → 0 ≤ c → c < S 1 0 → Gp S (rec S c)) : ∀ (m : Nat) (S : js) (c : Int), Gd S → 0 ≤ c → Gp S (gvL rec k m S c)
  | 0, S, c, h, _ => Gp.rf h
  | m + 1, S, c, h, hc => by
    unfold gvL
    split
    · split
      · rename_i h1 h2
        have a := Gp.up h h2.2.2
        have a2 := a.tr (hr _ c a.2.2.2 hc (by rw [a.1 1 0 (by decide) (by decide) (by decide) (by decide) (by decide) (by decide)]; exact h1))
        exact a2.tr (Gp.gvL hr m _ (c + 1) a2.2.2.2 (by omega))
      · exact Gp.gvL hr m S (c + 1) h (by omega)
    · exact Gp.rf h
theorem Gp.gvR : ∀ (n : Nat) (S : js) (k : Int), Gd S → 0 ≤ k → k < S 1 0 → Gp S (gvR n S k)
  | 0, S, k, h, _, _ => Gp.rf h
  | n + 1, S, k, h, h1, h2 => by
    have a := Gp.gvL (k := k) (fun S c z1 z2 z3 => Gp.gvR n S c z1 z2 z3) (25 - 0 : Int).toNat S 0 h (Int.le_refl _)
    refine a.tr (Gp.wk a.2.2.2 ⟨h1, ?_⟩)
    rw [a.1 1 0 (by decide) (by decide) (by decide) (by decide) (by decide) (by decide)]
    exact h2
end R8
