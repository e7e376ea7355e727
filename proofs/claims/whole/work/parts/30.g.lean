/-! agreement: the row's first is taken -/
section AI
variable {S T C D : js}
/-- the first of the row is taken, the turn is counted -/
theorem Ag.take (h : Ag C S) (hq : 0 < S 7 0 ∧ S 7 0 ≤ 24) : Ag (up (c_take C) 4 0 (C 4 0 + 1)) (z_take S) := by
  have e4 : C 4 0 = S 4 0 := h.a1 4 0 (by unfold cm; omega)
  have a5 := h.a5
  have eo : ∀ f i, f ≠ 7 → f ≠ 38 → f ≠ 4 → z_take S f i = S f i := fun f i z1 z2 z3 => by simp [z_take, z_shift, up, z1, z2, z3]
  have co : ∀ f i, f ≠ 60 → f ≠ 61 → f ≠ 4 → up (c_take C) 4 0 (C 4 0 + 1) f i = C f i := fun f i z1 z2 z3 => by simp [c_take, up, z1, z2, z3]
  refine ⟨fun f i hf => ?_, h.a2.cg fun f i hf => eo f i (by omega) (by omega) (by omega), h.a3.cg (fun f i hf => eo f i (by omega) (by omega) (by omega)) (fun f i hf => co f i (by omega) (by omega) (by omega)), h.a3o.cg (fun f i hf => eo f i (by omega) (by omega) (by omega)) (fun f i hf => co f i (by omega) (by omega) (by omega)), h.a4.cg (fun f i hf => eo f i (by omega) (by omega) (by omega)) (fun f i hf => co f i (by omega) (by omega) (by omega)), ?_, h.a7.cg (fun f i hf => eo f i (by omega) (by omega) (by omega)) (fun f i hf => co f i (by omega) (by omega) (by omega))⟩
  · have h1 := h.a1 f i hf
    unfold cm at hf
    by_cases h4 : f = 4
    · subst h4
      by_cases hi : i = 0
      · subst hi; simp [z_take, z_shift, c_take, up, e4]
      · simp [z_take, z_shift, c_take, up, hi, h1]
    · rw [co f i (by omega) (by omega) (by omega), eo f i (by omega) (by omega) (by omega)]
      exact h1
  · obtain ⟨b1, b2, b3⟩ := a5
    have q1 : up (c_take C) 4 0 (C 4 0 + 1) 61 0 = C 61 0 - 1 := by simp [c_take, up]
    have q2 : up (c_take C) 4 0 (C 4 0 + 1) 60 0 = (C 60 0 + 1) % 24 := by simp [c_take, up]
    have q3 : z_take S 7 0 = S 7 0 - 1 := by simp [z_take, z_shift, up]
    unfold A5
    rw [q1, q2, q3]
    refine ⟨by omega, by omega, fun i z1 z2 => ?_⟩
    have q4 : z_take S 38 i = S 38 (i + 1) := by simp [z_take, z_shift, up, z1, z2]
    rw [q4, co 59 _ (by omega) (by omega) (by omega), ← b3 (i + 1) (by omega) (by omega)]
    congr 1
    omega
end AI
