/-! pure rows: the pigeonhole, the ready row, what give does -/
theorem php : ∀ (m : Nat) (f : Nat → Nat), (∀ i, i ≤ m → f i < m) → (∀ i j, i ≤ m → j ≤ m → f i = f j → i = j) → False
  | 0, f, h, _ => absurd (h 0 (Nat.le_refl 0)) (Nat.not_lt_zero _)
  | m + 1, f, h, inj => by
    refine php m (fun i => if f i = m then f (m + 1) else f i) (fun i hi => ?_) (fun i j hi hj => ?_)
    · have h1 := h i (by omega)
      have h2 := h (m + 1) (Nat.le_refl _)
      have h3 : f i = f (m + 1) → i = m + 1 := inj i (m + 1) (by omega) (Nat.le_refl _)
      split <;> omega
    · have h3 : f i = f (m + 1) → i = m + 1 := inj i (m + 1) (by omega) (Nat.le_refl _)
      have h4 : f j = f (m + 1) → j = m + 1 := inj j (m + 1) (by omega) (Nat.le_refl _)
      have h5 : f i = f j → i = j := inj i j (by omega) (by omega)
      split <;> split <;> omega
/-- the ready row: jobs, not waiting, each once -/
def Rq (S : js) : Prop := (0 ≤ S 7 0 ∧ S 7 0 ≤ 24) ∧ (∀ i, 0 ≤ i → i < S 7 0 → 0 ≤ S 38 i ∧ S 38 i < S 1 0 ∧ S 26 (S 38 i) = 0) ∧ (∀ i k, 0 ≤ i → i < S 7 0 → 0 ≤ k → k < S 7 0 → S 38 i = S 38 k → i = k)
def NR (S : js) (j : Int) : Prop := ∀ i, 0 ≤ i → i < S 7 0 → S 38 i ≠ j
theorem Rq.room {S : js} (h : Rq S) (hJ : S 1 0 ≤ 24) {k : Int} (hk : 0 ≤ k ∧ k < 24) (hn : NR S k) : S 7 0 < 24 := by
  obtain ⟨h1, h2, h3⟩ := h
  refine Int.not_le.mp fun hc => ?_
  refine php 24 (fun i => if i < 24 then (S 38 i).toNat else k.toNat) (fun i hi => ?_) (fun i j hi hj he => ?_)
  · split
    · have := h2 i (by omega) (by omega)
      omega
    · omega
  · split at he <;> split at he
    · have a1 := h2 i (by omega) (by omega)
      have a2 := h2 j (by omega) (by omega)
      have := h3 i j (by omega) (by omega) (by omega) (by omega) (by omega)
      omega
    · have a1 := h2 i (by omega) (by omega)
      exact absurd (show S 38 i = k by omega) (hn i (by omega) (by omega))
    · have a1 := h2 j (by omega) (by omega)
      exact absurd (show S 38 j = k by omega) (hn j (by omega) (by omega))
    · omega
theorem Rq.nr {S : js} (h : Rq S) {k : Int} (hk : S 26 k ≠ 0) : NR S k := fun i h1 h2 e => hk (by rw [← e]; exact (h.2.1 i h1 h2).2.2)
theorem Rq.put {S : js} (h : Rq S) (hJ : S 1 0 ≤ 24) {k x : Int} (hk : 0 ≤ k ∧ k < S 1 0) (hn : NR S k) : Rq (z_putReady S k x) := by
  have hr := h.room hJ (by omega) hn
  obtain ⟨h1, h2, h3⟩ := h
  refine ⟨by simp [z_putReady, up]; omega, fun i hi hi2 => ?_, fun i j hi hi2 hj hj2 he => ?_⟩
  · have e7 : z_putReady S k x 7 0 = S 7 0 + 1 := by simp [z_putReady, up]
    rw [e7] at hi2
    by_cases hc : i = S 7 0
    · subst hc
      simp [z_putReady, up]
      omega
    · have h4 := h2 i hi (by omega)
      have h5 : z_putReady S k x 38 i = S 38 i := by simp [z_putReady, up, hc]
      have h6 : z_putReady S k x 1 0 = S 1 0 := by simp [z_putReady, up]
      rw [h5, h6]
      refine ⟨h4.1, h4.2.1, ?_⟩
      simp [z_putReady, up]
      intro _
      exact h4.2.2
  · have e7 : z_putReady S k x 7 0 = S 7 0 + 1 := by simp [z_putReady, up]
    rw [e7] at hi2 hj2
    have h5 : ∀ i, i ≠ S 7 0 → z_putReady S k x 38 i = S 38 i := fun i hc => by simp [z_putReady, up, hc]
    have h6 : z_putReady S k x 38 (S 7 0) = k := by simp [z_putReady, up]
    by_cases hc : i = S 7 0 <;> by_cases hd : j = S 7 0
    · omega
    · rw [hc, h6, h5 j hd] at he
      exact absurd he.symm (hn j hj (by omega))
    · rw [hd, h6, h5 i hc] at he
      exact absurd he (hn i hi (by omega))
    · rw [h5 i hc, h5 j hd] at he
      exact h3 i j hi (by omega) hj (by omega) he
/-- the ranges that keep every place in bounds -/
def GJ (S : js) (i : Int) : Prop := (-1 ≤ S 16 i ∧ S 16 i < i) ∧ (0 ≤ S 17 i ∧ S 17 i ≤ 4) ∧ (-1 ≤ S 19 i ∧ S 19 i ≤ 99) ∧ (0 ≤ S 21 i ∧ S 21 i ≤ 6) ∧ (S 24 i = 0 ∨ S 24 i = 1) ∧ (S 25 i = 0 ∨ S 25 i = 1) ∧ (0 ≤ S 26 i ∧ S 26 i ≤ 8) ∧ (∀ f, i * 6 ≤ f → f < i * 6 + S 21 i → 0 ≤ S 35 f ∧ S 35 f ≤ 5)
def Gd (S : js) : Prop := (0 ≤ S 1 0 ∧ S 1 0 ≤ 24) ∧ (∀ i, 0 ≤ i → i < S 1 0 → GJ S i) ∧ Rq S
def wk (S : js) (k : Int) : js := if (S 26 k = 1 ∨ S 26 k = 4 ∨ S 26 k = 5) ∧ z_shielded S k = false then z_putReady S k 0 else S
def gvL (rec : js → Int → js) (k : Int) : Nat → js → Int → js
  | 0, S, _ => S
  | m + 1, S, c => if c < S 1 0 then gvL rec k m (if S 16 c = k ∧ S 25 c = 0 ∧ S 19 c < 0 then rec (up S 19 c 0) c else S) (c + 1) else S
def gvN (rec : js → Int → js) (k : Int) (S : js) (c : Int) : js := gvL rec k (25 - c).toNat S c
/-- k has its cause: its children get CANCELLED, then it is woken -/
def gvR : Nat → js → Int → js
  | 0, S, _ => S
  | d + 1, S, k => wk (gvN (gvR d) k S 0) k
theorem gvN_end {rec : js → Int → js} {k : Int} {S : js} {c : Int} (h : S 1 0 ≤ c) : gvN rec k S c = S := by
  unfold gvN
  cases (25 - c).toNat with
  | zero => rfl
  | succ m => rw [gvL, if_neg (by omega)]
theorem gvN_step {rec : js → Int → js} {k : Int} {S : js} {c : Int} (h : c < S 1 0) (hc : c < 25) : gvN rec k S c = gvN rec k (if S 16 c = k ∧ S 25 c = 0 ∧ S 19 c < 0 then rec (up S 19 c 0) c else S) (c + 1) := by
  unfold gvN
  have e : (25 - c).toNat = (25 - (c + 1)).toNat + 1 := by omega
  rw [e, gvL, if_pos h]
theorem zNC {S : js} {j : Int} : ∀ (n : Nat) (k : Int), S 1 0 ≤ 24 → 24 ≤ k + n → (z_nextChild S j (n + 1) k = -1 ∧ ∀ i, k ≤ i → i < S 1 0 → ¬ (S 16 i = j ∧ S 25 i = 0)) ∨ (k ≤ z_nextChild S j (n + 1) k ∧ z_nextChild S j (n + 1) k < S 1 0 ∧ S 16 (z_nextChild S j (n + 1) k) = j ∧ S 25 (z_nextChild S j (n + 1) k) = 0 ∧ ∀ i, k ≤ i → i < z_nextChild S j (n + 1) k → ¬ (S 16 i = j ∧ S 25 i = 0)) := by
  intro n
  induction n with
  | zero =>
    intro k h1 h2
    left
    rw [z_nextChild, if_neg (by omega)]
    exact ⟨rfl, fun i h3 h4 => by omega⟩
  | succ n ih =>
    intro k h1 h2
    rw [z_nextChild]
    by_cases hk : k < S 1 0
    · rw [if_pos hk]
      by_cases hc : S 16 k = j ∧ S 25 k = 0
      · rw [if_pos hc]
        exact Or.inr ⟨Int.le_refl _, hk, hc.1, hc.2, fun i h3 h4 => by omega⟩
      · rw [if_neg hc]
        rcases ih (k + 1) h1 (by omega) with ⟨e1, e2⟩ | ⟨e1, e2, e3, e4, e5⟩
        · refine Or.inl ⟨e1, fun i h3 h4 => ?_⟩
          by_cases hi : i = k
          · subst hi; exact hc
          · exact e2 i (by omega) h4
        · refine Or.inr ⟨by omega, e2, e3, e4, fun i h3 h4 => ?_⟩
          by_cases hi : i = k
          · subst hi; exact hc
          · exact e5 i (by omega) h4
    · rw [if_neg hk]
      exact Or.inl ⟨rfl, fun i h3 h4 => by omega⟩
theorem gvN_skip {rec : js → Int → js} {k : Int} {S : js} {c : Int} (hJ : S 1 0 ≤ 24) : ∀ (m : Nat) (n : Int), c = n + m → c ≤ S 1 0 → (∀ i, n ≤ i → i < c → ¬ (S 16 i = k ∧ S 25 i = 0)) → gvN rec k S n = gvN rec k S c
  | 0, n, h, _, _ => by rw [h]; simp
  | m + 1, n, h, h2, h3 => by
    rw [gvN_step (by omega) (by omega), if_neg (fun z => h3 n (Int.le_refl _) (by omega) ⟨z.1, z.2.1⟩)]
    exact gvN_skip hJ m (n + 1) (by omega) h2 (fun i h4 h5 => h3 i (by omega) h5)
/-- how many have no cause -/
def cA (S : js) : Nat → Int
  | 0 => 0
  | n + 1 => (if S 19 n < 0 then 1 else 0) + cA S n
theorem cA_nn (S : js) : ∀ n, 0 ≤ cA S n
  | 0 => Int.le_refl _
  | n + 1 => by have := cA_nn S n; rw [cA]; split <;> omega
theorem cA_up {S : js} {c : Int} (hc : S 19 c < 0) : ∀ n : Nat, cA (up S 19 c 0) n = if 0 ≤ c ∧ c < n then cA S n - 1 else cA S n
  | 0 => by rw [cA, if_neg (by omega)]; rfl
  | n + 1 => by
    rw [cA, cA, cA_up hc n]
    by_cases he : (n : Int) = c
    · subst he
      rw [up_s, if_neg (by decide), if_neg (by omega), if_pos (by omega), if_pos hc]
      omega
    · rw [up_i he]
      split <;> split <;> split <;> omega
theorem cA_congr {S T : js} (h : ∀ i, T 19 i = S 19 i) : ∀ n, cA T n = cA S n
  | 0 => rfl
  | n + 1 => by rw [cA, cA, h, cA_congr h n]
