/-! what keeps the invariant: frames, waiting, new jobs, the row, the clock -/
section IW
variable {S T : js}
theorem Iv.push (h : Iv S) {j p s q k : Int} (hr : Rn j S) (hf : 1 ≤ S 21 j ∧ S 21 j < 6) (hp : 0 ≤ p ∧ p ≤ 9) (hs : 1 ≤ s ∧ s ≤ 5) (hq : s = 1 ∨ s = 2 → 0 ≤ q ∧ q ≤ 9) (hk : -1 ≤ k ∧ k ≤ 99) : Iv (z_pushFrame S j p s q k) := by
  have eo : ∀ f i, f ≠ 33 → f ≠ 34 → f ≠ 35 → f ≠ 36 → f ≠ 37 → f ≠ 21 → z_pushFrame S j p s q k f i = S f i := fun f i z1 z2 z3 z4 z5 z6 => by simp [z_pushFrame, up, z1, z2, z3, z4, z5, z6]
  have e21 : ∀ i, z_pushFrame S j p s q k 21 i = if i = j then S 21 j + 1 else S 21 i := fun i => by simp [z_pushFrame, up]
  have en : ∀ f i, f ≠ 21 → i ≠ j * 6 + S 21 j → z_pushFrame S j p s q k f i = S f i := fun f i z1 z2 => by simp [z_pushFrame, up, z1, z2]
  have hj := hr.1
  refine ⟨⟨by rw [eo 1 0 (by omega) (by omega) (by omega) (by omega) (by omega) (by omega)]; exact h.gd.1, fun i z1 z2 => ?_, ?_⟩, fun i z1 z2 => ?_, fun i f z1 z2 z3 z4 => ?_, h.sl.cg fun f i hf => eo f i (by omega) (by omega) (by omega) (by omega) (by omega) (by omega), h.tm.cg fun f i hf => eo f i (by omega) (by omega) (by omega) (by omega) (by omega) (by omega), ⟨fun i z1 z2 => ?_, ?_⟩, h.pg.cg fun f i hf => eo f i (by omega) (by omega) (by omega) (by omega) (by omega) (by omega)⟩
  · rw [eo 1 0 (by omega) (by omega) (by omega) (by omega) (by omega) (by omega)] at z2
    have a := h.gd.2.1 i z1 z2
    unfold GJ at a ⊢
    rw [e21]
    simp only [eo 16 _ (by omega) (by omega) (by omega) (by omega) (by omega) (by omega), eo 17 _ (by omega) (by omega) (by omega) (by omega) (by omega) (by omega), eo 19 _ (by omega) (by omega) (by omega) (by omega) (by omega) (by omega), eo 24 _ (by omega) (by omega) (by omega) (by omega) (by omega) (by omega), eo 25 _ (by omega) (by omega) (by omega) (by omega) (by omega) (by omega), eo 26 _ (by omega) (by omega) (by omega) (by omega) (by omega) (by omega)]
    obtain ⟨a1, a2, a3, a4, a5, a6, a7, a8⟩ := a
    refine ⟨a1, a2, a3, by split <;> omega, a5, a6, a7, fun f y1 y2 => ?_⟩
    by_cases hf2 : f = j * 6 + S 21 j
    · subst hf2
      have : z_pushFrame S j p s q k 35 (j * 6 + S 21 j) = s := by simp [z_pushFrame, up]
      rw [this]
      omega
    · rw [en 35 f (by omega) hf2]
      refine a8 f y1 ?_
      by_cases hi : i = j
      · rw [if_pos hi] at y2; subst hi; omega
      · rw [if_neg hi] at y2; exact y2
  · have a := h.gd.2.2
    unfold Rq at a ⊢
    simpa only [eo 1 _ (by omega) (by omega) (by omega) (by omega) (by omega) (by omega), eo 7 _ (by omega) (by omega) (by omega) (by omega) (by omega) (by omega), eo 38 _ (by omega) (by omega) (by omega) (by omega) (by omega) (by omega), eo 26 _ (by omega) (by omega) (by omega) (by omega) (by omega) (by omega)] using a
  · rw [eo 1 0 (by omega) (by omega) (by omega) (by omega) (by omega) (by omega)] at z2
    have a := h.wt i z1 z2
    unfold WJ at a ⊢
    simp only [e21, eo 1 _ (by omega) (by omega) (by omega) (by omega) (by omega) (by omega), eo 16 _ (by omega) (by omega) (by omega) (by omega) (by omega) (by omega), eo 17 _ (by omega) (by omega) (by omega) (by omega) (by omega) (by omega), eo 25 _ (by omega) (by omega) (by omega) (by omega) (by omega) (by omega), eo 26 _ (by omega) (by omega) (by omega) (by omega) (by omega) (by omega), eo 27 _ (by omega) (by omega) (by omega) (by omega) (by omega) (by omega), eo 29 _ (by omega) (by omega) (by omega) (by omega) (by omega) (by omega)]
    obtain ⟨a1, a2, a3, a4, a5, a6, a7, a8, a9, a10⟩ := a
    refine ⟨a1, fun y => ?_, a3, a4, a5, a6, a7, fun y => ?_, a9, a10⟩
    · rw [if_neg (by intro hi; subst hi; exact y hr.2.1)]; exact a2 y
    · rw [if_neg (by intro hi; subst hi; have := hr.2.2.2; omega)]; exact a8 y
  · rw [eo 1 0 (by omega) (by omega) (by omega) (by omega) (by omega) (by omega)] at z2
    rw [e21] at z4
    have hi6 := h.gd.2.1 i z1 z2
    have hi6 : S 21 i ≤ 6 := hi6.2.2.2.1.2
    by_cases hf2 : f = j * 6 + S 21 j
    · subst hf2
      have hij : i = j := by split at z4 <;> omega
      subst hij
      unfold FJ
      have q1 : z_pushFrame S i p s q k 33 (i * 6 + S 21 i) = p := by simp [z_pushFrame, up]
      have q2 : z_pushFrame S i p s q k 34 (i * 6 + S 21 i) = 0 := by simp [z_pushFrame, up]
      have q3 : z_pushFrame S i p s q k 35 (i * 6 + S 21 i) = s := by simp [z_pushFrame, up]
      have q4 : z_pushFrame S i p s q k 36 (i * 6 + S 21 i) = q := by simp [z_pushFrame, up]
      have q5 : z_pushFrame S i p s q k 37 (i * 6 + S 21 i) = k := by simp [z_pushFrame, up]
      rw [q1, q2, q3, q4, q5]
      exact ⟨hp, by omega, by omega, hq, hk⟩
    · have a := h.fr i f z1 z2 z3 (by by_cases hi : i = j; (subst hi; rw [if_pos rfl] at z4; omega); (rw [if_neg hi] at z4; exact z4))
      unfold FJ at a ⊢
      rw [en 33 f (by omega) hf2, en 34 f (by omega) hf2, en 35 f (by omega) hf2, en 36 f (by omega) hf2, en 37 f (by omega) hf2]
      exact a
  · rw [eo 7 0 (by omega) (by omega) (by omega) (by omega) (by omega) (by omega)] at z2
    rw [eo 38 i (by omega) (by omega) (by omega) (by omega) (by omega) (by omega), e21, if_neg (hr.2.2.1 i z1 z2)]
    exact h.rw.1 i z1 z2
  · rw [eo 1 0 (by omega) (by omega) (by omega) (by omega) (by omega) (by omega)]
    simpa only [eo 23 _ (by omega) (by omega) (by omega) (by omega) (by omega) (by omega)] using h.rw.2
/-- j, which runs, begins to wait -/
theorem Iv.waitg (h : Iv S) {j x o : Int} (hr : Rn j S) (hf : 0 < S 21 j) (eo : ∀ f i, f ≠ 26 → f ≠ 27 → f ≠ 28 → f ≠ 6 → f ≠ 10 → f ≠ 29 → f ≠ 30 → T f i = S f i) (e26 : ∀ i, T 26 i = if i = j then x else S 26 i) (e27 : ∀ i, T 27 i = if i = j then o else S 27 i) (e6 : T 6 0 = S 6 0 + 1) (e29 : ∀ i, i ≠ j → T 29 i = S 29 i) (e30 : ∀ i, i ≠ j → T 30 i = S 30 i)
    (ho : -1 ≤ o ∧ o < 24) (hx : x = 1 ∧ (S 2 0 ≤ T 29 j ∧ T 29 j ≤ S 2 0 + 50) ∧ T 30 j = S 6 0 ∨ (x = 4 ∨ x = 5) ∧ T 29 j = S 29 j ∧ T 30 j = S 30 j ∧ (0 ≤ o ∧ o < S 1 0) ∧ S 16 o = j ∧ S 25 o = 0 ∧ S 17 o = 1) : Iv T := by
  have hj := hr.1
  have h26 := hr.2.1
  have h2 := h.tm.1
  have h29 : S 29 j < 0 := by have := (h.wt j hj.1 hj.2).2.2.2.2.2.2.2.2.2; omega
  have hxr : 0 ≤ x ∧ x ≤ 8 := by omega
  have hx1 : x = 0 ∨ x = 1 ∨ x = 4 ∨ x = 5 ∨ x = 8 := by omega
  have hx8 : x ≠ 8 := by omega
  have hx29 : x = 1 ↔ 0 ≤ T 29 j := by omega
  have ht29 : -1 ≤ T 29 j ∧ (0 ≤ T 29 j → (S 2 0 ≤ T 29 j ∧ T 29 j ≤ S 2 0 + 50) ∧ 0 ≤ T 30 j ∧ T 30 j < S 6 0 + 1) := by
    have htj := h.tm.2 j hj.1 hj.2
    unfold TJ at htj
    omega
  have hx45 : x = 4 ∨ x = 5 ∨ x = 8 → (0 ≤ o ∧ o < S 1 0) ∧ S 16 o = j ∧ S 25 o = 0 := fun y => by
    rcases hx with hx | hx
    · omega
    · exact ⟨hx.2.2.2.1, hx.2.2.2.2.1, hx.2.2.2.2.2.1⟩
  have hx17 : x = 4 ∨ x = 5 → S 17 o = 1 := fun y => by
    rcases hx with hx | hx
    · omega
    · exact hx.2.2.2.2.2.2
  clear hx
  have o1 := eo 1 0 (by omega) (by omega) (by omega) (by omega) (by omega) (by omega) (by omega)
  refine ⟨⟨by rw [o1]; exact h.gd.1, fun i z1 z2 => ?_, ?_⟩, fun i z1 z2 => ?_, h.fr.cg fun f i hf => eo f i (by omega) (by omega) (by omega) (by omega) (by omega) (by omega) (by omega), h.sl.cg fun f i hf => eo f i (by omega) (by omega) (by omega) (by omega) (by omega) (by omega) (by omega), ⟨?_, fun i z1 z2 => ?_⟩, h.rw.cg fun f i hf => eo f i (by omega) (by omega) (by omega) (by omega) (by omega) (by omega) (by omega), h.pg.cg fun f i hf => eo f i (by omega) (by omega) (by omega) (by omega) (by omega) (by omega) (by omega)⟩
  · rw [o1] at z2
    have a := h.gd.2.1 i z1 z2
    unfold GJ at a ⊢
    rw [e26]
    simp only [eo 16 _ (by omega) (by omega) (by omega) (by omega) (by omega) (by omega) (by omega), eo 17 _ (by omega) (by omega) (by omega) (by omega) (by omega) (by omega) (by omega), eo 19 _ (by omega) (by omega) (by omega) (by omega) (by omega) (by omega) (by omega), eo 21 _ (by omega) (by omega) (by omega) (by omega) (by omega) (by omega) (by omega), eo 24 _ (by omega) (by omega) (by omega) (by omega) (by omega) (by omega) (by omega), eo 25 _ (by omega) (by omega) (by omega) (by omega) (by omega) (by omega) (by omega), eo 35 _ (by omega) (by omega) (by omega) (by omega) (by omega) (by omega) (by omega)]
    obtain ⟨a1, a2, a3, a4, a5, a6, a7, a8⟩ := a
    refine ⟨a1, a2, a3, a4, a5, a6, ?_, a8⟩
    split
    · exact hxr
    · exact a7
  · have a := h.gd.2.2
    obtain ⟨b1, b2, b3⟩ := a
    unfold Rq
    rw [o1, eo 7 0 (by omega) (by omega) (by omega) (by omega) (by omega) (by omega) (by omega)]
    simp only [eo 38 _ (by omega) (by omega) (by omega) (by omega) (by omega) (by omega) (by omega)]
    refine ⟨b1, fun i z1 z2 => ?_, b3⟩
    have := b2 i z1 z2
    rw [e26, if_neg (hr.2.2.1 i z1 z2)]
    exact this
  · rw [o1] at z2
    have a := h.wt i z1 z2
    unfold WJ at a ⊢
    obtain ⟨a1, a2, a3, a4, a5, a6, a7, a8, a9, a10⟩ := a
    simp only [e26, e27, o1, eo 16 _ (by omega) (by omega) (by omega) (by omega) (by omega) (by omega) (by omega), eo 17 _ (by omega) (by omega) (by omega) (by omega) (by omega) (by omega) (by omega), eo 21 _ (by omega) (by omega) (by omega) (by omega) (by omega) (by omega) (by omega), eo 25 _ (by omega) (by omega) (by omega) (by omega) (by omega) (by omega) (by omega)]
    have a6' : 1 < S 17 i → S 25 i = 0 → ((if S 16 i = j then x else S 26 (S 16 i)) = 8 ∧ (if S 16 i = j then o else S 27 (S 16 i)) = i) := fun y1 y2 => by
      have := a6 y1 y2
      have hne : S 16 i ≠ j := by intro e; rw [e, h26] at this; exact absurd this.1 (by decide)
      rw [if_neg hne, if_neg hne]
      exact this
    by_cases hi : i = j
    · subst hi
      simp only [if_pos]
      exact ⟨hx1, fun _ => ⟨hf, hr.2.2.2⟩, hx45, fun y => absurd y hx8, hx17, a6', a7, a8, ho, hx29⟩
    · simp only [if_neg hi]
      rw [e29 i hi]
      exact ⟨a1, a2, a3, a4, a5, a6', a7, a8, a9, a10⟩
  · rw [eo 2 0 (by omega) (by omega) (by omega) (by omega) (by omega) (by omega) (by omega), eo 3 0 (by omega) (by omega) (by omega) (by omega) (by omega) (by omega) (by omega), e6]
    omega
  · rw [o1] at z2
    have a := h.tm.2 i z1 z2
    unfold TJ at a ⊢
    rw [e6, eo 2 0 (by omega) (by omega) (by omega) (by omega) (by omega) (by omega) (by omega), eo 25 i (by omega) (by omega) (by omega) (by omega) (by omega) (by omega) (by omega), eo 31 i (by omega) (by omega) (by omega) (by omega) (by omega) (by omega) (by omega), eo 32 i (by omega) (by omega) (by omega) (by omega) (by omega) (by omega) (by omega)]
    clear hx1 hx29 hx45 hx17 hx8
    by_cases hi : i = j
    · subst hi
      refine ⟨ht29.1, ht29.2, a.2.2.1, fun y => ?_⟩
      have := a.2.2.2 y
      exact ⟨this.1, this.2.1, this.2.2.1, by omega⟩
    · rw [e29 i hi, e30 i hi]
      refine ⟨a.1, fun y => ?_, a.2.2.1, fun y => ?_⟩
      · have := a.2.1 y
        exact ⟨this.1, this.2.1, by omega⟩
      · have := a.2.2.2 y
        exact ⟨this.1, this.2.1, this.2.2.1, by omega⟩
theorem Iv.delayw (h : Iv S) {j a : Int} (hr : Rn j S) (hf : 0 < S 21 j) (ha : 1 ≤ a ∧ a ≤ 50) : Iv (z_waitIn (up (up S 29 j (S 2 0 + a)) 30 j (S 6 0)) j 1 (-1)) := by
  refine h.waitg hr hf (x := 1) (o := -1) (fun f i z1 z2 z3 z4 z5 z6 z7 => by simp [z_waitIn, up, z1, z2, z3, z4, z5, z6, z7]) (fun i => by simp [z_waitIn, up]) (fun i => by simp [z_waitIn, up]) (by simp [z_waitIn, up]) (fun i hi => by simp [z_waitIn, up, hi]) (fun i hi => by simp [z_waitIn, up, hi]) (by omega) (Or.inl ⟨rfl, ?_, by simp [z_waitIn, up]⟩)
  have : z_waitIn (up (up S 29 j (S 2 0 + a)) 30 j (S 6 0)) j 1 (-1) 29 j = S 2 0 + a := by simp [z_waitIn, up]
  rw [this]
  omega
theorem Iv.awaitw (h : Iv S) {j x o : Int} (hr : Rn j S) (hf : 0 < S 21 j) (hx : x = 4 ∨ x = 5) (ho : (0 ≤ o ∧ o < S 1 0) ∧ S 16 o = j ∧ S 25 o = 0 ∧ S 17 o = 1) : Iv (z_waitIn S j x o) := by
  have := h.J
  exact h.waitg hr hf (x := x) (o := o) (fun f i z1 z2 z3 z4 z5 z6 z7 => by simp [z_waitIn, up, z1, z2, z3, z4, z5, z6, z7]) (fun i => by simp [z_waitIn, up]) (fun i => by simp [z_waitIn, up]) (by simp [z_waitIn, up]) (fun i hi => by simp [z_waitIn, up, hi]) (fun i hi => by simp [z_waitIn, up, hi]) (by omega) (Or.inr ⟨hx, by simp [z_waitIn, up], by simp [z_waitIn, up], ho.1, ho.2.1, ho.2.2.1, ho.2.2.2⟩)
/-- the clock goes on, but past no timer -/
theorem Iv.clock (h : Iv S) {t : Int} (ht : S 2 0 ≤ t) (hd : ∀ k, 0 ≤ k → k < S 1 0 → (0 ≤ S 29 k → t ≤ S 29 k) ∧ (0 ≤ S 31 k → S 25 k = 0 → t ≤ S 31 k)) : Iv (up S 2 0 t) := by
  have e : ∀ f i, f ≠ 2 → up S 2 0 t f i = S f i := fun f i z => up_f z
  refine ⟨h.gd.cg fun f i hf => e f i (by omega), h.wt.cg fun f i hf => e f i (by omega), h.fr.cg fun f i hf => e f i (by omega), h.sl.cg fun f i hf => e f i (by omega), ⟨?_, fun i z1 z2 => ?_⟩, h.rw.cg fun f i hf => e f i (by omega), h.pg.cg fun f i hf => e f i (by omega)⟩
  · rw [up_s, e 3 0 (by decide), e 6 0 (by decide)]
    have := h.tm.1
    omega
  · rw [e 1 0 (by decide)] at z2
    have a := h.tm.2 i z1 z2
    have b := hd i z1 z2
    unfold TJ at a ⊢
    rw [up_s, e 6 0 (by decide), e 25 i (by decide), e 29 i (by decide), e 30 i (by decide), e 31 i (by decide), e 32 i (by decide)]
    omega
theorem Iv.limit (h : Iv S) {j : Int} : Iv (up S 31 j (-1)) := by
  have e : ∀ f i, f ≠ 31 → up S 31 j (-1) f i = S f i := fun f i z => up_f z
  refine ⟨h.gd.cg fun f i hf => e f i (by omega), h.wt.cg fun f i hf => e f i (by omega), h.fr.cg fun f i hf => e f i (by omega), h.sl.cg fun f i hf => e f i (by omega), ⟨?_, fun i z1 z2 => ?_⟩, h.rw.cg fun f i hf => e f i (by omega), h.pg.cg fun f i hf => e f i (by omega)⟩
  · rw [e 2 0 (by decide), e 3 0 (by decide), e 6 0 (by decide)]
    exact h.tm.1
  · rw [e 1 0 (by decide)] at z2
    have a := h.tm.2 i z1 z2
    unfold TJ at a ⊢
    have e2 : up S 31 j (-1) 31 i = if i = j then -1 else S 31 i := by simp [up]
    rw [e 2 0 (by decide), e2, e 6 0 (by decide), e 25 i (by decide), e 29 i (by decide), e 30 i (by decide), e 32 i (by decide)]
    split <;> omega
theorem Iv.take (h : Iv S) (hq : 0 < S 7 0) : Iv (z_take S) ∧ Rn (S 38 0) (z_take S) ∧ 0 < z_take S 21 (S 38 0) := by
  have eo : ∀ f i, f ≠ 7 → f ≠ 38 → f ≠ 4 → z_take S f i = S f i := fun f i z1 z2 z3 => by simp [z_take, z_shift, up, z1, z2, z3]
  have e7 : z_take S 7 0 = S 7 0 - 1 := by simp [z_take, z_shift, up]
  have e38 : ∀ i, 0 ≤ i → i < S 7 0 - 1 → z_take S 38 i = S 38 (i + 1) := fun i z1 z2 => by simp [z_take, z_shift, up, z1, z2]
  obtain ⟨b1, b2, b3⟩ := h.gd.2.2
  have h0 := b2 0 (by omega) hq
  have f0 := h.rw.1 0 (by omega) hq
  have w0 := h.wt (S 38 0) h0.1 h0.2.1
  have g0 := (h.gd.2.1 (S 38 0) h0.1 h0.2.1).2.2.2.2.2.1
  refine ⟨⟨⟨by rw [eo 1 0 (by omega) (by omega) (by omega)]; exact h.gd.1, fun i z1 z2 => ?_, ?_⟩, h.wt.cg fun f i hf => eo f i (by omega) (by omega) (by omega), h.fr.cg fun f i hf => eo f i (by omega) (by omega) (by omega), h.sl.cg fun f i hf => eo f i (by omega) (by omega) (by omega), h.tm.cg fun f i hf => eo f i (by omega) (by omega) (by omega), ⟨fun i z1 z2 => ?_, ?_⟩, h.pg.cg fun f i hf => eo f i (by omega) (by omega) (by omega)⟩, ⟨by rw [eo 1 0 (by omega) (by omega) (by omega)]; omega, by rw [eo 26 _ (by omega) (by omega) (by omega)]; exact h0.2.2, fun i z1 z2 => ?_, ?_⟩, by rw [eo 21 _ (by omega) (by omega) (by omega)]; exact f0⟩
  · rw [eo 1 0 (by omega) (by omega) (by omega)] at z2
    have a := h.gd.2.1 i z1 z2
    unfold GJ at a ⊢
    simpa only [eo 16 _ (by omega) (by omega) (by omega), eo 17 _ (by omega) (by omega) (by omega), eo 19 _ (by omega) (by omega) (by omega), eo 21 _ (by omega) (by omega) (by omega), eo 24 _ (by omega) (by omega) (by omega), eo 25 _ (by omega) (by omega) (by omega), eo 26 _ (by omega) (by omega) (by omega), eo 35 _ (by omega) (by omega) (by omega)] using a
  · unfold Rq
    rw [e7, eo 1 0 (by omega) (by omega) (by omega)]
    refine ⟨by omega, fun i z1 z2 => ?_, fun i k z1 z2 z3 z4 he => ?_⟩
    · rw [e38 i z1 z2, eo 26 _ (by omega) (by omega) (by omega)]
      exact b2 (i + 1) (by omega) (by omega)
    · rw [e38 i z1 z2, e38 k z3 z4] at he
      have := b3 (i + 1) (k + 1) (by omega) (by omega) (by omega) (by omega) he
      omega
  · rw [e7] at z2
    rw [e38 i z1 z2, eo 21 _ (by omega) (by omega) (by omega)]
    exact h.rw.1 (i + 1) (by omega) (by omega)
  · rw [eo 1 0 (by omega) (by omega) (by omega)]
    simpa only [eo 23 _ (by omega) (by omega) (by omega)] using h.rw.2
  · rw [e7] at z2
    rw [e38 i z1 z2]
    intro he
    have := b3 (i + 1) 0 (by omega) (by omega) (by omega) (by omega) he
    omega
  · rw [eo 25 _ (by omega) (by omega) (by omega)]
    have := w0.2.2.2.2.2.2.2.1
    omega
theorem Iv.act (h : Iv S) {p x a c : Int} (hp : 0 ≤ p ∧ p < 10) (hs : S 11 p < 8) (hx : 0 ≤ x ∧ x ≤ 15) (ha : jr a ∧ jr c) (hw : ¬ WR x a c) : Iv (z_actS S p x a c) := by
  have e : ∀ f i, f ≠ 11 → f ≠ 12 → f ≠ 13 → f ≠ 14 → z_actS S p x a c f i = S f i := fun f i z1 z2 z3 z4 => by simp [z_actS, up, z1, z2, z3, z4]
  have hz := h.pg.1 p hp.1 hp.2
  refine ⟨h.gd.cg fun f i hf => e f i (by omega) (by omega) (by omega) (by omega), h.wt.cg fun f i hf => e f i (by omega) (by omega) (by omega) (by omega), h.fr.cg fun f i hf => e f i (by omega) (by omega) (by omega) (by omega), h.sl.cg fun f i hf => e f i (by omega) (by omega) (by omega) (by omega), h.tm.cg fun f i hf => e f i (by omega) (by omega) (by omega) (by omega), h.rw.cg fun f i hf => e f i (by omega) (by omega) (by omega) (by omega), ⟨fun q z1 z2 => ?_, fun k z1 z2 => ?_⟩⟩
  · have : z_actS S p x a c 11 q = if q = p then S 11 p + 1 else S 11 q := by simp [z_actS, up]
    rw [this]
    have := h.pg.1 q z1 z2
    split <;> omega
  · have b := h.pg.2 k z1 z2
    by_cases hk : k = p * 8 + S 11 p
    · subst hk
      simp [z_actS, up]
      exact ⟨hx, ⟨ha.1, ha.2⟩, hw⟩
    · simp [z_actS, up, hk]
      exact b
end IW
