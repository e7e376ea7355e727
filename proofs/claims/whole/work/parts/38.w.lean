/-! the timer that comes next, in the class and in the reference -/
section SW
variable {S T U C : js} {j m x : Int}
def due (C : js) (i : Int) : Int := C (tdu (nx C i)) i
def tur (C : js) (i : Int) : Int := C (ttu (nx C i)) i
/-- l: 1 if it is the LIMIT -/
def lof (C : js) (i : Int) : Int := if nx C i = 14 then 1 else 0
theorem nx_min (C : js) (i : Int) : (due C i ≤ C 52 i ∧ due C i ≤ C 54 i) ∧ (C 52 i = due C i → tur C i ≤ C 53 i) ∧ (C 54 i = due C i → tur C i ≤ C 55 i) ∧ (nx C i = 13 ∧ lof C i = 0 ∧ due C i = C 52 i ∧ tur C i = C 53 i ∨ nx C i = 14 ∧ lof C i = 1 ∧ due C i = C 54 i ∧ tur C i = C 55 i) := by
  by_cases h : C 54 i < C 52 i ∨ C 54 i = C 52 i ∧ C 55 i < C 53 i
  · have e : nx C i = 14 := by unfold nx; rw [if_pos h]
    unfold due tur lof
    rw [e]
    simp [tdu, ttu]
    omega
  · have e : nx C i = 13 := by unfold nx; rw [if_neg h]
    unfold due tur lof
    rw [e]
    simp [tdu, ttu]
    omega
/-- among the jobs below i the timer of r comes next; none runs if r is -1 -/
def NDi (C : js) (i r : Int) : Prop := (r = -1 ∧ ∀ k, 0 ≤ k → k < i → due C k = 2147483647) ∨ ((0 ≤ r ∧ r < i) ∧ due C r ≠ 2147483647 ∧ ∀ k, 0 ≤ k → k < i → due C k ≠ 2147483647 → due C r < due C k ∨ due C r = due C k ∧ tur C r ≤ tur C k)
theorem NDi.zero : NDi C 0 (-1) := Or.inl ⟨rfl, fun k z1 z2 => by omega⟩
theorem NDi.rng {i r : Int} (h : NDi C i r) : -1 ≤ r ∧ (r < i ∨ r = -1) := by
  rcases h with h | h
  · omega
  · have := h.1; omega
theorem NDi.off {i r : Int} (h : NDi C i r) (hi : due C i = 2147483647) : NDi C (i + 1) r := by
  rcases h with ⟨h1, h2⟩ | ⟨h1, h2, h3⟩
  · refine Or.inl ⟨h1, fun k z1 z2 => ?_⟩
    by_cases hk : k = i
    · rw [hk]; exact hi
    · exact h2 k z1 (by omega)
  · refine Or.inr ⟨by omega, h2, fun k z1 z2 z3 => ?_⟩
    by_cases hk : k = i
    · rw [hk] at z3; exact absurd hi z3
    · exact h3 k z1 (by omega) z3
theorem NDi.skip {i r : Int} (h : NDi C i r) (hr : 0 ≤ r) (hn : ¬ (due C i < due C r ∨ due C i = due C r ∧ tur C i < tur C r)) : NDi C (i + 1) r := by
  rcases h with ⟨h1, h2⟩ | ⟨h1, h2, h3⟩
  · omega
  · refine Or.inr ⟨by omega, h2, fun k z1 z2 z3 => ?_⟩
    by_cases hk : k = i
    · rw [hk]; omega
    · exact h3 k z1 (by omega) z3
theorem NDi.take {i r : Int} (h : NDi C i r) (hi : 0 ≤ i) (ho : due C i ≠ 2147483647) (hn : r < 0 ∨ (due C i < due C r ∨ due C i = due C r ∧ tur C i < tur C r)) : NDi C (i + 1) i := by
  refine Or.inr ⟨by omega, ho, fun k z1 z2 z3 => ?_⟩
  by_cases hk : k = i
  · rw [hk]; omega
  · rcases h with ⟨h1, h2⟩ | ⟨h1, h2, h3⟩
    · exact absurd (h2 k z1 (by omega)) z3
    · have := h3 k z1 (by omega) z3
      omega
theorem Ag.tm (h : Ag C S) (hI : Iv S) (hB : Bd 100 S) {k : Int} (hk : 0 ≤ k ∧ k < S 1 0) : (0 ≤ S 29 k ∧ C 52 k = S 29 k ∧ (S 2 0 ≤ S 29 k ∧ S 29 k ≤ 2000000000) ∨ S 29 k < 0 ∧ C 52 k = 2147483647) ∧ ((0 ≤ S 31 k ∧ S 25 k = 0) ∧ C 54 k = S 31 k ∧ (S 2 0 ≤ S 31 k ∧ S 31 k ≤ 2000000000) ∨ (S 31 k < 0 ∨ S 25 k ≠ 0) ∧ C 54 k = 2147483647) ∧ (0 ≤ C 53 k ∧ C 53 k ≤ 2000000000) ∧ (0 ≤ C 55 k ∧ C 55 k ≤ 2000000000) ∧ 0 ≤ S 2 0 := by
  have a := (h.a3 k hk.1 hk.2).2.2
  have b := hI.tm.2 k hk.1 hk.2
  have b0 := hI.tm.1
  have c0 := h.a7.2.1 0 k (by omega) hk.1 hk.2
  have c1 := h.a7.2.1 1 k (by omega) hk.1 hk.2
  have c2 := h.a7.1
  unfold TJ at b
  unfold Bd at hB
  unfold trn at c0 c1
  simp only [if_true] at c0
  rw [if_neg (by omega)] at c1
  have c0 := c0.1
  have c1 := c1.1
  refine ⟨?_, ?_, by omega, by omega, by omega⟩
  · have a1 := a.1
    have b1 := b.2.1
    by_cases hn : S 29 k < 0
    · rw [if_pos hn] at a1
      exact Or.inr ⟨hn, a1⟩
    · rw [if_neg hn] at a1
      have := b1 (by omega)
      exact Or.inl ⟨by omega, a1, by omega, by omega⟩
  · have a2 := a.2
    have b2 := b.2.2.2
    by_cases hn : S 31 k < 0 ∨ S 25 k ≠ 0
    · rw [if_pos hn] at a2
      exact Or.inr ⟨hn, a2⟩
    · rw [if_neg hn] at a2
      have := b2 (by omega)
      exact Or.inl ⟨by omega, a2, this.2.1 (by omega), by omega⟩
theorem Ag.tj (h : Ag C S) (hI : Iv S) (hB : Bd 100 S) : Tj C := fun k z1 z2 => by
  have hC1 : C 1 0 = S 1 0 := h.a1 1 0 (by unfold cm; omega)
  have := h.tm hI hB (k := k) ⟨z1, by rw [← hC1]; exact z2⟩
  omega
/-- the earliest time, as the reference finds it -/
theorem zeL_s (hp : ∀ k, 0 ≤ k → k < S 1 0 → -1 ≤ S 29 k ∧ -1 ≤ S 31 k) : ∀ (n : Nat) (k t : Int), 0 ≤ k → -1 ≤ t → S 1 0 ≤ k + n → (∀ i, k ≤ i → i < S 1 0 → (0 ≤ S 29 i → 0 ≤ zeL S n k t ∧ zeL S n k t ≤ S 29 i) ∧ (0 ≤ S 31 i → S 25 i = 0 → 0 ≤ zeL S n k t ∧ zeL S n k t ≤ S 31 i)) ∧ (0 ≤ t → 0 ≤ zeL S n k t ∧ zeL S n k t ≤ t) ∧ (zeL S n k t = t ∨ 0 ≤ zeL S n k t ∧ ∃ i, (0 ≤ i ∧ i < S 1 0) ∧ (S 29 i = zeL S n k t ∨ S 31 i = zeL S n k t ∧ S 25 i = 0))
  | 0, k, t, h0, ht, hn => ⟨fun i z1 z2 => by omega, fun z => ⟨z, Int.le_refl _⟩, Or.inl rfl⟩
  | n + 1, k, t, h0, ht, hn => by
    rw [zeL]
    split
    · rename_i hk
      have hpk := hp k h0 hk
      have h1 : -1 ≤ ze2 S k (ze1 S k t) ∧ (0 ≤ t → 0 ≤ ze2 S k (ze1 S k t) ∧ ze2 S k (ze1 S k t) ≤ t) ∧ (0 ≤ S 29 k → 0 ≤ ze2 S k (ze1 S k t) ∧ ze2 S k (ze1 S k t) ≤ S 29 k) ∧ (0 ≤ S 31 k → S 25 k = 0 → 0 ≤ ze2 S k (ze1 S k t) ∧ ze2 S k (ze1 S k t) ≤ S 31 k) ∧ (ze2 S k (ze1 S k t) = t ∨ 0 ≤ ze2 S k (ze1 S k t) ∧ (S 29 k = ze2 S k (ze1 S k t) ∨ S 31 k = ze2 S k (ze1 S k t) ∧ S 25 k = 0)) := by
        unfold ze2 ze1
        split <;> split <;> omega
      generalize ze2 S k (ze1 S k t) = u at h1
      obtain ⟨a1, a2, a3, a4, a5⟩ := h1
      obtain ⟨b1, b2, b3⟩ := zeL_s hp n (k + 1) u (by omega) a1 (by omega)
      generalize zeL S n (k + 1) u = r at b1 b2 b3
      refine ⟨fun i z1 z2 => ?_, fun z => ?_, ?_⟩
      · by_cases hi : i = k
        · subst hi
          exact ⟨fun y => by have := a3 y; have := b2 this.1; omega, fun y1 y2 => by have := a4 y1 y2; have := b2 this.1; omega⟩
        · exact b1 i (by omega) z2
      · have := a2 z
        have := b2 this.1
        omega
      · rcases b3 with b3 | b3
        · rw [b3]
          rcases a5 with a5 | a5
          · exact Or.inl a5
          · exact Or.inr ⟨a5.1, k, ⟨h0, hk⟩, a5.2⟩
        · exact Or.inr b3
    · rename_i hk
      exact ⟨fun i z1 z2 => by omega, fun z => ⟨z, Int.le_refl _⟩, Or.inl rfl⟩
theorem z_early (hI : Iv S) : (∀ i, 0 ≤ i → i < S 1 0 → (0 ≤ S 29 i → 0 ≤ z_earliest S ∧ z_earliest S ≤ S 29 i) ∧ (0 ≤ S 31 i → S 25 i = 0 → 0 ≤ z_earliest S ∧ z_earliest S ≤ S 31 i)) ∧ (z_earliest S = -1 ∨ 0 ≤ z_earliest S ∧ ∃ i, (0 ≤ i ∧ i < S 1 0) ∧ (S 29 i = z_earliest S ∨ S 31 i = z_earliest S ∧ S 25 i = 0)) := by
  have := zeL_s (S := S) (fun k z1 z2 => by have a := hI.tm.2 k z1 z2; unfold TJ at a; omega) 25 0 (-1) (by omega) (by omega) (by have := hI.J; omega)
  exact ⟨this.1, this.2.2⟩
theorem ND.none (h : Ag C S) (hI : Iv S) (hB : Bd 100 S) {r : Int} (hN : NDi C (S 1 0) r) (hr : r < 0) : z_earliest S < 0 := by
  rcases hN with ⟨_, hN⟩ | ⟨hN, _⟩
  · rcases (z_early hI).2 with e | ⟨e0, i, hi, e⟩
    · omega
    · have a := h.tm hI hB hi
      have b := (nx_min C i).1
      have c := hN i hi.1 hi.2
      omega
  · omega
theorem ND.early (h : Ag C S) (hI : Iv S) (hB : Bd 100 S) {r : Int} (hN : NDi C (S 1 0) r) (hr : 0 ≤ r) : r < S 1 0 ∧ due C r = z_earliest S ∧ (S 2 0 ≤ due C r ∧ due C r ≤ 2000000000) := by
  rcases hN with ⟨hN, _⟩ | ⟨h1, h2, h3⟩
  · omega
  · have a := h.tm hI hB h1
    have b := (nx_min C r).2.2.2
    have z1 := (z_early hI).1 r h1.1 h1.2
    have key : z_earliest S ≤ due C r ∧ 0 ≤ z_earliest S ∧ S 2 0 ≤ due C r ∧ due C r ≤ 2000000000 := by omega
    refine ⟨h1.2, ?_, by omega, by omega⟩
    rcases (z_early hI).2 with e | ⟨e0, i, hi, e⟩
    · omega
    · have a' := h.tm hI hB hi
      have b' := (nx_min C i).1
      have c' := h3 i hi.1 hi.2
      omega
/-- the timer of r is the reference's, if it is due now -/
theorem ND.dm (h : Ag C S) (hI : Iv S) (hB : Bd 100 S) {r t : Int} (hN : NDi C (S 1 0) r) (hr : 0 ≤ r) (ht : due C r = t) (e : ∀ f i, f ≠ 2 → T f i = S f i) (e2 : T 2 0 = t) : DM T r (lof C r) := by
  rcases hN with ⟨hN, _⟩ | ⟨h1, h2, h3⟩
  · omega
  · have a := h.tm hI hB h1
    have b := (nx_min C r).2.2.2
    have hl : lof C r = 0 ∨ lof C r = 1 := by omega
    have hrun : rnn S (lof C r) r := by
      unfold rnn
      rcases b with b | b
      · rw [if_pos b.2.1]; omega
      · rw [if_neg (by omega)]; omega
    have htr : trn C (lof C r) r = tur C r := by
      unfold trn
      rcases b with b | b
      · rw [if_pos b.2.1]; omega
      · rw [if_neg (by omega)]; omega
    refine ⟨by rw [e 1 0 (by decide)]; exact h1, ?_, fun k z1 z2 => ?_⟩
    · rw [e 29 r (by decide), e 31 r (by decide), e 25 r (by decide), e2]
      omega
    · rw [e 1 0 (by decide)] at z2
      have ak := h.tm hI hB (k := k) ⟨z1, z2⟩
      have bk := nx_min C k
      have ck := h3 k z1 z2
      have hsn : snc T r (lof C r) = snc S r (lof C r) := by
        unfold snc
        rw [e 30 r (by decide), e 32 r (by decide)]
      rw [hsn, e 29 k (by decide), e 31 k (by decide), e 25 k (by decide), e 30 k (by decide), e 32 k (by decide), e2]
      have q : ∀ l', (l' = 0 ∨ l' = 1) → rnn S l' k → tur C r ≤ trn C l' k → k = r ∧ lof C r = l' ∨ snc S r (lof C r) < snc S k l' := by
        intro l' hl' hr' hle
        have A := h.a7.2.2 (lof C r) r l' k hl hl' h1.1 h1.2 z1 z2 hrun hr'
        rw [htr] at A
        by_cases heq : tur C r = trn C l' k
        · have := A.2 heq
          exact Or.inl ⟨this.2.symm, this.1⟩
        · exact Or.inr (A.1.1 (by omega))
      constructor
      · intro y
        have q0 := q 0 (by omega) (by unfold rnn; rw [if_pos rfl]; omega) (by unfold trn; rw [if_pos rfl]; omega)
        unfold snc at q0 ⊢
        simp only [if_true] at q0
        exact q0
      · intro y1 y2
        have q1 := q 1 (by omega) (by unfold rnn; rw [if_neg (by omega)]; omega) (by unfold trn; rw [if_neg (by omega)]; omega)
        have e10 : ¬ ((1 : Int) = 0) := by omega
        unfold snc at q1 ⊢
        simp only [if_neg e10] at q1
        exact q1
/-- nothing is due now -/
theorem ND.dn (h : Ag C S) (hI : Iv S) (hB : Bd 100 S) {r : Int} (hN : NDi C (S 1 0) r) (hr : r < 0 ∨ due C r ≠ S 2 0) : DN S := by
  intro k z1 z2
  have ak := h.tm hI hB (k := k) ⟨z1, z2⟩
  have bk := nx_min C k
  rcases hN with ⟨h0, hN⟩ | ⟨h1, h2, h3⟩
  · have := hN k z1 z2
    omega
  · have a := h.tm hI hB h1
    have b := (nx_min C r).2.2.2
    have ck := h3 k z1 z2
    omega
theorem z_fire_ok {c l : Int} (h : Rt m S) (hD : DM S c l) : Rt m (z_fire S c l) ∧ z_fire S c l 2 0 = S 2 0 ∧ Tq S (z_fire S c l) ∧ zcT (z_fire S c l) 25 0 + 1 ≤ zcT S 25 0 := by
  obtain ⟨hI, hE, hB⟩ := h
  obtain ⟨hc, hd, _⟩ := hD
  have hJ := hI.J
  have h2 := hI.tm.1
  have hg := (hI.gd.2.1 c hc.1 hc.2).2.2.1
  unfold z_fire
  by_cases hl : l = 0
  · rw [if_pos hl]
    have hw := (hI.wt c hc.1 hc.2).2.2.2.2.2.2.2.2.2
    have h26 : S 26 c = 1 := by omega
    have e := (z_putReady_e (S := S) (k := c) (x := -1)).1
    have e29 := (z_putReady_e (S := S) (k := c) (x := -1)).2.2.1
    have hq : Tq S (z_putReady S c (-1)) := Tq.ready
    refine ⟨⟨hI.ready hc (hI.gd.2.2.nr (by omega)) ((hI.wt c hc.1 hc.2).2.1 (by omega)).1 (by omega) (by omega), hE.cg fun f i hf => e f i (by omega) (by omega) (by omega) (by omega) (by omega), hB.cg fun f i hf => e f i (by omega) (by omega) (by omega) (by omega) (by omega)⟩, e 2 0 (by decide) (by decide) (by decide) (by decide) (by decide), hq, zcT_lt hq hc.2 (Or.inl ⟨by rw [e29, if_pos rfl]; omega, by omega⟩) 25 0 hc.1 (by omega)⟩
  · rw [if_neg hl]
    have h1 : Iv (up S 31 c (-1)) := hI.limit
    have hq1 : Tq S (up S 31 c (-1)) := by
      refine ⟨up_f (by decide), fun i => ?_⟩
      rw [up_f (show (29 : Nat) ≠ 31 by decide), up_f (show (25 : Nat) ≠ 31 by decide)]
      refine ⟨id, fun z => ?_⟩
      by_cases hi : i = c
      · rw [hi, up_s] at z; omega
      · rw [up_i hi] at z; exact z
    have hc1 : 0 ≤ c ∧ c < up S 31 c (-1) 1 0 := by rw [up_f (by decide)]; exact hc
    split
    · obtain ⟨GI, GG⟩ := z_give_ok h1 (j := c) (x := 98) hc1 (by omega)
      have e : ∀ f i, (f = 1 ∨ f = 2 ∨ f = 3 ∨ f = 6 ∨ f = 21 ∨ f = 24) → z_give (up S 31 c (-1)) c 98 f i = S f i := fun f i hf => by rw [GG.1 f i (by omega) (by omega) (by omega) (by omega) (by omega) (by omega) (by omega), up_f (by omega)]
      have hq := hq1.tr (Tq.give (x := 98) hc1)
      have e31 : z_give (up S 31 c (-1)) c 98 31 c = -1 := by rw [GG.1 31 c (by omega) (by omega) (by omega) (by omega) (by omega) (by omega) (by omega), up_s]
      exact ⟨⟨GI, hE.cg fun f i hf => e f i (by omega), hB.cg fun f i hf => e f i (by omega)⟩, e 2 0 (by omega), hq, zcT_lt hq hc.2 (Or.inr ⟨Or.inl (by omega), by omega, by omega⟩) 25 0 hc.1 (by omega)⟩
    · exact ⟨⟨h1, hE.cg fun f i hf => up_f (by omega), hB.cg fun f i hf => up_f (by omega)⟩, up_f (by decide), hq1, zcT_lt hq1 hc.2 (Or.inr ⟨Or.inl (by rw [up_s]; omega), by omega, by omega⟩) 25 0 hc.1 (by omega)⟩
/-- the clock goes on to the timer of r -/
theorem Rt.clock (h : Ag C S) (hR : Rt (m + 50) S) (hm : 100 ≤ m) {r : Int} (hN : NDi C (S 1 0) r) (hr : 0 ≤ r) : Rt m (up S 2 0 (z_earliest S)) ∧ Tq S (up S 2 0 (z_earliest S)) := by
  obtain ⟨hI, hE, hB⟩ := hR
  have hz := zeL_ge (m := 0) hI 25 0 (-1) (by omega) (by omega) (by have := hI.tm.1; omega)
  have he := ND.early h hI (hB.le (by omega)) hN hr
  have ea := (z_early hI).1
  refine ⟨⟨hI.clock (by omega) (fun k z1 z2 => ⟨fun y => ((ea k z1 z2).1 y).2, fun y1 y2 => ((ea k z1 z2).2 y1 y2).2⟩), hE.cg fun f i hf => up_f (by omega), ?_⟩, Tq.cg fun f i hf => up_f (by omega)⟩
  have hz2 : z_earliest S ≤ S 2 0 + 50 := hz.2
  unfold Bd at hB ⊢
  rw [up_s, up_f (by decide), up_f (by decide)]
  omega
end SW
