/-! agreement: becoming ready, waiting, being taken from the row, timers -/
section AH
variable {S T C D : js}
theorem c_ready_e {j x : Int} : (∀ f i, f ≠ 50 → f ≠ 51 → f ≠ 52 → f ≠ 23 → f ≠ 59 → f ≠ 61 → c_ready C j x f i = C f i) ∧ (∀ i, c_ready C j x 50 i = if i = j then -1 else C 50 i) ∧ (∀ i, c_ready C j x 51 i = if i = j then -1 else C 51 i) ∧ (∀ i, c_ready C j x 52 i = if i = j then 2147483647 else C 52 i) ∧ (∀ i, c_ready C j x 23 i = if i = j then x else C 23 i) ∧ (∀ i, c_ready C j x 59 i = if i = (C 60 0 + C 61 0) % 24 then j else C 59 i) ∧ c_ready C j x 61 0 = C 61 0 + 1 := by
  refine ⟨fun f i z1 z2 z3 z4 z5 z6 => ?_, fun i => ?_, fun i => ?_, fun i => ?_, fun i => ?_, fun i => ?_, ?_⟩ <;> simp_all [c_ready, c_add, up]
theorem z_putReady_e {k x : Int} : (∀ f i, f ≠ 26 → f ≠ 29 → f ≠ 23 → f ≠ 38 → f ≠ 7 → z_putReady S k x f i = S f i) ∧ (∀ i, z_putReady S k x 26 i = if i = k then 0 else S 26 i) ∧ (∀ i, z_putReady S k x 29 i = if i = k then -1 else S 29 i) ∧ (∀ i, z_putReady S k x 23 i = if i = k then x else S 23 i) ∧ (∀ i, z_putReady S k x 38 i = if i = S 7 0 then k else S 38 i) ∧ z_putReady S k x 7 0 = S 7 0 + 1 := by
  refine ⟨fun f i z1 z2 z3 z4 z5 => ?_, fun i => ?_, fun i => ?_, fun i => ?_, fun i => ?_, ?_⟩ <;> simp_all [z_putReady, up]
theorem Ag.ready (h : Ag C S) {j x : Int} (hq : 0 ≤ S 7 0 ∧ S 7 0 < 24) : Ag (c_ready C j x) (z_putReady S j x) := by
  obtain ⟨c0, c50, c51, c52, c23, c59, c61⟩ := c_ready_e (C := C) (j := j) (x := x)
  obtain ⟨e0, e26, e29, e23, e38, e7⟩ := z_putReady_e (S := S) (k := j) (x := x)
  have a5 := h.a5
  refine ⟨fun f i hf => ?_, h.a2.cg fun f i hf => e0 f i (by omega) (by omega) (by omega) (by omega) (by omega), fun i z1 z2 => ?_, h.a3o.cg (fun f i hf => e0 f i (by omega) (by omega) (by omega) (by omega) (by omega)) (fun f i hf => c0 f i (by omega) (by omega) (by omega) (by omega) (by omega) (by omega)), h.a4.cg (fun f i hf => e0 f i (by omega) (by omega) (by omega) (by omega) (by omega)) (fun f i hf => c0 f i (by omega) (by omega) (by omega) (by omega) (by omega) (by omega)), ?_, ⟨?_, fun l i hl z1 z2 => ?_, fun l i l' i' hl hl' z1 z2 z3 z4 r1 r2 => ?_⟩⟩
  · have h1 := h.a1 f i hf
    unfold cm at hf
    by_cases h23 : f = 23
    · subst h23; rw [c23, e23, h1]
    · rw [c0 f i (by omega) (by omega) (by omega) (by omega) (by omega) (by omega), e0 f i (by omega) (by omega) (by omega) (by omega) (by omega)]
      exact h1
  · rw [e0 1 0 (by omega) (by omega) (by omega) (by omega) (by omega)] at z2
    have a := h.a3 i z1 z2
    unfold AW at a ⊢
    rw [c50, c51, c52, c0 54 i (by omega) (by omega) (by omega) (by omega) (by omega) (by omega), e26, e29, e0 27 i (by omega) (by omega) (by omega) (by omega) (by omega), e0 31 i (by omega) (by omega) (by omega) (by omega) (by omega), e0 25 i (by omega) (by omega) (by omega) (by omega) (by omega)]
    by_cases hi : i = j
    · simp only [if_pos hi]
      exact ⟨by simp, by simp, by simp, a.2.2.2⟩
    · simp only [if_neg hi]
      exact a
  · unfold A5 at a5 ⊢
    obtain ⟨b1, b2, b3⟩ := a5
    rw [c61, e7, c0 60 0 (by omega) (by omega) (by omega) (by omega) (by omega) (by omega)]
    refine ⟨by omega, b2, fun i z1 z2 => ?_⟩
    rw [c59, e38]
    by_cases hi : i = S 7 0
    · rw [if_pos (by omega), if_pos hi]
    · rw [if_neg (by omega), if_neg hi]
      exact b3 i z1 (by omega)
  · rw [c0 58 0 (by omega) (by omega) (by omega) (by omega) (by omega) (by omega), e0 6 0 (by omega) (by omega) (by omega) (by omega) (by omega)]
    exact h.a7.1
  · rw [e0 1 0 (by omega) (by omega) (by omega) (by omega) (by omega)] at z2
    have a := h.a7.2.1 l i hl z1 z2
    unfold trn rnn at a ⊢
    rw [c0 53 i (by omega) (by omega) (by omega) (by omega) (by omega) (by omega), c0 55 i (by omega) (by omega) (by omega) (by omega) (by omega) (by omega), c0 58 0 (by omega) (by omega) (by omega) (by omega) (by omega) (by omega), e29, e0 31 i (by omega) (by omega) (by omega) (by omega) (by omega), e0 25 i (by omega) (by omega) (by omega) (by omega) (by omega)]
    refine ⟨a.1, fun r => a.2 ?_⟩
    split
    · rename_i hl0
      rw [if_pos hl0] at r
      split at r <;> omega
    · rename_i hl0
      rw [if_neg hl0] at r
      exact r
  · rw [e0 1 0 (by omega) (by omega) (by omega) (by omega) (by omega)] at z2 z4
    have key : ∀ l i, rnn (z_putReady S j x) l i → rnn S l i := by
      intro l i r
      unfold rnn at r ⊢
      rw [e29, e0 31 i (by omega) (by omega) (by omega) (by omega) (by omega), e0 25 i (by omega) (by omega) (by omega) (by omega) (by omega)] at r
      split
      · rename_i hl0
        rw [if_pos hl0] at r
        split at r <;> omega
      · rename_i hl0
        rw [if_neg hl0] at r
        exact r
    have a := h.a7.2.2 l i l' i' hl hl' z1 z2 z3 z4 (key l i r1) (key l' i' r2)
    unfold trn snc at a ⊢
    simp only [c0 53 _ (by omega) (by omega) (by omega) (by omega) (by omega) (by omega), c0 55 _ (by omega) (by omega) (by omega) (by omega) (by omega) (by omega), e0 30 _ (by omega) (by omega) (by omega) (by omega) (by omega), e0 32 _ (by omega) (by omega) (by omega) (by omega) (by omega)]
    exact a
/-- the LIMIT of j no longer runs -/
theorem Ag.stop (h : Ag C S) {j : Int} : Ag (up C 54 j 2147483647) (up S 31 j (-1)) := by
  refine ⟨(h.a1.l (by unfold cm; omega) j _).r (by unfold cm; omega) j _, h.a2.cg fun f' i' hf' => up_f (by omega), fun i z1 z2 => ?_, h.a3o.cg (fun f' i' hf' => up_f (by omega)) (fun f' i' hf' => up_f (by omega)), h.a4.cg (fun f' i' hf' => up_f (by omega)) (fun f' i' hf' => up_f (by omega)), h.a5.cg (fun f' i' hf' => up_f (by omega)) (fun f' i' hf' => up_f (by omega)), ⟨?_, fun l i hl z1 z2 => ?_, fun l i l' i' hl hl' z1 z2 z3 z4 r1 r2 => ?_⟩⟩
  · rw [up_f (by omega)] at z2
    have a := h.a3 i z1 z2
    unfold AW at a ⊢
    have e1 : up C 54 j 2147483647 54 i = if i = j then 2147483647 else C 54 i := by simp [up]
    have e2 : up S 31 j (-1) 31 i = if i = j then -1 else S 31 i := by simp [up]
    rw [e1, e2]
    simp only [up_f (show (50 : Nat) ≠ 54 by decide), up_f (show (51 : Nat) ≠ 54 by decide), up_f (show (52 : Nat) ≠ 54 by decide), up_f (show (26 : Nat) ≠ 31 by decide), up_f (show (27 : Nat) ≠ 31 by decide), up_f (show (29 : Nat) ≠ 31 by decide), up_f (show (25 : Nat) ≠ 31 by decide)]
    refine ⟨a.1, a.2.1, a.2.2.1, ?_⟩
    by_cases hi : i = j
    · simp [hi]
    · simp only [if_neg hi]; exact a.2.2.2
  · rw [up_f (by decide), up_f (by decide)]
    exact h.a7.1
  · rw [up_f (by omega)] at z2
    have a := h.a7.2.1 l i hl z1 z2
    unfold trn rnn at a ⊢
    rw [up_f (show (53 : Nat) ≠ 54 by decide), up_f (show (55 : Nat) ≠ 54 by decide), up_f (show (58 : Nat) ≠ 54 by decide), up_f (show (29 : Nat) ≠ 31 by decide), up_f (show (25 : Nat) ≠ 31 by decide)]
    refine ⟨a.1, fun r => a.2 ?_⟩
    split
    · rename_i hl0
      rw [if_pos hl0] at r
      exact r
    · rename_i hl0
      rw [if_neg hl0] at r
      have e2 : up S 31 j (-1) 31 i = if i = j then -1 else S 31 i := by simp [up]
      rw [e2] at r
      split at r <;> omega
  · rw [up_f (by omega)] at z2 z4
    have key : ∀ l i, rnn (up S 31 j (-1)) l i → rnn S l i := by
      intro l i r
      unfold rnn at r ⊢
      rw [up_f (show (29 : Nat) ≠ 31 by decide), up_f (show (25 : Nat) ≠ 31 by decide)] at r
      split
      · rename_i hl0
        rw [if_pos hl0] at r
        exact r
      · rename_i hl0
        rw [if_neg hl0] at r
        have e2 : up S 31 j (-1) 31 i = if i = j then -1 else S 31 i := by simp [up]
        rw [e2] at r
        split at r <;> omega
    have a := h.a7.2.2 l i l' i' hl hl' z1 z2 z3 z4 (key l i r1) (key l' i' r2)
    unfold trn snc at a ⊢
    simp only [up_f (show (53 : Nat) ≠ 54 by decide), up_f (show (55 : Nat) ≠ 54 by decide), up_f (show (30 : Nat) ≠ 31 by decide), up_f (show (32 : Nat) ≠ 31 by decide)]
    exact a
theorem A2.w27 (h : A2 S) {j : Int} (hj : 0 ≤ j ∧ j < S 1 0) (e : ∀ f i, (f = 1 ∨ f = 18 ∨ f = 20 ∨ f = 24 ∨ f = 25) → T f i = S f i) (e27 : ∀ i, i ≠ j → T 27 i = S 27 i) : A2 T := fun i hi => by
  rw [e 1 0 (by omega)] at hi
  have := h i hi
  rw [e 18 i (by omega), e 20 i (by omega), e 24 i (by omega), e 25 i (by omega), e27 i (by omega)]
  exact this
/-- a timer begins: its turn and its since are the last ones -/
theorem A7.new (h : A7 C S) {l0 j0 : Int} (hl0 : l0 = 0 ∨ l0 = 1) (hj0 : 0 ≤ j0 ∧ j0 < S 1 0) (hs : ∀ l i, (l = 0 ∨ l = 1) → 0 ≤ i → i < S 1 0 → rnn S l i → snc S i l < S 6 0) (e1 : T 1 0 = S 1 0) (e6 : T 6 0 = S 6 0 + 1) (e58 : D 58 0 = C 58 0 + 1)
    (ht : ∀ l i, (l = 0 ∨ l = 1) → trn D l i = if l = l0 ∧ i = j0 then C 58 0 else trn C l i) (hr : ∀ l i, (l = 0 ∨ l = 1) → ¬ (l = l0 ∧ i = j0) → rnn T l i → rnn S l i) (hc : ∀ l i, (l = 0 ∨ l = 1) → snc T i l = if l = l0 ∧ i = j0 then S 6 0 else snc S i l) : A7 D T := by
  have h1 := h.1
  refine ⟨by omega, fun l i hl z1 z2 => ?_, fun l i l' i' hl hl' z1 z2 z3 z4 r1 r2 => ?_⟩
  · rw [e1] at z2
    have a := h.2.1 l i hl z1 z2
    rw [ht l i hl, e58]
    split
    · exact ⟨by omega, fun _ => by omega⟩
    · exact ⟨by omega, fun _ => by omega⟩
  · rw [e1] at z2 z4
    rw [ht l i hl, ht l' i' hl', hc l i hl, hc l' i' hl']
    by_cases b1 : l = l0 ∧ i = j0
    · by_cases b2 : l' = l0 ∧ i' = j0
      · simp only [if_pos b1, if_pos b2]
        exact ⟨by omega, fun _ => by omega⟩
      · simp only [if_pos b1, if_neg b2]
        have s2 := hr l' i' hl' b2 r2
        have a := (h.2.1 l' i' hl' z3 z4).2 s2
        have a2 := hs l' i' hl' z3 z4 s2
        exact ⟨by omega, fun _ => by omega⟩
    · have s1 := hr l i hl b1 r1
      have a := (h.2.1 l i hl z1 z2).2 s1
      have a2 := hs l i hl z1 z2 s1
      by_cases b2 : l' = l0 ∧ i' = j0
      · simp only [if_neg b1, if_pos b2]
        exact ⟨by omega, fun _ => by omega⟩
      · simp only [if_neg b1, if_neg b2]
        exact h.2.2 l i l' i' hl hl' z1 z2 z3 z4 s1 (hr l' i' hl' b2 r2)
theorem A7.began (h : A7 C S) (e1 : T 1 0 = S 1 0) (e6 : T 6 0 = S 6 0 + 1) (e : ∀ f i, (f = 25 ∨ f = 29 ∨ f = 30 ∨ f = 31 ∨ f = 32) → T f i = S f i) (c : ∀ f i, (f = 53 ∨ f = 55 ∨ f = 58) → D f i = C f i) : A7 D T := by
  have e3 := fun i => e 25 i (by omega)
  have e4 := fun i => e 29 i (by omega)
  have e5 := fun i => e 30 i (by omega)
  have e7 := fun i => e 31 i (by omega)
  have e8 := fun i => e 32 i (by omega)
  have c1 := fun i => c 53 i (by omega)
  have c2 := fun i => c 55 i (by omega)
  have c3 := fun i => c 58 i (by omega)
  unfold A7 trn rnn snc at h ⊢
  simp only [e1, e3, e4, e5, e6, e7, e8, c1, c2, c3]
  exact ⟨⟨h.1.1, by have := h.1.2; omega⟩, h.2⟩
theorem Iv.sn (h : Iv S) : ∀ l i, (l = 0 ∨ l = 1) → 0 ≤ i → i < S 1 0 → rnn S l i → snc S i l < S 6 0 := by
  intro l i hl z1 z2 r
  have a := h.tm.2 i z1 z2
  unfold TJ at a
  unfold rnn at r
  unfold snc
  rcases hl with rfl | rfl
  · simp at r ⊢; omega
  · simp at r ⊢; omega
/-- j waits in a DELAY of a -/
theorem Ag.delay (h : Ag C S) (hI : Iv S) {j a : Int} (hj : 0 ≤ j ∧ j < S 1 0) (h26 : S 26 j = 0) (ha : 0 ≤ a) : Ag (c_timer (up C 50 j 1) 13 j a) (z_waitIn (up (up S 29 j (S 2 0 + a)) 30 j (S 6 0)) j 1 (-1)) := by
  have e2 : C 2 0 = S 2 0 := h.a1 2 0 (by unfold cm; omega)
  have hw := h.a3 j hj.1 hj.2
  have h2 := hI.tm.1
  have eo : ∀ f i, f ≠ 26 → f ≠ 27 → f ≠ 28 → f ≠ 6 → f ≠ 10 → f ≠ 29 → f ≠ 30 → z_waitIn (up (up S 29 j (S 2 0 + a)) 30 j (S 6 0)) j 1 (-1) f i = S f i := fun f i z1 z2 z3 z4 z5 z6 z7 => by simp [z_waitIn, up, z1, z2, z3, z4, z5, z6, z7]
  have co : ∀ f i, f ≠ 50 → f ≠ 52 → f ≠ 53 → f ≠ 58 → c_timer (up C 50 j 1) 13 j a f i = C f i := fun f i z1 z2 z3 z4 => by simp [c_timer, tdu, ttu, up, z1, z2, z3, z4]
  refine ⟨fun f i hf => ?_, h.a2.w27 hj (fun f i hf => eo f i (by omega) (by omega) (by omega) (by omega) (by omega) (by omega) (by omega)) (fun i hi => by simp [z_waitIn, up, hi]), fun i z1 z2 => ?_, h.a3o.cg (fun f i hf => eo f i (by omega) (by omega) (by omega) (by omega) (by omega) (by omega) (by omega)) (fun f i hf => co f i (by omega) (by omega) (by omega) (by omega)), h.a4.cg (fun f i hf => eo f i (by omega) (by omega) (by omega) (by omega) (by omega) (by omega) (by omega)) (fun f i hf => co f i (by omega) (by omega) (by omega) (by omega)), h.a5.cg (fun f i hf => eo f i (by omega) (by omega) (by omega) (by omega) (by omega) (by omega) (by omega)) (fun f i hf => co f i (by omega) (by omega) (by omega) (by omega)), h.a7.new (l0 := 0) (j0 := j) (by omega) hj hI.sn (eo 1 0 (by omega) (by omega) (by omega) (by omega) (by omega) (by omega) (by omega)) (by simp [z_waitIn, up]) (by simp [c_timer, tdu, ttu, up]) (fun l i hl => ?_) (fun l i hl hn r => ?_) (fun l i hl => ?_)⟩
  · have h1 := h.a1 f i hf
    unfold cm at hf
    rw [co f i (by omega) (by omega) (by omega) (by omega), eo f i (by omega) (by omega) (by omega) (by omega) (by omega) (by omega) (by omega)]
    exact h1
  · rw [eo 1 0 (by omega) (by omega) (by omega) (by omega) (by omega) (by omega) (by omega)] at z2
    have a3 := h.a3 i z1 z2
    unfold AW at a3 ⊢
    rw [co 51 i (by omega) (by omega) (by omega) (by omega), co 54 i (by omega) (by omega) (by omega) (by omega), eo 31 i (by omega) (by omega) (by omega) (by omega) (by omega) (by omega) (by omega), eo 25 i (by omega) (by omega) (by omega) (by omega) (by omega) (by omega) (by omega)]
    by_cases hi : i = j
    · subst hi
      have h51 : C 51 i = -1 := by have := a3.2.1; simpa [h26] using this
      have q1 : c_timer (up C 50 i 1) 13 i a 50 i = 1 := by simp [c_timer, tdu, ttu, up]
      have q2 : c_timer (up C 50 i 1) 13 i a 52 i = S 2 0 + a := by simp [c_timer, tdu, ttu, up, e2]
      have q3 : z_waitIn (up (up S 29 i (S 2 0 + a)) 30 i (S 6 0)) i 1 (-1) 26 i = 1 := by simp [z_waitIn, up]
      have q4 : z_waitIn (up (up S 29 i (S 2 0 + a)) 30 i (S 6 0)) i 1 (-1) 29 i = S 2 0 + a := by simp [z_waitIn, up]
      rw [q1, q2, q3, q4, h51]
      refine ⟨by omega, by simp, ?_, a3.2.2.2⟩
      rw [if_neg (by omega)]
    · simp only [c_timer, z_waitIn, tdu, ttu, up]
      simp [hi]
      exact a3
  · rcases hl with rfl | rfl <;> simp [trn, c_timer, tdu, ttu, up]
  · unfold rnn at r ⊢
    rcases hl with rfl | rfl
    · have hi : i ≠ j := fun e => hn ⟨rfl, e⟩
      simpa [z_waitIn, up, hi] using r
    · simpa [z_waitIn, up] using r
  · rcases hl with rfl | rfl <;> simp [snc, z_waitIn, up]
/-- j waits for o, in x (AWAIT, JOIN) -/
theorem Ag.await (h : Ag C S) {j x o : Int} (hj : 0 ≤ j ∧ j < S 1 0) (hx : x = 4 ∨ x = 5) : Ag (up (up C 50 j x) 51 j o) (z_waitIn S j x o) := by
  have eo : ∀ f i, f ≠ 26 → f ≠ 27 → f ≠ 28 → f ≠ 6 → f ≠ 10 → z_waitIn S j x o f i = S f i := fun f i z1 z2 z3 z4 z5 => by simp [z_waitIn, up, z1, z2, z3, z4, z5]
  have co : ∀ f i, f ≠ 50 → f ≠ 51 → up (up C 50 j x) 51 j o f i = C f i := fun f i z1 z2 => by simp [up, z1, z2]
  refine ⟨fun f i hf => ?_, h.a2.w27 hj (fun f i hf => eo f i (by omega) (by omega) (by omega) (by omega) (by omega)) (fun i hi => by simp [z_waitIn, up, hi]), fun i z1 z2 => ?_, h.a3o.cg (fun f i hf => eo f i (by omega) (by omega) (by omega) (by omega) (by omega)) (fun f i hf => co f i (by omega) (by omega)), h.a4.cg (fun f i hf => eo f i (by omega) (by omega) (by omega) (by omega) (by omega)) (fun f i hf => co f i (by omega) (by omega)), h.a5.cg (fun f i hf => eo f i (by omega) (by omega) (by omega) (by omega) (by omega)) (fun f i hf => co f i (by omega) (by omega)), h.a7.began (eo 1 0 (by omega) (by omega) (by omega) (by omega) (by omega)) (by simp [z_waitIn, up]) (fun f i hf => eo f i (by omega) (by omega) (by omega) (by omega) (by omega)) (fun f i hf => co f i (by omega) (by omega))⟩
  · have h1 := h.a1 f i hf
    unfold cm at hf
    rw [co f i (by omega) (by omega), eo f i (by omega) (by omega) (by omega) (by omega) (by omega)]
    exact h1
  · rw [eo 1 0 (by omega) (by omega) (by omega) (by omega) (by omega)] at z2
    have a3 := h.a3 i z1 z2
    unfold AW at a3 ⊢
    rw [co 52 i (by omega) (by omega), co 54 i (by omega) (by omega), eo 31 i (by omega) (by omega) (by omega) (by omega) (by omega), eo 25 i (by omega) (by omega) (by omega) (by omega) (by omega), eo 29 i (by omega) (by omega) (by omega) (by omega) (by omega)]
    refine ⟨?_, ?_, a3.2.2⟩
    · by_cases hi : i = j
      · have q1 : up (up C 50 j x) 51 j o 50 i = x := by simp [up, hi]
        have q2 : z_waitIn S j x o 26 i = x := by simp [z_waitIn, up, hi]
        rw [q1, q2]
        omega
      · have q1 : up (up C 50 j x) 51 j o 50 i = C 50 i := by simp [up, hi]
        have q2 : z_waitIn S j x o 26 i = S 26 i := by simp [z_waitIn, up, hi]
        rw [q1, q2]
        exact a3.1
    · by_cases hi : i = j
      · have q1 : up (up C 50 j x) 51 j o 51 i = o := by simp [up, hi]
        have q2 : z_waitIn S j x o 26 i = x := by simp [z_waitIn, up, hi]
        have q3 : z_waitIn S j x o 27 i = o := by simp [z_waitIn, up, hi]
        rw [q1, q2, q3, if_neg (by omega)]
      · have q1 : up (up C 50 j x) 51 j o 51 i = C 51 i := by simp [up, hi]
        have q2 : z_waitIn S j x o 26 i = S 26 i := by simp [z_waitIn, up, hi]
        have q3 : z_waitIn S j x o 27 i = S 27 i := by simp [z_waitIn, up, hi]
        rw [q1, q2, q3]
        exact a3.2.1
end AH
