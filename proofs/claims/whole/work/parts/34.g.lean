/-! agreement: SCOPE, SUPERVISOR, LIMIT; a job is FINISHED -/
section AK
variable {S T C D : js}
/-- j waits for o: the class in x, the reference in y -/
theorem Ag.await2 (h : Ag C S) {j x y o : Int} (hj : 0 ≤ j ∧ j < S 1 0) (hx : (y = 4 ∨ y = 5) ∧ x = y ∨ y = 8 ∧ 8 ≤ x ∧ x ≤ 10) (h7 : A7 (up (up C 50 j x) 51 j o) (z_waitIn S j y o)) : Ag (up (up C 50 j x) 51 j o) (z_waitIn S j y o) := by
  have eo : ∀ f i, f ≠ 26 → f ≠ 27 → f ≠ 28 → f ≠ 6 → f ≠ 10 → z_waitIn S j y o f i = S f i := fun f i z1 z2 z3 z4 z5 => by simp [z_waitIn, up, z1, z2, z3, z4, z5]
  have co : ∀ f i, f ≠ 50 → f ≠ 51 → up (up C 50 j x) 51 j o f i = C f i := fun f i z1 z2 => by simp [up, z1, z2]
  refine ⟨fun f i hf => ?_, h.a2.w27 hj (fun f i hf => eo f i (by omega) (by omega) (by omega) (by omega) (by omega)) (fun i hi => by simp [z_waitIn, up, hi]), fun i z1 z2 => ?_, h.a3o.cg (fun f i hf => eo f i (by omega) (by omega) (by omega) (by omega) (by omega)) (fun f i hf => co f i (by omega) (by omega)), h.a4.cg (fun f i hf => eo f i (by omega) (by omega) (by omega) (by omega) (by omega)) (fun f i hf => co f i (by omega) (by omega)), h.a5.cg (fun f i hf => eo f i (by omega) (by omega) (by omega) (by omega) (by omega)) (fun f i hf => co f i (by omega) (by omega)), h7⟩
  · have h1 := h.a1 f i hf
    unfold cm at hf
    rw [co f i (by omega) (by omega), eo f i (by omega) (by omega) (by omega) (by omega) (by omega)]
    exact h1
  · rw [eo 1 0 (by omega) (by omega) (by omega) (by omega) (by omega)] at z2
    have a3 := h.a3 i z1 z2
    unfold AW at a3 ⊢
    rw [co 52 i (by omega) (by omega), co 54 i (by omega) (by omega), eo 31 i (by omega) (by omega) (by omega) (by omega) (by omega), eo 25 i (by omega) (by omega) (by omega) (by omega) (by omega), eo 29 i (by omega) (by omega) (by omega) (by omega) (by omega)]
    refine ⟨?_, ?_, a3.2.2⟩
    · by_cases hi : i = j
      · have q1 : up (up C 50 j x) 51 j o 50 i = x := by simp [up, hi]
        have q2 : z_waitIn S j y o 26 i = y := by simp [z_waitIn, up, hi]
        rw [q1, q2]
        clear a3
        omega
      · have q1 : up (up C 50 j x) 51 j o 50 i = C 50 i := by simp [up, hi]
        have q2 : z_waitIn S j y o 26 i = S 26 i := by simp [z_waitIn, up, hi]
        rw [q1, q2]
        exact a3.1
    · by_cases hi : i = j
      · have q1 : up (up C 50 j x) 51 j o 51 i = o := by simp [up, hi]
        have q2 : z_waitIn S j y o 26 i = y := by simp [z_waitIn, up, hi]
        have q3 : z_waitIn S j y o 27 i = o := by simp [z_waitIn, up, hi]
        rw [q1, q2, q3, if_neg (by omega)]
      · have q1 : up (up C 50 j x) 51 j o 51 i = C 51 i := by simp [up, hi]
        have q2 : z_waitIn S j y o 26 i = S 26 i := by simp [z_waitIn, up, hi]
        have q3 : z_waitIn S j y o 27 i = S 27 i := by simp [z_waitIn, up, hi]
        rw [q1, q2, q3]
        exact a3.2.1
theorem Ag.await8 (h : Ag C S) {j x o : Int} (hj : 0 ≤ j ∧ j < S 1 0) (hx : 8 ≤ x ∧ x ≤ 10) : Ag (up (up C 50 j x) 51 j o) (z_waitIn S j 8 o) :=
  h.await2 hj (by omega) (h.a7.began (by simp [z_waitIn, up]) (by simp [z_waitIn, up]) (fun f i hf => by have z1 : f ≠ 26 := (by omega); have z2 : f ≠ 27 := (by omega); have z3 : f ≠ 28 := (by omega); have z4 : f ≠ 6 := (by omega); have z5 : f ≠ 10 := (by omega); simp [z_waitIn, up, z1, z2, z3, z4, z5]) (fun f i hf => by have z1 : f ≠ 50 := (by omega); have z2 : f ≠ 51 := (by omega); simp [up, z1, z2]))
/-- the LIMIT k begins, and j waits for it -/
theorem Ag.limit8 (h : Ag C S) {j k a : Int} (hj : 0 ≤ j ∧ j < S 1 0) (hk : 0 ≤ k ∧ k < S 1 0) (h25 : S 25 k = 0) (h2 : 0 ≤ S 2 0) (ha : 0 ≤ a) (hs : ∀ l i, (l = 0 ∨ l = 1) → 0 ≤ i → i < S 1 0 → rnn S l i → snc S i l < S 6 0) : Ag (up (up (c_timer C 14 k a) 50 j 10) 51 j k) (z_waitIn (up (up S 31 k (S 2 0 + a)) 32 k (S 6 0)) j 8 k) := by
  have e2 : C 2 0 = S 2 0 := h.a1 2 0 (by unfold cm; omega)
  have eo : ∀ f i, f ≠ 26 → f ≠ 27 → f ≠ 28 → f ≠ 6 → f ≠ 10 → f ≠ 31 → f ≠ 32 → z_waitIn (up (up S 31 k (S 2 0 + a)) 32 k (S 6 0)) j 8 k f i = S f i := fun f i z1 z2 z3 z4 z5 z6 z7 => by simp [z_waitIn, up, z1, z2, z3, z4, z5, z6, z7]
  have co : ∀ f i, f ≠ 50 → f ≠ 51 → f ≠ 54 → f ≠ 55 → f ≠ 58 → up (up (c_timer C 14 k a) 50 j 10) 51 j k f i = C f i := fun f i z1 z2 z3 z4 z5 => by simp [c_timer, tdu, ttu, up, z1, z2, z3, z4, z5]
  refine ⟨fun f i hf => ?_, h.a2.w27 hj (fun f i hf => eo f i (by omega) (by omega) (by omega) (by omega) (by omega) (by omega) (by omega)) (fun i hi => by simp [z_waitIn, up, hi]), fun i z1 z2 => ?_, h.a3o.cg (fun f i hf => eo f i (by omega) (by omega) (by omega) (by omega) (by omega) (by omega) (by omega)) (fun f i hf => co f i (by omega) (by omega) (by omega) (by omega) (by omega)), h.a4.cg (fun f i hf => eo f i (by omega) (by omega) (by omega) (by omega) (by omega) (by omega) (by omega)) (fun f i hf => co f i (by omega) (by omega) (by omega) (by omega) (by omega)), h.a5.cg (fun f i hf => eo f i (by omega) (by omega) (by omega) (by omega) (by omega) (by omega) (by omega)) (fun f i hf => co f i (by omega) (by omega) (by omega) (by omega) (by omega)), h.a7.new (l0 := 1) (j0 := k) (by omega) hk hs (by simp [z_waitIn, up]) (by simp [z_waitIn, up]) (by simp [c_timer, tdu, ttu, up]) (fun l i hl => ?_) (fun l i hl hn r => ?_) (fun l i hl => ?_)⟩
  · have h1 := h.a1 f i hf
    unfold cm at hf
    rw [co f i (by omega) (by omega) (by omega) (by omega) (by omega), eo f i (by omega) (by omega) (by omega) (by omega) (by omega) (by omega) (by omega)]
    exact h1
  · rw [eo 1 0 (by omega) (by omega) (by omega) (by omega) (by omega) (by omega) (by omega)] at z2
    have a3 := h.a3 i z1 z2
    unfold AW at a3 ⊢
    rw [co 52 i (by omega) (by omega) (by omega) (by omega) (by omega), eo 25 i (by omega) (by omega) (by omega) (by omega) (by omega) (by omega) (by omega), eo 29 i (by omega) (by omega) (by omega) (by omega) (by omega) (by omega) (by omega)]
    have q1 : up (up (c_timer C 14 k a) 50 j 10) 51 j k 50 i = if i = j then 10 else C 50 i := by simp [c_timer, tdu, ttu, up]
    have q2 : up (up (c_timer C 14 k a) 50 j 10) 51 j k 51 i = if i = j then k else C 51 i := by simp [c_timer, tdu, ttu, up]
    have q3 : up (up (c_timer C 14 k a) 50 j 10) 51 j k 54 i = if i = k then C 2 0 + a else C 54 i := by simp [c_timer, tdu, ttu, up]
    have q4 : z_waitIn (up (up S 31 k (S 2 0 + a)) 32 k (S 6 0)) j 8 k 26 i = if i = j then 8 else S 26 i := by simp [z_waitIn, up]
    have q5 : z_waitIn (up (up S 31 k (S 2 0 + a)) 32 k (S 6 0)) j 8 k 27 i = if i = j then k else S 27 i := by simp [z_waitIn, up]
    have q6 : z_waitIn (up (up S 31 k (S 2 0 + a)) 32 k (S 6 0)) j 8 k 31 i = if i = k then S 2 0 + a else S 31 i := by simp [z_waitIn, up]
    rw [q1, q2, q3, q4, q5, q6]
    refine ⟨?_, ?_, a3.2.2.1, ?_⟩
    · by_cases hi : i = j
      · simp [hi]
      · simp only [if_neg hi]; exact a3.1
    · by_cases hi : i = j
      · simp [hi]
      · simp only [if_neg hi]; exact a3.2.1
    · by_cases hi : i = k
      · simp only [if_pos hi]
        rw [hi, h25, if_neg (by omega), e2]
      · simp only [if_neg hi]; exact a3.2.2.2
  · rcases hl with rfl | rfl <;> simp [trn, c_timer, tdu, ttu, up]
  · unfold rnn at r ⊢
    rcases hl with rfl | rfl
    · simpa [z_waitIn, up] using r
    · have hi : i ≠ k := fun e => hn ⟨rfl, e⟩
      simpa [z_waitIn, up, hi] using r
  · rcases hl with rfl | rfl <;> simp [snc, z_waitIn, up]
/-- what runs after a begin ran before -/
theorem beg_sn (hI : Iv S) {pr p s : Int} : ∀ l i, (l = 0 ∨ l = 1) → 0 ≤ i → i < z_begin S pr p s 1 0 → rnn (z_begin S pr p s) l i → snc (z_begin S pr p s) i l < z_begin S pr p s 6 0 := by
  obtain ⟨eo, e16, e17, e19, e21, e23, e26, e29, e31⟩ := z_begin_e (S := S) (pr := pr) (p := p) (s := s)
  obtain ⟨e1, e7, e38, e22, e33, e34, e35, e36, e37⟩ := z_begin_f (S := S) (pr := pr) (p := p) (s := s)
  have o : ∀ f i, (f = 6 ∨ f = 25 ∨ f = 30 ∨ f = 32) → z_begin S pr p s f i = S f i := fun f i hf => eo f i (by omega) (by omega) (by omega) (by omega) (by omega) (by omega) (by omega) (by omega) (by omega) (by omega) (by omega) (by omega) (by omega) (by omega) (by omega) (by omega) (by omega)
  intro l i hl z1 z2 r
  rw [e1] at z2
  unfold rnn at r
  rw [e29, e31, o 25 i (by omega)] at r
  by_cases hi : i = S 1 0
  · exfalso
    rcases hl with rfl | rfl <;> simp [hi] at r
  · simp only [if_neg hi] at r
    have := hI.sn l i hl z1 (by omega) r
    unfold snc at this ⊢
    rw [o 30 i (by omega), o 32 i (by omega), o 6 0 (by omega)]
    exact this
def c_scope (C : js) (j x a c : Int) : js := up (up (if x = 10 then c_timer (c_begin C c j (x - 6)) 14 (C 1 0) a else c_begin C a j (x - 6)) 50 j x) 51 j (C 1 0)
theorem Ag.scope (h : Ag C S) (hI : Iv S) {j x a c : Int} (hr : Rn j S) (hJ : S 1 0 < 24) (hx : x = 8 ∨ x = 9 ∨ x = 10 ∧ 1 ≤ a) : Ag (c_scope C j x a c) (z_scope S j x a c) := by
  have hC1 : C 1 0 = S 1 0 := h.a1 1 0 (by unfold cm; omega)
  have hrm := Ok.room hI hr
  have hj := hr.1
  have hJ0 := hI.J
  have h2 := h.a2 (S 1 0) (Int.le_refl _)
  have ht := hI.tm.1
  unfold c_scope z_scope
  by_cases h10 : x = 10
  · rw [if_pos h10, if_pos h10, hC1]
    obtain ⟨eo, _⟩ := z_begin_e (S := S) (pr := c) (p := j) (s := x - 6)
    have e1 := (z_begin_f (S := S) (pr := c) (p := j) (s := x - 6)).1
    have o : ∀ f i, (f = 2 ∨ f = 6 ∨ f = 25) → z_begin S c j (x - 6) f i = S f i := fun f i hf => eo f i (by omega) (by omega) (by omega) (by omega) (by omega) (by omega) (by omega) (by omega) (by omega) (by omega) (by omega) (by omega) (by omega) (by omega) (by omega) (by omega) (by omega)
    have := (h.begin hI (pr := c) (p := j) (s := x - 6) (by omega) hJ hrm).limit8 (j := j) (k := S 1 0) (a := a) (by rw [e1]; omega) (by rw [e1]; omega) (by rw [o 25 _ (by omega)]; exact h2.2.2.2.1) (by rw [o 2 _ (by omega)]; exact ht.1) (by omega) (beg_sn hI)
    rw [o 2 0 (by omega), o 6 0 (by omega)] at this
    subst h10
    exact this
  · rw [if_neg h10, if_neg h10, hC1]
    have e1 := (z_begin_f (S := S) (pr := a) (p := j) (s := x - 6)).1
    exact (h.begin hI (pr := a) (p := j) (s := x - 6) (by omega) hJ hrm).await8 (by rw [e1]; omega) (by omega)
/-- j is FINISHED: counts -/
theorem z_cn_fin {i j : Int} (hj : j < S 1 0) (h0 : S 25 j = 0) : ∀ (n : Nat) (k : Int), k ≤ j → j < k + n → z_cn (up S 25 j 1) i n k = z_cn S i n k - (if S 16 j = i then 1 else 0)
  | 0, k, h1, h2 => by omega
  | n + 1, k, h1, h2 => by
    have e16 : up S 25 j 1 16 k = S 16 k := up_f (by decide)
    have e1 : up S 25 j 1 1 0 = S 1 0 := up_f (by decide)
    have hkJ : k < S 1 0 := by omega
    rw [z_cn, z_cn, e1, e16, if_pos hkJ, if_pos hkJ]
    by_cases hk : k = j
    · subst hk
      have hrest : ∀ (n : Nat) (m : Int), k < m → z_cn (up S 25 k 1) i n m = z_cn S i n m := by
        intro n
        induction n with
        | zero => intro m _; rfl
        | succ n ih =>
          intro m hm
          rw [z_cn, z_cn, ih (m + 1) (by omega), up_f (show (16 : Nat) ≠ 25 by decide), up_f (show (1 : Nat) ≠ 25 by decide), up_i (show m ≠ k by omega)]
      rw [hrest n (k + 1) (by omega), up_s, h0]
      simp
      split <;> omega
    · rw [z_cn_fin hj h0 n (k + 1) (by omega) (by omega), up_i hk]
      omega
theorem zcF_fin {j : Int} (hj : j < S 1 0) (h0 : S 25 j = 0) : ∀ (n : Nat) (k : Int), k ≤ j → j < k + n → zcF (up S 25 j 1) n k = zcF S n k + 1
  | 0, k, h1, h2 => by omega
  | n + 1, k, h1, h2 => by
    have e1 : up S 25 j 1 1 0 = S 1 0 := up_f (by decide)
    have hkJ : k < S 1 0 := by omega
    rw [zcF, zcF, e1, if_pos hkJ, if_pos hkJ]
    by_cases hk : k = j
    · subst hk
      have hrest : ∀ (n : Nat) (m : Int), k < m → zcF (up S 25 k 1) n m = zcF S n m := by
        intro n
        induction n with
        | zero => intro m _; rfl
        | succ n ih =>
          intro m hm
          rw [zcF, zcF, ih (m + 1) (by omega), up_f (show (1 : Nat) ≠ 25 by decide), up_i (show m ≠ k by omega)]
      rw [hrest n (k + 1) (by omega), up_s, h0]
      simp
      omega
    · rw [zcF_fin hj h0 n (k + 1) (by omega) (by omega), up_i hk]
      omega
def c_mark (C : js) (j : Int) : js := up (up (up C 25 j 1) 54 j 2147483647) 57 0 (C 57 0 + 1)
def c_mark2 (C : js) (j : Int) : js := if 0 ≤ C 16 j then up (c_mark C j) 56 (C 16 j) (C 56 (C 16 j) - 1) else c_mark C j
theorem Ag.mark (h : Ag C S) {j : Int} (hj : 0 ≤ j ∧ j < S 1 0) (hJ : S 1 0 ≤ 24) (h0 : S 25 j = 0) : Ag (c_mark2 C j) (up S 25 j 1) := by
  have e16 : C 16 j = S 16 j := h.a1 16 j (by unfold cm; omega)
  have co : ∀ f i, f ≠ 25 → f ≠ 54 → f ≠ 57 → f ≠ 56 → c_mark2 C j f i = C f i := fun f i z1 z2 z3 z4 => by
    unfold c_mark2 c_mark
    split <;> simp [up, z1, z2, z3, z4]
  have c25 : ∀ i, c_mark2 C j 25 i = if i = j then 1 else C 25 i := fun i => by
    unfold c_mark2 c_mark
    split <;> simp [up]
  have c54 : ∀ i, c_mark2 C j 54 i = if i = j then 2147483647 else C 54 i := fun i => by
    unfold c_mark2 c_mark
    split <;> simp [up]
  have c57 : c_mark2 C j 57 0 = C 57 0 + 1 := by
    unfold c_mark2 c_mark
    split <;> simp [up]
  have c56 : ∀ i, 0 ≤ i → c_mark2 C j 56 i = if i = S 16 j then C 56 i - 1 else C 56 i := fun i hi => by
    unfold c_mark2 c_mark
    rw [e16]
    by_cases hp : 0 ≤ S 16 j
    · rw [if_pos hp]
      by_cases hij : i = S 16 j
      · rw [hij]; simp [up]
      · simp [up, hij]
    · rw [if_neg hp, if_neg (by omega)]
      simp [up]
  refine ⟨fun f i hf => ?_, fun i hi => ?_, fun i z1 z2 => ?_, ⟨fun i z1 z2 => ?_, ?_⟩, h.a4.cg (fun f' i' hf' => up_f (by omega)) (fun f' i' hf' => co f' i' (by omega) (by omega) (by omega) (by omega)), h.a5.cg (fun f' i' hf' => up_f (by omega)) (fun f' i' hf' => co f' i' (by omega) (by omega) (by omega) (by omega)), ⟨?_, fun l i hl z1 z2 => ?_, fun l i l' i' hl hl' z1 z2 z3 z4 r1 r2 => ?_⟩⟩
  · have h1 := h.a1 f i hf
    unfold cm at hf
    by_cases hf25 : f = 25
    · subst hf25
      rw [c25, h1]
      simp [up]
    · rw [co f i hf25 (by omega) (by omega) (by omega), up_f hf25]
      exact h1
  · rw [up_f (by decide)] at hi
    have := h.a2 i hi
    rw [up_i (by omega), up_i (by omega), up_i (by omega), up_i (by omega), up_i (by omega)]
    exact this
  · rw [up_f (by decide)] at z2
    have a := h.a3 i z1 z2
    unfold AW at a ⊢
    have e25 : up S 25 j 1 25 i = if i = j then 1 else S 25 i := by simp [up]
    rw [co 50 i (by omega) (by omega) (by omega) (by omega), co 51 i (by omega) (by omega) (by omega) (by omega), co 52 i (by omega) (by omega) (by omega) (by omega), c54, e25, up_f (show (26 : Nat) ≠ 25 by decide), up_f (show (27 : Nat) ≠ 25 by decide), up_f (show (29 : Nat) ≠ 25 by decide), up_f (show (31 : Nat) ≠ 25 by decide)]
    refine ⟨a.1, a.2.1, a.2.2.1, ?_⟩
    by_cases hi : i = j
    · simp [hi]
    · simp only [if_neg hi]; exact a.2.2.2
  · rw [up_f (by decide)] at z2
    have a := h.a3o.1 i z1 z2
    have b := z_cn_fin (i := i) hj.2 h0 25 0 hj.1 (by omega)
    rw [c56 i z1, a]
    unfold z_open
    rw [b]
    by_cases hi : i = S 16 j
    · rw [if_pos hi, if_pos hi.symm]
    · rw [if_neg hi, if_neg (fun e => hi e.symm)]
      omega
  · rw [c57, h.a3o.2, zcF_fin hj.2 h0 25 0 hj.1 (by omega)]
  · rw [co 58 0 (by omega) (by omega) (by omega) (by omega), up_f (by decide)]
    exact h.a7.1
  · rw [up_f (by decide)] at z2
    have a := h.a7.2.1 l i hl z1 z2
    unfold trn rnn at a ⊢
    have e25 : up S 25 j 1 25 i = if i = j then 1 else S 25 i := by simp [up]
    rw [co 53 i (by omega) (by omega) (by omega) (by omega), co 55 i (by omega) (by omega) (by omega) (by omega), co 58 0 (by omega) (by omega) (by omega) (by omega), e25, up_f (show (29 : Nat) ≠ 25 by decide), up_f (show (31 : Nat) ≠ 25 by decide)]
    refine ⟨a.1, fun r => a.2 ?_⟩
    split
    · rename_i hl0
      rw [if_pos hl0] at r
      exact r
    · rename_i hl0
      rw [if_neg hl0] at r
      split at r <;> omega
  · rw [up_f (by decide)] at z2 z4
    have key : ∀ l i, rnn (up S 25 j 1) l i → rnn S l i := by
      intro l i r
      unfold rnn at r ⊢
      have e25 : up S 25 j 1 25 i = if i = j then 1 else S 25 i := by simp [up]
      rw [e25, up_f (show (29 : Nat) ≠ 25 by decide), up_f (show (31 : Nat) ≠ 25 by decide)] at r
      split
      · rename_i hl0
        rw [if_pos hl0] at r
        exact r
      · rename_i hl0
        rw [if_neg hl0] at r
        split at r <;> omega
    have a := h.a7.2.2 l i l' i' hl hl' z1 z2 z3 z4 (key l i r1) (key l' i' r2)
    unfold trn snc at a ⊢
    simp only [co 53 _ (show (53 : Nat) ≠ 25 by decide) (by decide) (by decide) (by decide), co 55 _ (show (55 : Nat) ≠ 25 by decide) (by decide) (by decide) (by decide), up_f (show (30 : Nat) ≠ 25 by decide), up_f (show (32 : Nat) ≠ 25 by decide)]
    exact a
/-- the class's finish -/
def c_fin (C : js) (j : Int) : js :=
  if 0 ≤ C 16 j ∧ C 51 (C 16 j) = j then (if C 50 (C 16 j) = 5 then c_ready (c_mark2 C j) (C 16 j) (-1) else c_ready (c_out (c_mark2 C j) (C 16 j) j) (C 16 j) (C 19 j)) else c_mark2 C j
theorem Ag.fin (h : Ag C S) (hI : Iv S) {j : Int} (hj : 0 ≤ j ∧ j < S 1 0) (h0 : S 25 j = 0) : Ag (c_fin C j) (z_fin1 S j) := by
  have e16 : C 16 j = S 16 j := h.a1 16 j (by unfold cm; omega)
  have e19 : C 19 j = S 19 j := h.a1 19 j (by unfold cm; omega)
  have hJ := hI.J
  have hm := h.mark hj hJ.2 h0
  have hg := hI.gd.2.1 j hj.1 hj.2
  have hp1 : -1 ≤ S 16 j ∧ S 16 j < j := hg.1
  have hc1 : -1 ≤ S 19 j ∧ S 19 j ≤ 99 := hg.2.2.1
  have hw6 := (hI.wt j hj.1 hj.2).2.2.2.2.2.1
  have hw7 := (hI.wt j hj.1 hj.2).2.2.2.2.2.2.1
  have key : (0 ≤ S 16 j ∧ C 51 (S 16 j) = j) ↔ (fP S j ∨ 1 < S 17 j) := by
    constructor
    · intro ⟨z1, z2⟩
      have a := (h.a3 (S 16 j) z1 (by omega)).2.1
      have w := hI.wt (S 16 j) z1 (by omega)
      have w1 := w.1
      have w4 := w.2.2.2.1
      rw [z2] at a
      by_cases hc : S 26 (S 16 j) = 0 ∨ S 26 (S 16 j) = 1
      · rw [if_pos hc] at a; omega
      · rw [if_neg hc] at a
        by_cases h8 : S 26 (S 16 j) = 8
        · have := w4 h8
          rw [← a] at this
          exact Or.inr this
        · exact Or.inl ⟨z1, by omega, a.symm⟩
    · intro hz
      have hz' : 0 ≤ S 16 j ∧ (S 26 (S 16 j) = 4 ∨ S 26 (S 16 j) = 5 ∨ S 26 (S 16 j) = 8) ∧ S 27 (S 16 j) = j := by
        rcases hz with hz | hz
        · exact ⟨hz.1, by omega, hz.2.2⟩
        · have := hw6 hz h0
          exact ⟨by omega, by omega, this.2⟩
      refine ⟨hz'.1, ?_⟩
      rw [(h.a3 (S 16 j) hz'.1 (by omega)).2.1, if_neg (by omega)]
      exact hz'.2.2
  have hz1 : z_fin1 S j = if fP S j ∨ 1 < S 17 j then z_wake (up S 25 j 1) (S 16 j) j else up S 25 j 1 := by
    unfold z_fin1
    by_cases q1 : fP S j
    · rw [if_pos q1, if_pos (Or.inl q1)]
    · rw [if_neg q1]
      by_cases q2 : 1 < S 17 j
      · rw [if_pos q2, if_pos (Or.inr q2)]
      · rw [if_neg q2, if_neg (fun z => z.elim q1 q2)]
  rw [hz1]
  unfold c_fin
  rw [e16]
  by_cases hc : fP S j ∨ 1 < S 17 j
  · have hc' := key.2 hc
    rw [if_pos hc, if_pos hc']
    have a := h.a3 (S 16 j) hc'.1 (by omega)
    have hnr : NR S (S 16 j) := by
      refine hI.gd.2.2.nr ?_
      intro e
      have := a.2.1
      rw [if_pos (Or.inl e)] at this
      omega
    have hroom := hI.gd.2.2.room hJ.2 (k := S 16 j) (by omega) hnr
    have hq0 := hI.gd.2.2.1.1
    have o7 : up S 25 j 1 7 0 = S 7 0 := up_f (by decide)
    have o26 : up S 25 j 1 26 (S 16 j) = S 26 (S 16 j) := up_f (by decide)
    have o19 : up S 25 j 1 19 j = S 19 j := up_f (by decide)
    have m19 : c_mark2 C j 19 j = S 19 j := by rw [← o19]; exact hm.a1 19 j (by unfold cm; omega)
    have m18 : ∀ i, c_mark2 C j 18 i = up S 25 j 1 18 i := fun i => hm.a1 18 i (by unfold cm; omega)
    have h5 : C 50 (S 16 j) = 5 ↔ S 26 (S 16 j) = 5 := by have := a.1; omega
    unfold z_wake
    rw [o26, o19]
    by_cases q5 : S 26 (S 16 j) = 5
    · rw [if_pos q5, if_pos (h5.2 q5)]
      exact hm.ready (by rw [o7]; omega)
    · rw [if_neg q5, if_neg (fun z => q5 (h5.1 z))]
      unfold c_out
      rw [m19, e19, m18, m18]
      by_cases q9 : S 19 j < 0
      · rw [if_pos q9, if_pos (by omega)]
        refine (hm.cm2 (f := 18) (by omega) (by rw [up_f (by decide)]; omega)).ready ?_
        rw [up_f (by decide), o7]; omega
      · rw [if_neg q9, if_neg (by omega)]
        exact hm.ready (by rw [o7]; omega)
  · rw [if_neg hc, if_neg (fun z => hc (key.1 z))]
    exact hm
end AK
