/-! what an ACTION of the reference leads to -/
section SU
variable {S T U : js} {j m x : Int}
/-- r: GO, WAIT, or what is to be thrown -/
def Pq (j m n : Int) (U : js) (r : Int) : Prop := (r = -2 ∧ U 10 0 = 1 ∧ Rt m U) ∨ (r = U 8 0 ∧ (-1 ≤ r ∧ r ≤ 99) ∧ Kk j m U ∧ U 9 0 = n)
theorem Kk.of (h : Kk j m S) {n : Int} (hI : Iv T) (hB : Bd (30 + n) T) (e : ∀ f i, (f = 1 ∨ f = 7 ∨ f = 9 ∨ f = 10 ∨ f = 21 ∨ f = 24 ∨ f = 25 ∨ f = 26 ∨ f = 38) → T f i = S f i) : Kk j n T := by
  obtain ⟨a1, a2, a3, a4, a5, a6, a7⟩ := h
  refine ⟨hI, a2.cg fun f i hf => e f i (by omega), a3.cg fun f i hf => e f i (by omega), hB, ?_, ?_, ?_⟩
  · rw [e 21 j (by omega)]; exact a5
  · rw [e 9 0 (by omega)]; exact a6
  · rw [e 10 0 (by omega)]; exact a7
theorem z_adv_e {f : Int} : (∀ g i, g ≠ 34 → g ≠ 9 → g ≠ 5 → z_adv S f g i = S g i) ∧ z_adv S f 9 0 = S 9 0 + 1 := by
  refine ⟨fun g i z1 z2 z3 => ?_, ?_⟩ <;> simp_all [z_adv, up]
theorem Kk.adv (h : Kk j m S) {f : Int} (hf : 0 ≤ S 34 f ∧ S 34 f < 8) (h9 : S 9 0 < 60) : Kk j m (z_adv S f) ∧ z_adv S f 8 0 = S 8 0 ∧ z_adv S f 9 0 = S 9 0 + 1 := by
  obtain ⟨e, e9⟩ := z_adv_e (S := S) (f := f)
  obtain ⟨a1, a2, a3, a4, a5, a6, a7⟩ := h
  refine ⟨⟨((a1.at_ (f := f) (v := S 34 f + 1) (by omega)).fr1 (by omega)).fr1 (by omega), a2.cg fun g i hg => e g i (by omega) (by omega) (by omega), a3.cg fun g i hg => e g i (by omega) (by omega) (by omega), a4.cg fun g i hg => e g i (by omega) (by omega) (by omega), ?_, ?_, ?_⟩, e 8 0 (by decide) (by decide) (by decide), e9⟩
  · rw [e _ _ (by decide) (by decide) (by decide)]; exact a5
  · rw [e9]; omega
  · rw [e _ _ (by decide) (by decide) (by decide)]; exact a7
theorem pq_throw (h : Kk j (m + 1) T) {v : Int} (hv : 0 ≤ v ∧ v ≤ 99) : Pq j m (T 9 0) (up T 8 0 v) v := Or.inr ⟨(up_s ..).symm, by omega, h.u8.le (by omega), up_f (by decide)⟩
theorem pq_same (h : Kk j (m + 1) T) (h8 : T 8 0 = -1) : Pq j m (T 9 0) T (-1) := Or.inr ⟨h8.symm, by omega, h.le (by omega), rfl⟩
theorem pq_write (h : Kk j (m + 1) T) (h8 : T 8 0 = -1) {v : Int} : Pq j m (T 9 0) (z_write T v) (-1) := by
  have e := (z_write_e (S := T) (v := v)).1
  exact Or.inr ⟨by rw [e 8 0 (by decide) (by decide), h8], by omega, h.write, e 9 0 (by decide) (by decide)⟩
theorem z_wait_e {y o : Int} : (∀ f i, f ≠ 26 → f ≠ 27 → f ≠ 28 → f ≠ 6 → f ≠ 10 → z_waitIn S j y o f i = S f i) ∧ z_waitIn S j y o 6 0 = S 6 0 + 1 ∧ z_waitIn S j y o 10 0 = 1 := by
  refine ⟨fun f i z1 z2 z3 z4 z5 => by simp [z_waitIn, up, z1, z2, z3, z4, z5], by simp [z_waitIn, up], by simp [z_waitIn, up]⟩
/-- waiting: who does not run any more -/
theorem Rt.wait (h : Kk j (m + 1) T) (hI : Iv U) (e : ∀ f i, (f = 1 ∨ f = 21 ∨ f = 24 ∨ f = 2 ∨ f = 3) → U f i = T f i) (e6 : U 6 0 = T 6 0 + 1) : Rt m U := by
  have hr := h.rest
  refine ⟨hI, hr.2.1.cg fun f i hf => e f i (by omega), ?_⟩
  have := hr.2.2
  unfold Bd at this ⊢
  rw [e 2 0 (by omega), e 3 0 (by omega), e6]
  omega
theorem pq_delay (h : Kk j (m + 1) T) {a : Int} (ha : 1 ≤ a ∧ a ≤ 50) : Pq j m (T 9 0) (z_waitIn (up (up T 29 j (T 2 0 + a)) 30 j (T 6 0)) j 1 (-1)) (-2) := by
  refine Or.inl ⟨rfl, z_wait_e.2.2, Rt.wait h (h.1.delayw h.2.1 h.2.2.2.2.1 ha) (fun f i hf => ?_) ?_⟩
  · rw [z_wait_e.1 f i (by omega) (by omega) (by omega) (by omega) (by omega), up_f (by omega), up_f (by omega)]
  · rw [z_wait_e.2.1, up_f (by omega), up_f (by omega)]
theorem pq_yield (h : Kk j (m + 1) T) : Pq j m (T 9 0) (up (z_putReady T j (-1)) 10 0 1) (-2) := by
  have hr := h.rest
  have e := (z_putReady_e (S := T) (k := j) (x := -1)).1
  have hI := h.1.ready (x := -1) h.2.1.1 h.2.1.2.2.1 h.2.2.2.2.1 (by have := h.2.1.2.1; omega) (by omega)
  exact Or.inl ⟨rfl, up_s .., hI.fr1 (by omega), hr.2.1.cg fun f i hf => by rw [up_f (by omega)]; exact e f i (by omega) (by omega) (by omega) (by omega) (by omega), (hr.2.2.cg fun f i hf => by rw [up_f (by omega)]; exact e f i (by omega) (by omega) (by omega) (by omega) (by omega)).le (by omega)⟩
theorem pq_give (h : Kk j (m + 1) T) (h8 : T 8 0 = -1) {k : Int} (hk : 0 ≤ k ∧ k < T 1 0) : Pq j m (T 9 0) (z_give T k 0) (-1) := by
  have G := z_give_run (k := k) (x := 0) h.1 h.2.1 hk (by omega)
  obtain ⟨GI, GG⟩ := z_give_ok h.1 (j := k) (x := 0) hk (by omega)
  have e := GG.1
  obtain ⟨a1, a2, a3, a4, a5, a6, a7⟩ := h
  refine Or.inr ⟨by rw [e 8 0 (by decide) (by decide) (by decide) (by decide) (by decide) (by decide) (by decide), h8], by omega, ⟨GI, G.1, G.2.1 _ a3, G.2.2.1 _ (a4.le (by omega)), by rw [G.2.2.2]; exact a5, ?_, ?_⟩, e 9 0 (by decide) (by decide) (by decide) (by decide) (by decide) (by decide) (by decide)⟩
  · rw [e 9 0 (by decide) (by decide) (by decide) (by decide) (by decide) (by decide) (by decide)]; exact a6
  · rw [e 10 0 (by decide) (by decide) (by decide) (by decide) (by decide) (by decide) (by decide)]; exact a7
theorem z_begin_o {pr p s : Int} : ∀ f i, (f = 2 ∨ f = 3 ∨ f = 4 ∨ f = 5 ∨ f = 6 ∨ f = 8 ∨ f = 9 ∨ f = 10 ∨ f = 18 ∨ f = 24 ∨ f = 25 ∨ f = 27) → z_begin S pr p s f i = S f i := fun f i hf => (z_begin_e (S := S) (pr := pr) (p := p) (s := s)).1 f i (by omega) (by omega) (by omega) (by omega) (by omega) (by omega) (by omega) (by omega) (by omega) (by omega) (by omega) (by omega) (by omega) (by omega) (by omega) (by omega) (by omega)
theorem En.begin {r pr p s : Int} (h : En r S) (h24 : S 24 (S 1 0) = 0) : En r (z_begin S pr p s) := by
  obtain ⟨eo, e16, e17, e19, e21, e23, e26, e29, e31⟩ := z_begin_e (S := S) (pr := pr) (p := p) (s := s)
  have e1 := (z_begin_f (S := S) (pr := pr) (p := p) (s := s)).1
  intro i z1 z2
  rw [e1] at z2
  rw [e21, z_begin_o 24 i (by omega)]
  by_cases hi : i = S 1 0
  · rw [if_pos hi, hi, h24]
    exact ⟨fun z => by omega, fun _ z => by omega⟩
  · rw [if_neg hi]
    exact h i z1 (by omega)
theorem pq_launch (h : Kk j (m + 1) T) (h8 : T 8 0 = -1) (h2 : A2 T) {a c : Int} (hJ : T 1 0 < 24) (ha : 0 ≤ a ∧ a ≤ 9) (hc : 0 ≤ c ∧ c ≤ 2) : Pq j m (T 9 0) (up (z_begin T a j 1) 22 (j * 3 + c) (T 1 0)) (-1) := by
  have hj := h.2.1.1
  have hrm := Ok.room h.1 h.2.1
  have a2 := h2 (T 1 0) (Int.le_refl _)
  obtain ⟨eo, e16, e17, e19, e21, e23, e26, e29, e31⟩ := z_begin_e (S := T) (pr := a) (p := j) (s := 1)
  obtain ⟨e1, e7, e38, e22, e33, e34, e35, e36, e37⟩ := z_begin_f (S := T) (pr := a) (p := j) (s := 1)
  have hI := h.1.launch (pr := a) (j := j) (c := c) h2 hJ hrm.2 ha hj hc
  obtain ⟨a1, b2, a3, a4, a5, a6, a7⟩ := h
  refine Or.inr ⟨by rw [up_f (by decide), z_begin_o 8 0 (by omega), h8], by omega, ⟨hI, ⟨?_, ?_, ?_, ?_⟩, (a3.begin a2.2.2.1).cg fun f i hf => up_f (by omega), (a4.le (by omega)).cg fun f i hf => by rw [up_f (by omega)]; exact z_begin_o f i (by omega), ?_, ?_, ?_⟩, by rw [up_f (by decide)]; exact z_begin_o 9 0 (by omega)⟩
  · rw [up_f (by decide), e1]; omega
  · rw [up_f (by decide), e26, if_neg (by omega)]; exact b2.2.1
  · intro i z1 z2
    rw [up_f (by decide), e7] at z2
    rw [up_f (by decide), e38]
    split
    · omega
    · exact b2.2.2.1 i z1 (by omega)
  · rw [up_f (by decide), z_begin_o 25 j (by omega)]; exact b2.2.2.2
  · rw [up_f (by decide), e21, if_neg (by omega)]; exact a5
  · rw [up_f (by decide), z_begin_o 9 0 (by omega)]; exact a6
  · rw [up_f (by decide), z_begin_o 10 0 (by omega)]; exact a7
theorem pq_scope (h : Kk j (m + 1) T) (h2 : A2 T) {x a c : Int} (hJ : T 1 0 < 24) (hx : x = 8 ∧ (0 ≤ a ∧ a ≤ 9) ∨ x = 9 ∧ (0 ≤ a ∧ a ≤ 9) ∨ x = 10 ∧ (1 ≤ a ∧ a ≤ 50) ∧ (0 ≤ c ∧ c ≤ 9)) : Pq j m (T 9 0) (z_scope T j x a c) (-2) := by
  have a2 := h2 (T 1 0) (Int.le_refl _)
  have hI := h.1.scope h2 h.2.1 h.2.2.2.2.1 hJ hx
  have hr := h.rest
  have hB := hr.2.2
  refine Or.inl ⟨rfl, z_wait_e.2.2, hI, ?_, ?_⟩
  · unfold z_scope
    have key : ∀ pr s, En (-1) (z_begin T pr j s) := fun pr s => hr.2.1.begin a2.2.2.1
    split
    · exact (key c (x - 6)).cg fun f i hf => by rw [z_wait_e.1 f i (by omega) (by omega) (by omega) (by omega) (by omega), up_f (by omega), up_f (by omega)]
    · exact (key a (x - 6)).cg fun f i hf => by rw [z_wait_e.1 f i (by omega) (by omega) (by omega) (by omega) (by omega)]
  · unfold z_scope
    unfold Bd at hB ⊢
    rw [z_wait_e.2.1, z_wait_e.1 2 0 (by omega) (by omega) (by omega) (by omega) (by omega), z_wait_e.1 3 0 (by omega) (by omega) (by omega) (by omega) (by omega)]
    split
    · simp only [up_f (show (2 : Nat) ≠ 32 by decide), up_f (show (2 : Nat) ≠ 31 by decide), up_f (show (3 : Nat) ≠ 32 by decide), up_f (show (3 : Nat) ≠ 31 by decide), up_f (show (6 : Nat) ≠ 32 by decide), up_f (show (6 : Nat) ≠ 31 by decide)]
      rw [z_begin_o 2 0 (by omega), z_begin_o 3 0 (by omega), z_begin_o 6 0 (by omega)]
      omega
    · rw [z_begin_o 2 0 (by omega), z_begin_o 3 0 (by omega), z_begin_o 6 0 (by omega)]
      omega
theorem pq_wait (h : Kk j (m + 1) T) {x o : Int} (hx : x = 4 ∨ x = 5) (ho : (0 ≤ o ∧ o < T 1 0) ∧ T 16 o = j ∧ T 25 o = 0 ∧ T 17 o = 1) : Pq j m (T 9 0) (z_waitIn T j x o) (-2) :=
  Or.inl ⟨rfl, z_wait_e.2.2, Rt.wait h (h.1.awaitw h.2.1 h.2.2.2.2.1 hx ho) (fun f i hf => z_wait_e.1 f i (by omega) (by omega) (by omega) (by omega) (by omega)) z_wait_e.2.1⟩
theorem pq_sum (h : Kk j (m + 1) T) (h8 : T 8 0 = -1) {v : Int} : Pq j m (T 9 0) (up T 18 j v) (-1) :=
  Or.inr ⟨by rw [up_f (by decide), h8], by omega, h.of (h.1.fr1 (by omega)) ((h.2.2.2.1.le (by omega)).cg fun f i hf => up_f (by omega)) (fun f i hf => up_f (by omega)), up_f (by decide)⟩
theorem pq_push (h : Kk j (m + 1) T) (h8 : T 8 0 = -1) {p s q : Int} (hf : T 21 j < 6) (hp : 0 ≤ p ∧ p ≤ 9) (hs : 1 ≤ s ∧ s ≤ 5) (hq : s = 1 ∨ s = 2 → 0 ≤ q ∧ q ≤ 9) : Pq j m (T 9 0) (z_pushFrame T j p s q (-1)) (-1) := by
  have e := (z_push_e (S := T) (j := j) (p := p) (s := s) (q := q) (k := -1)).1
  exact Or.inr ⟨by rw [e 8 0 (by decide) (by decide) (by decide) (by decide) (by decide) (by decide), h8], by omega, (h.push hf hp hs hq (by omega)).le (by omega), e 9 0 (by decide) (by decide) (by decide) (by decide) (by decide) (by decide)⟩
theorem pq_return (h : Kk j (m + 1) T) (h8 : T 8 0 = -1) {f a v : Int} (hv : 0 ≤ v ∧ v ≤ 8) : Pq j m (T 9 0) (up (up T 18 j a) 34 f v) (-1) :=
  Or.inr ⟨by rw [up_f (by decide), up_f (by decide), h8], by omega, h.of ((h.1.fr1 (by omega)).at_ hv) ((h.2.2.2.1.le (by omega)).cg fun f i hf => by rw [up_f (by omega), up_f (by omega)]) (fun f i hf => by rw [up_f (by omega), up_f (by omega)]), by rw [up_f (by decide), up_f (by decide)]⟩
end SU
