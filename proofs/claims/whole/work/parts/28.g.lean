/-! how the class's state agrees with the reference's -/
section AG
variable {S T C D : js}
def cm (f : Nat) : Prop := (1 ≤ f ∧ f ≤ 5) ∨ (11 ≤ f ∧ f ≤ 23) ∨ f = 25
def A1 (C S : js) : Prop := ∀ f i, cm f → C f i = S f i
def A2 (S : js) : Prop := ∀ i, S 1 0 ≤ i → S 18 i = 0 ∧ S 20 i = 0 ∧ S 24 i = 0 ∧ S 25 i = 0 ∧ S 27 i = 0
def AW (C S : js) (j : Int) : Prop := (S 26 j = 0 ∧ C 50 j = -1 ∨ S 26 j = 1 ∧ C 50 j = 1 ∨ S 26 j = 4 ∧ C 50 j = 4 ∨ S 26 j = 5 ∧ C 50 j = 5 ∨ S 26 j = 8 ∧ 8 ≤ C 50 j ∧ C 50 j ≤ 10) ∧ (C 51 j = if S 26 j = 0 ∨ S 26 j = 1 then -1 else S 27 j) ∧ (C 52 j = if S 29 j < 0 then 2147483647 else S 29 j) ∧ (C 54 j = if S 31 j < 0 ∨ S 25 j ≠ 0 then 2147483647 else S 31 j)
def A3 (C S : js) : Prop := ∀ j, 0 ≤ j → j < S 1 0 → AW C S j
def A3o (C S : js) : Prop := (∀ j, 0 ≤ j → j < S 1 0 → C 56 j = z_open S j) ∧ C 57 0 = zcF S 25 0
def AF (C S : js) (f : Int) : Prop := C 33 f = S 33 f ∧ C 34 f = S 34 f ∧ C 35 f = S 35 f ∧ C 37 f = S 37 f ∧ (S 35 f = 1 ∨ S 35 f = 2 → C 36 f = S 36 f)
def A4 (C S : js) : Prop := ∀ k f, 0 ≤ k → k < S 1 0 → k * 6 ≤ f → f < k * 6 + S 21 k → AF C S f
def A5 (C S : js) : Prop := C 61 0 = S 7 0 ∧ (0 ≤ C 60 0 ∧ C 60 0 < 24) ∧ ∀ i, 0 ≤ i → i < S 7 0 → C 59 ((C 60 0 + i) % 24) = S 38 i
def trn (C : js) (l j : Int) : Int := if l = 0 then C 53 j else C 55 j
def rnn (S : js) (l j : Int) : Prop := if l = 0 then 0 ≤ S 29 j else 0 ≤ S 31 j ∧ S 25 j = 0
/-- the timers' turns are in the order of the reference's -/
def A7 (C S : js) : Prop := (0 ≤ C 58 0 ∧ C 58 0 ≤ S 6 0) ∧ (∀ l j, (l = 0 ∨ l = 1) → 0 ≤ j → j < S 1 0 → (0 ≤ trn C l j ∧ trn C l j ≤ C 58 0) ∧ (rnn S l j → trn C l j < C 58 0)) ∧
  (∀ l j l' j', (l = 0 ∨ l = 1) → (l' = 0 ∨ l' = 1) → 0 ≤ j → j < S 1 0 → 0 ≤ j' → j' < S 1 0 → rnn S l j → rnn S l' j' → (trn C l j < trn C l' j' ↔ snc S j l < snc S j' l') ∧ (trn C l j = trn C l' j' → l = l' ∧ j = j'))
def Ag (C S : js) : Prop := A1 C S ∧ A2 S ∧ A3 C S ∧ A3o C S ∧ A4 C S ∧ A5 C S ∧ A7 C S
theorem Ag.a1 (h : Ag C S) : A1 C S := h.1
theorem Ag.a2 (h : Ag C S) : A2 S := h.2.1
theorem Ag.a3 (h : Ag C S) : A3 C S := h.2.2.1
theorem Ag.a3o (h : Ag C S) : A3o C S := h.2.2.2.1
theorem Ag.a4 (h : Ag C S) : A4 C S := h.2.2.2.2.1
theorem Ag.a5 (h : Ag C S) : A5 C S := h.2.2.2.2.2.1
theorem Ag.a7 (h : Ag C S) : A7 C S := h.2.2.2.2.2.2
theorem z_cn_cg (e : ∀ f i, (f = 1 ∨ f = 16 ∨ f = 25) → T f i = S f i) {j : Int} : ∀ n k, z_cn T j n k = z_cn S j n k
  | 0, k => rfl
  | n + 1, k => by rw [z_cn, z_cn, z_cn_cg e n (k + 1), e 1 0 (by omega), e 16 k (by omega), e 25 k (by omega)]
theorem zcF_cg (e : ∀ f i, (f = 1 ∨ f = 25) → T f i = S f i) : ∀ n k, zcF T n k = zcF S n k
  | 0, k => rfl
  | n + 1, k => by rw [zcF, zcF, zcF_cg e n (k + 1), e 1 0 (by omega), e 25 k (by omega)]
theorem A2.cg (h : A2 S) (e : ∀ f i, (f = 1 ∨ f = 18 ∨ f = 20 ∨ f = 24 ∨ f = 25 ∨ f = 27) → T f i = S f i) : A2 T := by
  have e1 := fun i => e 1 i (by omega)
  have e2 := fun i => e 18 i (by omega)
  have e3 := fun i => e 20 i (by omega)
  have e4 := fun i => e 24 i (by omega)
  have e5 := fun i => e 25 i (by omega)
  have e6 := fun i => e 27 i (by omega)
  unfold A2 at h ⊢
  simp only [e1, e2, e3, e4, e5, e6]
  exact h
theorem A3.cg (h : A3 C S) (e : ∀ f i, (f = 1 ∨ f = 25 ∨ f = 26 ∨ f = 27 ∨ f = 29 ∨ f = 31) → T f i = S f i) (c : ∀ f i, (f = 50 ∨ f = 51 ∨ f = 52 ∨ f = 54) → D f i = C f i) : A3 D T := by
  have e1 := fun i => e 1 i (by omega)
  have e2 := fun i => e 25 i (by omega)
  have e3 := fun i => e 26 i (by omega)
  have e4 := fun i => e 27 i (by omega)
  have e5 := fun i => e 29 i (by omega)
  have e6 := fun i => e 31 i (by omega)
  have c1 := fun i => c 50 i (by omega)
  have c2 := fun i => c 51 i (by omega)
  have c3 := fun i => c 52 i (by omega)
  have c4 := fun i => c 54 i (by omega)
  unfold A3 AW at h ⊢
  simp only [e1, e2, e3, e4, e5, e6, c1, c2, c3, c4]
  exact h
theorem A3o.cg (h : A3o C S) (e : ∀ f i, (f = 1 ∨ f = 16 ∨ f = 25) → T f i = S f i) (c : ∀ f i, (f = 56 ∨ f = 57) → D f i = C f i) : A3o D T := by
  refine ⟨fun j z1 z2 => ?_, ?_⟩
  · rw [c 56 j (by omega), h.1 j z1 (by rw [← e 1 0 (by omega)]; exact z2)]
    exact (z_cn_cg e 25 0).symm
  · rw [c 57 0 (by omega), h.2]
    exact (zcF_cg (fun f i hf => e f i (by omega)) 25 0).symm
theorem A4.cg (h : A4 C S) (e : ∀ f i, (f = 1 ∨ f = 21 ∨ f = 33 ∨ f = 34 ∨ f = 35 ∨ f = 36 ∨ f = 37) → T f i = S f i) (c : ∀ f i, (f = 33 ∨ f = 34 ∨ f = 35 ∨ f = 36 ∨ f = 37) → D f i = C f i) : A4 D T := by
  have e1 := fun i => e 1 i (by omega)
  have e2 := fun i => e 21 i (by omega)
  have e3 := fun i => e 33 i (by omega)
  have e4 := fun i => e 34 i (by omega)
  have e5 := fun i => e 35 i (by omega)
  have e6 := fun i => e 36 i (by omega)
  have e7 := fun i => e 37 i (by omega)
  have c1 := fun i => c 33 i (by omega)
  have c2 := fun i => c 34 i (by omega)
  have c3 := fun i => c 35 i (by omega)
  have c4 := fun i => c 36 i (by omega)
  have c5 := fun i => c 37 i (by omega)
  unfold A4 AF at h ⊢
  simp only [e1, e2, e3, e4, e5, e6, e7, c1, c2, c3, c4, c5]
  exact h
theorem A5.cg (h : A5 C S) (e : ∀ f i, (f = 7 ∨ f = 38) → T f i = S f i) (c : ∀ f i, (f = 59 ∨ f = 60 ∨ f = 61) → D f i = C f i) : A5 D T := by
  have e1 := fun i => e 7 i (by omega)
  have e2 := fun i => e 38 i (by omega)
  have c1 := fun i => c 59 i (by omega)
  have c2 := fun i => c 60 i (by omega)
  have c3 := fun i => c 61 i (by omega)
  unfold A5 at h ⊢
  simp only [e1, e2, c1, c2, c3]
  exact h
theorem A7.cg (h : A7 C S) (e : ∀ f i, (f = 1 ∨ f = 6 ∨ f = 25 ∨ f = 29 ∨ f = 30 ∨ f = 31 ∨ f = 32) → T f i = S f i) (c : ∀ f i, (f = 53 ∨ f = 55 ∨ f = 58) → D f i = C f i) : A7 D T := by
  have e1 := fun i => e 1 i (by omega)
  have e2 := fun i => e 6 i (by omega)
  have e3 := fun i => e 25 i (by omega)
  have e4 := fun i => e 29 i (by omega)
  have e5 := fun i => e 30 i (by omega)
  have e6 := fun i => e 31 i (by omega)
  have e7 := fun i => e 32 i (by omega)
  have c1 := fun i => c 53 i (by omega)
  have c2 := fun i => c 55 i (by omega)
  have c3 := fun i => c 58 i (by omega)
  unfold A7 trn rnn snc at h ⊢
  simp only [e1, e2, e3, e4, e5, e6, e7, c1, c2, c3]
  exact h
theorem A1.both (h : A1 C S) (f : Nat) (i v : Int) : A1 (up C f i v) (up S f i v) := fun f' i' hf => by
  simp only [up]
  split
  · rfl
  · exact h f' i' hf
theorem A1.l (h : A1 C S) {f : Nat} (hf : ¬ cm f) (i v : Int) : A1 (up C f i v) S := fun f' i' hf' => by
  have hne : f' ≠ f := fun e => hf (by rw [← e]; exact hf')
  rw [up_f hne]
  exact h f' i' hf'
theorem A1.r (h : A1 C S) {f : Nat} (hf : ¬ cm f) (i v : Int) : A1 C (up S f i v) := fun f' i' hf' => by
  have hne : f' ≠ f := fun e => hf (by rw [← e]; exact hf')
  rw [up_f hne]
  exact h f' i' hf'
/-- a row that both have and nothing else hangs on -/
theorem Ag.cm1 (h : Ag C S) {f : Nat} {i v : Int} (hf : f = 2 ∨ f = 3 ∨ f = 4 ∨ f = 5 ∨ f = 11 ∨ f = 12 ∨ f = 13 ∨ f = 14 ∨ f = 15 ∨ f = 19 ∨ f = 22 ∨ f = 23) : Ag (up C f i v) (up S f i v) :=
  ⟨h.a1.both f i v, h.a2.cg fun f' i' hf' => up_f (by omega), h.a3.cg (fun f' i' hf' => up_f (by omega)) (fun f' i' hf' => up_f (by omega)), h.a3o.cg (fun f' i' hf' => up_f (by omega)) (fun f' i' hf' => up_f (by omega)), h.a4.cg (fun f' i' hf' => up_f (by omega)) (fun f' i' hf' => up_f (by omega)), h.a5.cg (fun f' i' hf' => up_f (by omega)) (fun f' i' hf' => up_f (by omega)), h.a7.cg (fun f' i' hf' => up_f (by omega)) (fun f' i' hf' => up_f (by omega))⟩
theorem Ag.cm2 (h : Ag C S) {f : Nat} {i v : Int} (hf : f = 18 ∨ f = 20) (hi : 0 ≤ i ∧ i < S 1 0) : Ag (up C f i v) (up S f i v) := by
  refine ⟨h.a1.both f i v, fun k hk => ?_, h.a3.cg (fun f' i' hf' => up_f (by omega)) (fun f' i' hf' => up_f (by omega)), h.a3o.cg (fun f' i' hf' => up_f (by omega)) (fun f' i' hf' => up_f (by omega)), h.a4.cg (fun f' i' hf' => up_f (by omega)) (fun f' i' hf' => up_f (by omega)), h.a5.cg (fun f' i' hf' => up_f (by omega)) (fun f' i' hf' => up_f (by omega)), h.a7.cg (fun f' i' hf' => up_f (by omega)) (fun f' i' hf' => up_f (by omega))⟩
  rw [up_f (by omega)] at hk
  have := h.a2 k hk
  rw [up_i (by omega), up_i (by omega), up_i (by omega), up_i (by omega), up_i (by omega)]
  exact this
/-- rows of the reference alone -/
theorem Ag.so (h : Ag C S) {f : Nat} {i v : Int} (hf : f = 0 ∨ f = 8 ∨ f = 9 ∨ f = 10 ∨ f = 28 ∨ f = 39 ∨ f = 40) : Ag C (up S f i v) :=
  ⟨h.a1.r (by unfold cm; omega) i v, h.a2.cg fun f' i' hf' => up_f (by omega), h.a3.cg (fun f' i' hf' => up_f (by omega)) (fun _ _ _ => rfl), h.a3o.cg (fun f' i' hf' => up_f (by omega)) (fun _ _ _ => rfl), h.a4.cg (fun f' i' hf' => up_f (by omega)) (fun _ _ _ => rfl), h.a5.cg (fun f' i' hf' => up_f (by omega)) (fun _ _ _ => rfl), h.a7.cg (fun f' i' hf' => up_f (by omega)) (fun _ _ _ => rfl)⟩
theorem Ag.ended (h : Ag C S) {i v : Int} (hi : 0 ≤ i ∧ i < S 1 0) : Ag C (up S 24 i v) := by
  refine ⟨h.a1.r (by unfold cm; omega) i v, fun k hk => ?_, h.a3.cg (fun f' i' hf' => up_f (by omega)) (fun _ _ _ => rfl), h.a3o.cg (fun f' i' hf' => up_f (by omega)) (fun _ _ _ => rfl), h.a4.cg (fun f' i' hf' => up_f (by omega)) (fun _ _ _ => rfl), h.a5.cg (fun f' i' hf' => up_f (by omega)) (fun _ _ _ => rfl), h.a7.cg (fun f' i' hf' => up_f (by omega)) (fun _ _ _ => rfl)⟩
  rw [up_f (by omega)] at hk
  have := h.a2 k hk
  rw [up_i (by omega), up_i (by omega), up_i (by omega), up_i (by omega), up_i (by omega)]
  exact this
theorem Ag.write (h : Ag C S) {v : Int} : Ag (z_write C v) (z_write S v) := by
  have e : C 3 0 = S 3 0 := h.a1 3 0 (by unfold cm; omega)
  unfold z_write
  rw [e]
  split
  · exact (h.cm1 (by omega)).cm1 (by omega)
  · exact h.cm1 (by omega)
theorem Ag.at_ (h : Ag C S) {f v : Int} : Ag (up C 34 f v) (up S 34 f v) := by
  refine ⟨h.a1.both 34 f v, h.a2.cg fun f' i' hf' => up_f (by omega), h.a3.cg (fun f' i' hf' => up_f (by omega)) (fun f' i' hf' => up_f (by omega)), h.a3o.cg (fun f' i' hf' => up_f (by omega)) (fun f' i' hf' => up_f (by omega)), fun k i z1 z2 z3 z4 => ?_, h.a5.cg (fun f' i' hf' => up_f (by omega)) (fun f' i' hf' => up_f (by omega)), h.a7.cg (fun f' i' hf' => up_f (by omega)) (fun f' i' hf' => up_f (by omega))⟩
  rw [up_f (by omega)] at z2 z4
  have a := h.a4 k i z1 z2 z3 z4
  unfold AF at a ⊢
  simp only [up_f (show (33 : Nat) ≠ 34 by decide), up_f (show (35 : Nat) ≠ 34 by decide), up_f (show (36 : Nat) ≠ 34 by decide), up_f (show (37 : Nat) ≠ 34 by decide)]
  refine ⟨a.1, ?_, a.2.2⟩
  simp only [up]
  split
  · rfl
  · exact a.2.1
theorem Ag.pop (h : Ag C S) {j n : Int} (hn : n ≤ S 21 j) : Ag (up C 21 j n) (up S 21 j n) := by
  refine ⟨h.a1.both 21 j n, h.a2.cg fun f' i' hf' => up_f (by omega), h.a3.cg (fun f' i' hf' => up_f (by omega)) (fun f' i' hf' => up_f (by omega)), h.a3o.cg (fun f' i' hf' => up_f (by omega)) (fun f' i' hf' => up_f (by omega)), fun k i z1 z2 z3 z4 => ?_, h.a5.cg (fun f' i' hf' => up_f (by omega)) (fun f' i' hf' => up_f (by omega)), h.a7.cg (fun f' i' hf' => up_f (by omega)) (fun f' i' hf' => up_f (by omega))⟩
  rw [up_f (by omega)] at z2
  have e21 : up S 21 j n 21 k = if k = j then n else S 21 k := by simp [up]
  rw [e21] at z4
  have a := h.a4 k i z1 z2 z3 (by by_cases hk : k = j; (subst hk; rw [if_pos rfl] at z4; omega); (rw [if_neg hk] at z4; exact z4))
  unfold AF at a ⊢
  simpa only [up_f (show (33 : Nat) ≠ 21 by decide), up_f (show (34 : Nat) ≠ 21 by decide), up_f (show (35 : Nat) ≠ 21 by decide), up_f (show (36 : Nat) ≠ 21 by decide), up_f (show (37 : Nat) ≠ 21 by decide)] using a
theorem Ag.push (h : Ag C S) {j s p q q' k : Int} (hj : 0 ≤ j ∧ j < S 1 0) (hf : 0 ≤ S 21 j ∧ S 21 j < 6) (hb : ∀ i, 0 ≤ i → i < S 1 0 → S 21 i ≤ 6) (hq : s = 1 ∨ s = 2 → q = q') : Ag (c_push C j s p q k) (z_pushFrame S j p s q' k) := by
  have e21 : C 21 j = S 21 j := h.a1 21 j (by unfold cm; omega)
  unfold c_push z_pushFrame
  rw [e21]
  refine ⟨fun f i hf => ?_, h.a2.cg fun f' i' hf' => ?_, h.a3.cg (fun f' i' hf' => ?_) (fun f' i' hf' => ?_), h.a3o.cg (fun f' i' hf' => ?_) (fun f' i' hf' => ?_), fun k' i z1 z2 z3 z4 => ?_, h.a5.cg (fun f' i' hf' => ?_) (fun f' i' hf' => ?_), h.a7.cg (fun f' i' hf' => ?_) (fun f' i' hf' => ?_)⟩
  · unfold cm at hf
    have h1 := h.a1 f i hf
    simp only [up]
    rw [h1]
    by_cases hc : f = 21
    · subst hc; simp
    · have n1 : f ≠ 33 := by omega
      have n2 : f ≠ 34 := by omega
      have n3 : f ≠ 35 := by omega
      have n4 : f ≠ 36 := by omega
      have n5 : f ≠ 37 := by omega
      simp [hc, n1, n2, n3, n4, n5]
  rotate_left 5
  · simp only [up] at z2 z4
    simp at z2 z4
    have hbk := hb k' z1 z2
    by_cases hi : i = j * 6 + S 21 j
    · subst hi
      unfold AF
      simp [up]
      intro hs
      exact hq hs
    · have a := h.a4 k' i z1 z2 z3 (by by_cases hk : k' = j; (subst hk; rw [if_pos rfl] at z4; omega); (rw [if_neg hk] at z4; exact z4))
      unfold AF at a ⊢
      simp [up, hi]
      exact a
  all_goals
    rw [up_f (by omega), up_f (by omega), up_f (by omega), up_f (by omega), up_f (by omega), up_f (by omega)]
end AG
