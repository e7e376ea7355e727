/-! how many timers run; giving, level by level -/
section SV
variable {S T U C : js} {j m x : Int}
/-- what runs in T ran in S -/
def Tq (S T : js) : Prop := T 1 0 = S 1 0 ∧ ∀ i, (0 ≤ T 29 i → 0 ≤ S 29 i) ∧ (0 ≤ T 31 i ∧ T 25 i = 0 → 0 ≤ S 31 i ∧ S 25 i = 0)
theorem Tq.rf : Tq S S := ⟨rfl, fun _ => ⟨id, id⟩⟩
theorem Tq.tr (h1 : Tq S T) (h2 : Tq T U) : Tq S U := ⟨h2.1.trans h1.1, fun i => ⟨fun z => (h1.2 i).1 ((h2.2 i).1 z), fun z => (h1.2 i).2 ((h2.2 i).2 z)⟩⟩
theorem Tq.cg (e : ∀ f i, (f = 1 ∨ f = 25 ∨ f = 29 ∨ f = 31) → T f i = S f i) : Tq S T := ⟨e 1 0 (by omega), fun i => by rw [e 29 i (by omega), e 31 i (by omega), e 25 i (by omega)]; exact ⟨id, id⟩⟩
theorem Tq.ready {k x : Int} : Tq S (z_putReady S k x) := by
  obtain ⟨e0, e26, e29, e23, e38, e7⟩ := z_putReady_e (S := S) (k := k) (x := x)
  refine ⟨e0 1 0 (by decide) (by decide) (by decide) (by decide) (by decide), fun i => ?_⟩
  rw [e29, e0 31 i (by decide) (by decide) (by decide) (by decide) (by decide), e0 25 i (by decide) (by decide) (by decide) (by decide) (by decide)]
  refine ⟨fun z => ?_, id⟩
  split at z <;> omega
theorem Tq.gv (hj : 0 ≤ j ∧ j < S 1 0) {n : Nat} : Tq S (gvR n S j) := by
  refine gvR_ind (P := fun T => Tq S T) (J := S 1 0) (fun T hT => hT.1) (fun T c hT _ _ _ => hT.tr (Tq.cg fun f i hf => up_f (by omega))) (fun T k hT _ _ _ => hT.tr Tq.ready) n S j Tq.rf hj.1 hj.2
theorem Tq.give (hj : 0 ≤ j ∧ j < S 1 0) : Tq S (z_give S j x) := by
  unfold z_give
  split
  · exact Tq.rf
  · split
    · split
      · exact Tq.cg fun f i hf => up_f (by omega)
      · exact Tq.rf
    · have h1 : Tq S (up S 19 j x) := Tq.cg fun f i hf => up_f (by omega)
      exact h1.tr (Tq.gv (by rw [h1.1]; exact hj))
theorem Tq.wake {v : Int} : Tq S (z_wake S v j) := by
  unfold z_wake
  split
  · exact Tq.ready
  · split
    · exact (Tq.cg fun f i hf => up_f (by omega)).tr Tq.ready
    · exact Tq.ready
theorem Tq.mark : Tq S (up S 25 j 1) := by
  refine ⟨up_f (by decide), fun i => ?_⟩
  rw [up_f (show (29 : Nat) ≠ 25 by decide), up_f (show (31 : Nat) ≠ 25 by decide)]
  refine ⟨id, fun z => ⟨z.1, ?_⟩⟩
  have e25 : up S 25 j 1 25 i = if i = j then 1 else S 25 i := by simp [up]
  rw [e25] at z
  split at z <;> omega
theorem Tq.fin1 : Tq S (z_fin1 S j) := by
  unfold z_fin1
  split
  · exact Tq.mark.tr Tq.wake
  · split
    · exact Tq.mark.tr Tq.wake
    · exact Tq.mark
theorem Tq.write {v : Int} : Tq S (z_write S v) := Tq.cg fun f i hf => z_write_e.1 f i (by omega) (by omega)
theorem Tq.fin2 (hj : 0 ≤ j ∧ j < S 1 0) (hp : -1 ≤ S 16 j ∧ S 16 j < S 1 0) (h17 : S 17 j = 1 → 0 ≤ S 16 j) : Tq S (z_fin2 S j) := by
  unfold z_fin2
  split
  · exact Tq.fin1.tr Tq.write
  · split
    · rename_i h
      have h1 : Tq S (z_fin1 S j) := Tq.fin1
      have h16 := h17 h.2
      exact h1.tr (Tq.give (by rw [h1.1]; omega))
    · exact Tq.fin1
theorem Tq.fin : ∀ (n : Nat) (S : js) (j : Int), Iv S → Bd n S → j < S 1 0 → (∀ i, 0 ≤ i → i < S 1 0 → S 24 i = 1 → S 21 i = 0) → Tq S (zfin n S j)
  | 0, S, j, _, _, _, _ => Tq.rf
  | n + 1, S, j, h, hB, hj, he => by
    rw [zfin]
    split
    · rename_i hc
      have h21 := he j hc.1 hj hc.2.2.1
      have F := h.fin2 (j := j) (m := n) (hB.le (by omega)) ⟨hc.1, hj⟩ hc.2.1 h21
      have hp := (h.gd.2.1 j hc.1 hj).1
      have hw := (h.wt j hc.1 hj).2.2.2.2.2.2.1
      have h1 : Tq S (z_fin2 S j) := Tq.fin2 ⟨hc.1, hj⟩ (by omega) (by omega)
      exact h1.tr (Tq.fin n (z_fin2 S j) (S 16 j) F.1 F.2.1 (by rw [F.2.2.1]; omega) (fun i z1 z2 z3 => by rw [F.2.2.2.2.1]; exact he i z1 (by rw [← F.2.2.1]; exact z2) (by rw [← F.2.2.2.2.2]; exact z3)))
    · exact Tq.rf
theorem Tq.push {p s q k : Int} : Tq S (z_pushFrame S j p s q k) := Tq.cg fun f i hf => z_push_e.1 f i (by omega) (by omega) (by omega) (by omega) (by omega) (by omega)
theorem Eb.tq (h : Eb j m S) (hm : 0 ≤ m) : Tq S (z_bodyEnds S j) := by
  obtain ⟨a1, a2, a3, a4, a5⟩ := h
  obtain ⟨h1, h2⟩ := z_end_ok a1 a2 a3 (by omega)
  have e1 : Tq S (z_end S j) := Tq.cg fun f i hf => by rcases hf with rfl | rfl | rfl | rfl <;> simp [z_end, up]
  exact e1.tr (Tq.fin 24 (z_end S j) j h1 ((a4.cg fun f i hf => by simp [z_end, up]; omega).le (by omega)) (by rw [e1.1]; exact a2.1.2) (fun i z1 z2 => (h2 i z1 z2).1))
theorem zcT_b : ∀ (n : Nat) (k : Int), 0 ≤ zcT S n k ∧ zcT S n k ≤ 2 * n
  | 0, k => by simp [zcT]
  | n + 1, k => by
    have := zcT_b n (k + 1)
    rw [zcT]
    split
    · split <;> split <;> omega
    · omega
theorem zcT_le (h : Tq S T) : ∀ (n : Nat) (k : Int), zcT T n k ≤ zcT S n k
  | 0, k => Int.le_refl _
  | n + 1, k => by
    have := zcT_le h n (k + 1)
    have h2 := h.2 k
    rw [zcT, zcT, h.1]
    split
    · have a : (if T 29 k < 0 then (0 : Int) else 1) ≤ (if S 29 k < 0 then 0 else 1) := by split <;> split <;> omega
      have b : (if T 31 k < 0 ∨ T 25 k ≠ 0 then (0 : Int) else 1) ≤ (if S 31 k < 0 ∨ S 25 k ≠ 0 then 0 else 1) := by split <;> split <;> omega
      omega
    · omega
/-- one that ran runs no more -/
theorem zcT_lt (h : Tq S T) (hj : j < S 1 0) (ho : T 29 j < 0 ∧ 0 ≤ S 29 j ∨ (T 31 j < 0 ∨ T 25 j ≠ 0) ∧ 0 ≤ S 31 j ∧ S 25 j = 0) : ∀ (n : Nat) (k : Int), k ≤ j → j < k + n → zcT T n k + 1 ≤ zcT S n k
  | 0, k, h1, h2 => by omega
  | n + 1, k, h1, h2 => by
    have h3 := h.2 k
    have hk : k < S 1 0 := by omega
    rw [zcT, zcT, h.1, if_pos hk, if_pos hk]
    have a : (if T 29 k < 0 then (0 : Int) else 1) ≤ (if S 29 k < 0 then 0 else 1) := by split <;> split <;> omega
    have b : (if T 31 k < 0 ∨ T 25 k ≠ 0 then (0 : Int) else 1) ≤ (if S 31 k < 0 ∨ S 25 k ≠ 0 then 0 else 1) := by split <;> split <;> omega
    by_cases hkj : k = j
    · subst hkj
      have c := zcT_le h n (k + 1)
      rcases ho with ho | ho
      · rw [if_pos ho.1, if_neg (c := S 29 k < 0) (by omega)]
        omega
      · rw [if_pos (c := T 31 k < 0 ∨ T 25 k ≠ 0) ho.1, if_neg (c := S 31 k < 0 ∨ S 25 k ≠ 0) (by omega)]
        omega
    · have c := zcT_lt h hj ho n (k + 1) (by omega) (by omega)
      omega
/-- j's DELAY may run too -/
theorem zcT_one (e1 : T 1 0 = S 1 0) (h : ∀ i, (i ≠ j → 0 ≤ T 29 i → 0 ≤ S 29 i) ∧ (0 ≤ T 31 i ∧ T 25 i = 0 → 0 ≤ S 31 i ∧ S 25 i = 0)) : ∀ (n : Nat) (k : Int), zcT T n k ≤ zcT S n k + (if k ≤ j then 1 else 0)
  | 0, k => by
    rw [zcT, zcT]
    split <;> omega
  | n + 1, k => by
    have c := zcT_one e1 h n (k + 1)
    have h2 := h k
    rw [zcT, zcT, e1]
    split
    · have b : (if T 31 k < 0 ∨ T 25 k ≠ 0 then (0 : Int) else 1) ≤ (if S 31 k < 0 ∨ S 25 k ≠ 0 then 0 else 1) := by split <;> split <;> omega
      by_cases hk : k = j
      · subst hk
        rw [if_neg (c := k + 1 ≤ k) (by omega)] at c
        rw [if_pos (Int.le_refl _)]
        have a : (if T 29 k < 0 then (0 : Int) else 1) ≤ (if S 29 k < 0 then 0 else 1) + 1 := by split <;> split <;> omega
        omega
      · have a : (if T 29 k < 0 then (0 : Int) else 1) ≤ (if S 29 k < 0 then 0 else 1) := by split <;> split <;> omega
        have d : (if k + 1 ≤ j then (1 : Int) else 0) ≤ (if k ≤ j then 1 else 0) := by split <;> split <;> omega
        omega
    · split <;> omega
/-- a new job, whose LIMIT may run -/
theorem zcT_new (e1 : T 1 0 = S 1 0 + 1) (h : ∀ i, i ≠ S 1 0 → (0 ≤ T 29 i → 0 ≤ S 29 i) ∧ (0 ≤ T 31 i ∧ T 25 i = 0 → 0 ≤ S 31 i ∧ S 25 i = 0)) (h0 : T 29 (S 1 0) < 0) : ∀ (n : Nat) (k : Int), k ≤ S 1 0 → zcT T n k ≤ zcT S n k + (if T 31 (S 1 0) < 0 then 0 else 1)
  | 0, k, _ => by
    rw [zcT, zcT]
    split <;> omega
  | n + 1, k, hk => by
    rw [zcT, zcT, e1, if_pos (by omega)]
    by_cases hkJ : k = S 1 0
    · have c : zcT T n (k + 1) = 0 := by
        cases n with
        | zero => rfl
        | succ n => rw [zcT, if_neg (by omega)]
      rw [c, hkJ, if_pos h0, if_neg (c := S 1 0 < S 1 0) (by omega)]
      split <;> split <;> omega
    · have c := zcT_new e1 h h0 n (k + 1) (by omega)
      have h2 := h k hkJ
      have a : (if T 29 k < 0 then (0 : Int) else 1) ≤ (if S 29 k < 0 then 0 else 1) := by split <;> split <;> omega
      have b : (if T 31 k < 0 ∨ T 25 k ≠ 0 then (0 : Int) else 1) ≤ (if S 31 k < 0 ∨ S 25 k ≠ 0 then 0 else 1) := by split <;> split <;> omega
      rw [if_pos (c := k < S 1 0) (by omega)]
      omega
/-- at most c timers more -/
def Tw (c : Int) (S T : js) : Prop := zcT T 25 0 ≤ zcT S 25 0 + c
theorem Tq.w (h : Tq S T) : Tw 0 S T := by have := zcT_le h 25 0; unfold Tw; omega
theorem Tw.tr {c d : Int} (h1 : Tw c S T) (h2 : Tw d T U) : Tw (c + d) S U := by unfold Tw at h1 h2 ⊢; omega
theorem Tw.le {c d : Int} (h : Tw c S T) (hd : c ≤ d) : Tw d S T := by unfold Tw at h ⊢; omega
theorem Tw.wait {y o : Int} (hj : 0 ≤ j) : Tw 0 S (z_waitIn S j y o) := (Tq.cg fun f i hf => z_wait_e.1 f i (by omega) (by omega) (by omega) (by omega) (by omega)).w
theorem Tw.delay {a : Int} (hj : 0 ≤ j) : Tw 1 S (z_waitIn (up (up S 29 j (S 2 0 + a)) 30 j (S 6 0)) j 1 (-1)) := by
  have := zcT_one (S := S) (T := z_waitIn (up (up S 29 j (S 2 0 + a)) 30 j (S 6 0)) j 1 (-1)) (j := j) (by simp [z_waitIn, up]) (fun i => by
    have e31 : z_waitIn (up (up S 29 j (S 2 0 + a)) 30 j (S 6 0)) j 1 (-1) 31 i = S 31 i := by simp [z_waitIn, up]
    have e25 : z_waitIn (up (up S 29 j (S 2 0 + a)) 30 j (S 6 0)) j 1 (-1) 25 i = S 25 i := by simp [z_waitIn, up]
    rw [e31, e25]
    exact ⟨fun hi => by simp [z_waitIn, up, hi], id⟩) 25 0
  unfold Tw
  split at this <;> omega
theorem beg_t {pr p s : Int} : z_begin S pr p s 1 0 = S 1 0 + 1 ∧ (∀ i, i ≠ S 1 0 → (0 ≤ z_begin S pr p s 29 i → 0 ≤ S 29 i) ∧ (0 ≤ z_begin S pr p s 31 i ∧ z_begin S pr p s 25 i = 0 → 0 ≤ S 31 i ∧ S 25 i = 0)) ∧ z_begin S pr p s 29 (S 1 0) < 0 ∧ z_begin S pr p s 31 (S 1 0) < 0 := by
  obtain ⟨eo, e16, e17, e19, e21, e23, e26, e29, e31⟩ := z_begin_e (S := S) (pr := pr) (p := p) (s := s)
  have e1 := (z_begin_f (S := S) (pr := pr) (p := p) (s := s)).1
  refine ⟨e1, fun i hi => ?_, ?_, ?_⟩
  · rw [e29, e31, if_neg hi, if_neg hi, z_begin_o 25 i (by omega)]
    exact ⟨id, id⟩
  · rw [e29, if_pos rfl]; omega
  · rw [e31, if_pos rfl]; omega
theorem Tw.begin {pr p s : Int} (hJ : 0 ≤ S 1 0) : Tw 0 S (z_begin S pr p s) := by
  obtain ⟨b1, b2, b3, b4⟩ := beg_t (S := S) (pr := pr) (p := p) (s := s)
  have := zcT_new b1 b2 b3 25 0 hJ
  rw [if_pos b4] at this
  exact this
theorem Tw.scope {x a c : Int} (hJ : 0 ≤ S 1 0) (hj : 0 ≤ j) : Tw 1 S (z_scope S j x a c) := by
  unfold z_scope
  split
  · obtain ⟨b1, b2, b3, b4⟩ := beg_t (S := S) (pr := c) (p := j) (s := x - 6)
    have : Tw 1 S (up (up (z_begin S c j (x - 6)) 31 (S 1 0) (S 2 0 + a)) 32 (S 1 0) (S 6 0)) := by
      have := zcT_new (S := S) (T := up (up (z_begin S c j (x - 6)) 31 (S 1 0) (S 2 0 + a)) 32 (S 1 0) (S 6 0)) (by rw [up_f (by decide), up_f (by decide)]; exact b1) (fun i hi => by rw [up_f (by decide), up_f (by decide), up_f (by decide), up_i hi, up_f (by decide), up_f (by decide)]; exact b2 i hi) (by rw [up_f (by decide), up_f (by decide)]; exact b3) 25 0 hJ
      unfold Tw
      split at this <;> omega
    exact this.tr (Tw.wait hj)
  · exact ((Tw.begin hJ).tr (Tw.wait hj)).le (by omega)
/-- the class's give, at a level -/
def z_gv (n : Nat) (S : js) (j x : Int) : js := if S 25 j ≠ 0 then S else if 0 ≤ S 19 j then (if 0 < x then up S 20 j (S 20 j + 1) else S) else gvR n (up S 19 j x) j
theorem z_gv_24 : z_gv 24 S j x = z_give S j x := rfl
theorem gv_ok (h : Iv S) (hj : 0 ≤ j ∧ j < S 1 0) {n : Nat} : Iv (gvR n S j) ∧ ∀ f i, f ≠ 7 → f ≠ 19 → f ≠ 23 → f ≠ 26 → f ≠ 29 → f ≠ 38 → gvR n S j f i = S f i := by
  refine gvR_ind (P := fun T => Iv T ∧ ∀ f i, f ≠ 7 → f ≠ 19 → f ≠ 23 → f ≠ 26 → f ≠ 29 → f ≠ 38 → T f i = S f i) (J := S 1 0) (fun T hT => hT.2 1 0 (by decide) (by decide) (by decide) (by decide) (by decide) (by decide)) (fun T c hT _ _ _ => ⟨hT.1.cause (by omega), fun f i z1 z2 z3 z4 z5 z6 => by rw [up_f z2]; exact hT.2 f i z1 z2 z3 z4 z5 z6⟩) (fun T k hT y1 y2 y3 => ⟨hT.1.wk1 ⟨y1, by rw [hT.2 1 0 (by decide) (by decide) (by decide) (by decide) (by decide) (by decide)]; exact y2⟩ y3, fun f i z1 z2 z3 z4 z5 z6 => by rw [z_putReady_e.1 f i z4 z5 z3 z6 z1]; exact hT.2 f i z1 z2 z3 z4 z5 z6⟩) n S j ⟨h, fun _ _ _ _ _ _ _ _ => rfl⟩ hj.1 hj.2
theorem z_gv_ok (h : Iv S) (hj : 0 ≤ j ∧ j < S 1 0) (hx : -1 ≤ x ∧ x ≤ 99) {n : Nat} : Iv (z_gv n S j x) ∧ ∀ f i, f ≠ 7 → f ≠ 19 → f ≠ 20 → f ≠ 23 → f ≠ 26 → f ≠ 29 → f ≠ 38 → z_gv n S j x f i = S f i := by
  unfold z_gv
  split
  · exact ⟨h, fun _ _ _ _ _ _ _ _ _ => rfl⟩
  · split
    · split
      · exact ⟨h.fr1 (by omega), fun f i _ _ z _ _ _ _ => up_f z⟩
      · exact ⟨h, fun _ _ _ _ _ _ _ _ _ => rfl⟩
    · obtain ⟨g1, g2⟩ := gv_ok (n := n) (h.cause (c := j) (x := x) hx) (j := j) (by rw [up_f (by decide)]; exact hj)
      exact ⟨g1, fun f i z1 z2 z3 z4 z5 z6 z7 => by rw [g2 f i z1 z2 z4 z5 z6 z7, up_f z2]⟩
theorem z_sh_cg : ∀ (n : Nat) (f : Int), C 21 j = S 21 j → (∀ i, f ≤ i → i < j * 6 + S 21 j → C 35 i = S 35 i) → z_sh C j n f = z_sh S j n f
  | 0, f, _, _ => rfl
  | n + 1, f, e, h => by
    rw [z_sh, z_sh, e]
    split
    · rename_i hf
      rw [h f (Int.le_refl _) hf, z_sh_cg n (f + 1) e (fun i z1 z2 => h i (by omega) z2)]
    · rfl
theorem Ag.sh (h : Ag C S) (hj : 0 ≤ j ∧ j < S 1 0) : z_shielded C j = z_shielded S j :=
  z_sh_cg 7 (j * 6) (h.a1 21 j (by unfold cm; omega)) (fun i z1 z2 => (h.a4 j i hj.1 hj.2 z1 z2).2.2.1)
end SV
