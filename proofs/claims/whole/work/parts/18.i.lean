/-! the invariant of the reference, in parts; what keeps each -/
section IV
variable {S T : js}
def WJ (S : js) (k : Int) : Prop := (S 26 k = 0 ∨ S 26 k = 1 ∨ S 26 k = 4 ∨ S 26 k = 5 ∨ S 26 k = 8) ∧ (S 26 k ≠ 0 → 0 < S 21 k ∧ S 25 k = 0) ∧ (S 26 k = 4 ∨ S 26 k = 5 ∨ S 26 k = 8 → (0 ≤ S 27 k ∧ S 27 k < S 1 0) ∧ S 16 (S 27 k) = k ∧ S 25 (S 27 k) = 0) ∧ (S 26 k = 8 → 1 < S 17 (S 27 k)) ∧ (S 26 k = 4 ∨ S 26 k = 5 → S 17 (S 27 k) = 1) ∧ (1 < S 17 k → S 25 k = 0 → S 26 (S 16 k) = 8 ∧ S 27 (S 16 k) = k) ∧ (S 17 k = 0 ↔ S 16 k = -1) ∧ (S 25 k = 1 → S 21 k = 0) ∧ (-1 ≤ S 27 k ∧ S 27 k < 24) ∧ (S 26 k = 1 ↔ 0 ≤ S 29 k)
/-- who waits, for what -/
def Wt (S : js) : Prop := ∀ k, 0 ≤ k → k < S 1 0 → WJ S k
def FJ (S : js) (k f : Int) : Prop := (0 ≤ S 33 f ∧ S 33 f ≤ 9) ∧ (0 ≤ S 34 f ∧ S 34 f ≤ 8) ∧ (S 35 f = 0 ↔ f = k * 6) ∧ (S 35 f = 1 ∨ S 35 f = 2 → 0 ≤ S 36 f ∧ S 36 f ≤ 9) ∧ (-1 ≤ S 37 f ∧ S 37 f ≤ 99)
/-- the frames -/
def Fr (S : js) : Prop := ∀ k f, 0 ≤ k → k < S 1 0 → k * 6 ≤ f → f < k * 6 + S 21 k → FJ S k f
/-- slots hold own children -/
def Sl (S : js) : Prop := ∀ k a, 0 ≤ k → k < S 1 0 → 0 ≤ a → a < 3 → S 22 (k * 3 + a) = -1 ∨ (k < S 22 (k * 3 + a) ∧ S 22 (k * 3 + a) < S 1 0 ∧ S 16 (S 22 (k * 3 + a)) = k ∧ S 17 (S 22 (k * 3 + a)) = 1)
def TJ (S : js) (k : Int) : Prop := -1 ≤ S 29 k ∧ (0 ≤ S 29 k → (S 2 0 ≤ S 29 k ∧ S 29 k ≤ S 2 0 + 50) ∧ 0 ≤ S 30 k ∧ S 30 k < S 6 0) ∧ -1 ≤ S 31 k ∧ (0 ≤ S 31 k → S 31 k ≤ S 2 0 + 50 ∧ (S 25 k = 0 → S 2 0 ≤ S 31 k) ∧ 0 ≤ S 32 k ∧ S 32 k < S 6 0)
/-- the timers -/
def Tm (S : js) : Prop := (0 ≤ S 2 0 ∧ 0 ≤ S 3 0 ∧ 0 ≤ S 6 0) ∧ ∀ k, 0 ≤ k → k < S 1 0 → TJ S k
/-- the ready jobs have frames -/
def Rw (S : js) : Prop := (∀ i, 0 ≤ i → i < S 7 0 → 0 < S 21 (S 38 i)) ∧ ∀ k, 0 ≤ k → k < S 1 0 → -1 ≤ S 23 k ∧ S 23 k ≤ 99
/-- the programs -/
def Pg (S : js) : Prop := (∀ p, 0 ≤ p → p < 10 → 0 ≤ S 11 p ∧ S 11 p ≤ 8) ∧ ∀ k, 0 ≤ k → k < 80 → (0 ≤ S 12 k ∧ S 12 k ≤ 15) ∧ (jr (S 13 k) ∧ jr (S 14 k)) ∧ ¬ WR (S 12 k) (S 13 k) (S 14 k)
def Iv (S : js) : Prop := Gd S ∧ Wt S ∧ Fr S ∧ Sl S ∧ Tm S ∧ Rw S ∧ Pg S
theorem Iv.gd (h : Iv S) : Gd S := h.1
theorem Iv.wt (h : Iv S) : Wt S := h.2.1
theorem Iv.fr (h : Iv S) : Fr S := h.2.2.1
theorem Iv.sl (h : Iv S) : Sl S := h.2.2.2.1
theorem Iv.tm (h : Iv S) : Tm S := h.2.2.2.2.1
theorem Iv.rw (h : Iv S) : Rw S := h.2.2.2.2.2.1
theorem Iv.pg (h : Iv S) : Pg S := h.2.2.2.2.2.2
theorem Iv.J (h : Iv S) : 0 ≤ S 1 0 ∧ S 1 0 ≤ 24 := h.1.1
theorem Gd.cg (h : Gd S) (e : ∀ f i, (f = 1 ∨ f = 7 ∨ f = 16 ∨ f = 17 ∨ f = 19 ∨ f = 21 ∨ f = 24 ∨ f = 25 ∨ f = 26 ∨ f = 35 ∨ f = 38) → T f i = S f i) : Gd T := by
  have e1 := fun i => e 1 i (by omega)
  have e2 := fun i => e 7 i (by omega)
  have e3 := fun i => e 16 i (by omega)
  have e4 := fun i => e 17 i (by omega)
  have e5 := fun i => e 19 i (by omega)
  have e6 := fun i => e 21 i (by omega)
  have e7 := fun i => e 24 i (by omega)
  have e8 := fun i => e 25 i (by omega)
  have e9 := fun i => e 26 i (by omega)
  have e10 := fun i => e 35 i (by omega)
  have e11 := fun i => e 38 i (by omega)
  unfold Gd GJ Rq at h ⊢
  simp only [e1, e2, e3, e4, e5, e6, e7, e8, e9, e10, e11]
  exact h
theorem Wt.cg (h : Wt S) (e : ∀ f i, (f = 1 ∨ f = 16 ∨ f = 17 ∨ f = 21 ∨ f = 25 ∨ f = 26 ∨ f = 27 ∨ f = 29) → T f i = S f i) : Wt T := by
  have e1 := fun i => e 1 i (by omega)
  have e2 := fun i => e 27 i (by omega)
  have e3 := fun i => e 16 i (by omega)
  have e4 := fun i => e 17 i (by omega)
  have e6 := fun i => e 21 i (by omega)
  have e8 := fun i => e 25 i (by omega)
  have e9 := fun i => e 26 i (by omega)
  have e10 := fun i => e 29 i (by omega)
  unfold Wt WJ at h ⊢
  simp only [e1, e2, e3, e4, e6, e8, e9, e10]
  exact h
theorem Fr.cg (h : Fr S) (e : ∀ f i, (f = 1 ∨ f = 21 ∨ f = 33 ∨ f = 34 ∨ f = 35 ∨ f = 36 ∨ f = 37) → T f i = S f i) : Fr T := by
  have e1 := fun i => e 1 i (by omega)
  have e2 := fun i => e 21 i (by omega)
  have e3 := fun i => e 33 i (by omega)
  have e4 := fun i => e 34 i (by omega)
  have e6 := fun i => e 35 i (by omega)
  have e8 := fun i => e 36 i (by omega)
  have e9 := fun i => e 37 i (by omega)
  unfold Fr FJ at h ⊢
  simp only [e1, e2, e3, e4, e6, e8, e9]
  exact h
theorem Sl.cg (h : Sl S) (e : ∀ f i, (f = 1 ∨ f = 16 ∨ f = 17 ∨ f = 22) → T f i = S f i) : Sl T := by
  have e1 := fun i => e 1 i (by omega)
  have e2 := fun i => e 16 i (by omega)
  have e3 := fun i => e 17 i (by omega)
  have e4 := fun i => e 22 i (by omega)
  unfold Sl at h ⊢
  simp only [e1, e2, e3, e4]
  exact h
theorem Tm.cg (h : Tm S) (e : ∀ f i, (f = 1 ∨ f = 2 ∨ f = 3 ∨ f = 6 ∨ f = 25 ∨ f = 29 ∨ f = 30 ∨ f = 31 ∨ f = 32) → T f i = S f i) : Tm T := by
  have e1 := fun i => e 1 i (by omega)
  have e2 := fun i => e 2 i (by omega)
  have e3 := fun i => e 3 i (by omega)
  have e4 := fun i => e 6 i (by omega)
  have e5 := fun i => e 25 i (by omega)
  have e6 := fun i => e 29 i (by omega)
  have e7 := fun i => e 30 i (by omega)
  have e8 := fun i => e 31 i (by omega)
  have e9 := fun i => e 32 i (by omega)
  unfold Tm TJ at h ⊢
  simp only [e1, e2, e3, e4, e5, e6, e7, e8, e9]
  exact h
theorem Rw.cg (h : Rw S) (e : ∀ f i, (f = 1 ∨ f = 7 ∨ f = 21 ∨ f = 23 ∨ f = 38) → T f i = S f i) : Rw T := by
  have e1 := fun i => e 1 i (by omega)
  have e2 := fun i => e 7 i (by omega)
  have e3 := fun i => e 21 i (by omega)
  have e4 := fun i => e 23 i (by omega)
  have e5 := fun i => e 38 i (by omega)
  unfold Rw at h ⊢
  simp only [e1, e2, e3, e4, e5]
  exact h
theorem Pg.cg (h : Pg S) (e : ∀ f i, (f = 11 ∨ f = 12 ∨ f = 13 ∨ f = 14) → T f i = S f i) : Pg T := by
  have e1 := fun i => e 11 i (by omega)
  have e2 := fun i => e 12 i (by omega)
  have e3 := fun i => e 13 i (by omega)
  have e4 := fun i => e 14 i (by omega)
  unfold Pg at h ⊢
  simp only [e1, e2, e3, e4]
  exact h
/-- rows that the invariant does not speak of -/
theorem Iv.cg (h : Iv S) (e : ∀ f i, f ≠ 0 → f ≠ 4 → f ≠ 5 → f ≠ 8 → f ≠ 9 → f ≠ 10 → f ≠ 15 → f ≠ 18 → f ≠ 20 → f ≠ 28 → f ≠ 39 → f ≠ 40 → T f i = S f i) : Iv T :=
  ⟨h.gd.cg fun f i hf => e f i (by omega) (by omega) (by omega) (by omega) (by omega) (by omega) (by omega) (by omega) (by omega) (by omega) (by omega) (by omega),
   h.wt.cg fun f i hf => e f i (by omega) (by omega) (by omega) (by omega) (by omega) (by omega) (by omega) (by omega) (by omega) (by omega) (by omega) (by omega),
   h.fr.cg fun f i hf => e f i (by omega) (by omega) (by omega) (by omega) (by omega) (by omega) (by omega) (by omega) (by omega) (by omega) (by omega) (by omega),
   h.sl.cg fun f i hf => e f i (by omega) (by omega) (by omega) (by omega) (by omega) (by omega) (by omega) (by omega) (by omega) (by omega) (by omega) (by omega),
   h.tm.cg fun f i hf => e f i (by omega) (by omega) (by omega) (by omega) (by omega) (by omega) (by omega) (by omega) (by omega) (by omega) (by omega) (by omega),
   h.rw.cg fun f i hf => e f i (by omega) (by omega) (by omega) (by omega) (by omega) (by omega) (by omega) (by omega) (by omega) (by omega) (by omega) (by omega),
   h.pg.cg fun f i hf => e f i (by omega) (by omega) (by omega) (by omega) (by omega) (by omega) (by omega) (by omega) (by omega) (by omega) (by omega) (by omega)⟩
theorem Iv.fr1 (h : Iv S) {f : Nat} {i v : Int} (hf : f = 0 ∨ f = 4 ∨ f = 5 ∨ f = 8 ∨ f = 9 ∨ f = 10 ∨ f = 15 ∨ f = 18 ∨ f = 20 ∨ f = 28 ∨ f = 39 ∨ f = 40) : Iv (up S f i v) := h.cg fun f' i' _ _ _ _ _ _ _ _ _ _ _ _ => up_f (by omega)
theorem Iv.cause (h : Iv S) {c x : Int} (hx : -1 ≤ x ∧ x ≤ 99) : Iv (up S 19 c x) :=
  ⟨h.gd.c hx, h.wt.cg fun f i hf => up_f (by omega), h.fr.cg fun f i hf => up_f (by omega), h.sl.cg fun f i hf => up_f (by omega), h.tm.cg fun f i hf => up_f (by omega), h.rw.cg fun f i hf => up_f (by omega), h.pg.cg fun f i hf => up_f (by omega)⟩
/-- k, which waits in 1, 4, 5 or not at all, becomes READY -/
theorem Iv.ready (h : Iv S) {k x : Int} (hk : 0 ≤ k ∧ k < S 1 0) (hn : NR S k) (hf : 0 < S 21 k) (h8 : S 26 k ≠ 8) (hx : -1 ≤ x ∧ x ≤ 99) : Iv (z_putReady S k x) := by
  have e26 : ∀ i, z_putReady S k x 26 i = if i = k then 0 else S 26 i := fun i => by simp [z_putReady, up]
  have e29 : ∀ i, z_putReady S k x 29 i = if i = k then -1 else S 29 i := fun i => by simp [z_putReady, up]
  have e23 : ∀ i, z_putReady S k x 23 i = if i = k then x else S 23 i := fun i => by simp [z_putReady, up]
  have e38 : ∀ i, z_putReady S k x 38 i = if i = S 7 0 then k else S 38 i := fun i => by simp [z_putReady, up]
  have e7 : z_putReady S k x 7 0 = S 7 0 + 1 := by simp [z_putReady, up]
  have eo : ∀ f i, f ≠ 26 → f ≠ 29 → f ≠ 23 → f ≠ 38 → f ≠ 7 → z_putReady S k x f i = S f i := fun f i z1 z2 z3 z4 z5 => by simp [z_putReady, up, z1, z2, z3, z4, z5]
  refine ⟨h.gd.put hk hn, fun i z1 z2 => ?_, h.fr.cg fun f i hf => eo f i (by omega) (by omega) (by omega) (by omega) (by omega), h.sl.cg fun f i hf => eo f i (by omega) (by omega) (by omega) (by omega) (by omega), ⟨?_, fun i z1 z2 => ?_⟩, ⟨fun i z1 z2 => ?_, fun i z1 z2 => ?_⟩, h.pg.cg fun f i hf => eo f i (by omega) (by omega) (by omega) (by omega) (by omega)⟩
  · have o1 := fun i => eo 1 i (by omega) (by omega) (by omega) (by omega) (by omega)
    have o2 := fun i => eo 16 i (by omega) (by omega) (by omega) (by omega) (by omega)
    have o3 := fun i => eo 17 i (by omega) (by omega) (by omega) (by omega) (by omega)
    have o4 := fun i => eo 21 i (by omega) (by omega) (by omega) (by omega) (by omega)
    have o5 := fun i => eo 25 i (by omega) (by omega) (by omega) (by omega) (by omega)
    have o6 := fun i => eo 27 i (by omega) (by omega) (by omega) (by omega) (by omega)
    rw [o1] at z2
    have hw := h.wt i z1 z2
    unfold WJ at hw ⊢
    simp only [e26, e29, o1, o2, o3, o4, o5, o6]
    obtain ⟨a1, a2, a3, a4, a5, a6, a7, a8, a9, a10⟩ := hw
    refine ⟨by split <;> omega, by split <;> omega, by split <;> omega, by split <;> omega, by split <;> omega, fun b1 b2 => ?_, a7, a8, a9, by split <;> omega⟩
    have a6 := a6 b1 b2
    rw [if_neg (fun e => by rw [e] at a6; exact h8 a6.1)]
    exact a6
  · rw [eo 2 0 (by omega) (by omega) (by omega) (by omega) (by omega), eo 3 0 (by omega) (by omega) (by omega) (by omega) (by omega), eo 6 0 (by omega) (by omega) (by omega) (by omega) (by omega)]
    exact h.tm.1
  · rw [eo 1 0 (by omega) (by omega) (by omega) (by omega) (by omega)] at z2
    have ht := h.tm.2 i z1 z2
    unfold TJ at ht ⊢
    rw [e29, eo 2 0 (by omega) (by omega) (by omega) (by omega) (by omega), eo 6 0 (by omega) (by omega) (by omega) (by omega) (by omega), eo 25 i (by omega) (by omega) (by omega) (by omega) (by omega), eo 30 i (by omega) (by omega) (by omega) (by omega) (by omega), eo 31 i (by omega) (by omega) (by omega) (by omega) (by omega), eo 32 i (by omega) (by omega) (by omega) (by omega) (by omega)]
    split <;> omega
  · rw [e7] at z2
    rw [eo 21 _ (by omega) (by omega) (by omega) (by omega) (by omega), e38]
    by_cases hc : i = S 7 0
    · rw [if_pos hc]; exact hf
    · rw [if_neg hc]; exact h.rw.1 i z1 (by omega)
  · rw [eo 1 0 (by omega) (by omega) (by omega) (by omega) (by omega)] at z2
    have := h.rw.2 i z1 z2
    rw [e23]
    split <;> omega
theorem Iv.wk1 (h : Iv S) {k : Int} (hk : 0 ≤ k ∧ k < S 1 0) (hw : S 26 k = 1 ∨ S 26 k = 4 ∨ S 26 k = 5) : Iv (z_putReady S k 0) :=
  h.ready hk (h.gd.2.2.nr (by omega)) ((h.wt k hk.1 hk.2).2.1 (by omega)).1 (by omega) (by omega)
/-- a giving: causes, wakings, nothing else -/
theorem gvL_ind {P : js → Prop} {J : Int} (hJ : ∀ S, P S → S 1 0 = J) (hc : ∀ S c, P S → 0 ≤ c → c < J → S 19 c < 0 → P (up S 19 c 0)) {rec : js → Int → js} (hr : ∀ S c, P S → 0 ≤ c → c < J → P (rec S c)) {k : Int} : ∀ (m : Nat) (S : js) (c : Int), P S → 0 ≤ c → P (gvL rec k m S c)
  | 0, S, c, h, _ => h
  | m + 1, S, c, h, z => by
    rw [gvL]
    split
    · rename_i h1
      rw [hJ S h] at h1
      split
      · rename_i h2
        exact gvL_ind hJ hc hr m _ (c + 1) (hr _ c (hc S c h z h1 h2.2.2) z h1) (by omega)
      · exact gvL_ind hJ hc hr m _ (c + 1) h (by omega)
    · exact h
theorem gvR_ind {P : js → Prop} {J : Int} (hJ : ∀ S, P S → S 1 0 = J) (hc : ∀ S c, P S → 0 ≤ c → c < J → S 19 c < 0 → P (up S 19 c 0)) (hw : ∀ S k, P S → 0 ≤ k → k < J → (S 26 k = 1 ∨ S 26 k = 4 ∨ S 26 k = 5) → P (z_putReady S k 0)) : ∀ (n : Nat) (S : js) (k : Int), P S → 0 ≤ k → k < J → P (gvR n S k)
  | 0, S, k, h, _, _ => h
  | n + 1, S, k, h, z1, z2 => by
    have a : P (gvN (gvR n) k S 0) := gvL_ind hJ hc (fun S c y1 y2 y3 => gvR_ind hJ hc hw n S c y1 y2 y3) (25 - 0 : Int).toNat S 0 h (Int.le_refl _)
    rw [gvR, wk]
    split
    · rename_i h1
      exact hw _ k a z1 z2 h1.1
    · exact a
/-- what a giving keeps -/
def Gp (S T : js) : Prop := (∀ f i, f ≠ 7 → f ≠ 19 → f ≠ 20 → f ≠ 23 → f ≠ 26 → f ≠ 29 → f ≠ 38 → T f i = S f i) ∧ (∀ i, S 26 i = 0 → T 26 i = 0 ∧ (NR S i → NR T i)) ∧ (∀ i, 0 ≤ S 19 i → T 19 i = S 19 i) ∧ (∀ i, S 26 i = 8 → T 26 i = 8)
theorem Gp.rf : Gp S S := ⟨fun _ _ _ _ _ _ _ _ _ => rfl, fun _ h => ⟨h, id⟩, fun _ _ => rfl, fun _ h => h⟩
theorem z_give_ok (h : Iv S) {j x : Int} (hj : 0 ≤ j ∧ j < S 1 0) (hx : -1 ≤ x ∧ x ≤ 99) : Iv (z_give S j x) ∧ Gp S (z_give S j x) := by
  unfold z_give
  split
  · exact ⟨h, Gp.rf⟩
  · split
    · split
      · exact ⟨h.fr1 (by omega), fun f i z1 z2 z3 z4 z5 z6 z7 => up_f z3, fun i hi => ⟨by rw [up_f (by decide)]; exact hi, fun hn i' => by simpa [up] using hn i'⟩, fun i hi => up_f (by decide), fun i hi => by rw [up_f (by decide)]; exact hi⟩
      · exact ⟨h, Gp.rf⟩
    · rename_i h1 h2
      refine gvR_ind (P := fun T => Iv T ∧ Gp S T) (J := S 1 0) (fun T hT => hT.2.1 1 0 (by decide) (by decide) (by decide) (by decide) (by decide) (by decide) (by decide)) (fun T c hT y1 y2 y3 => ?_) (fun T k hT y1 y2 y3 => ?_) 24 (up S 19 j x) j ?_ hj.1 hj.2
      · obtain ⟨hI, g1, g2, g3, g4⟩ := hT
        refine ⟨hI.cause (by omega), fun f i z1 z2 z3 z4 z5 z6 z7 => by rw [up_f z2]; exact g1 f i z1 z2 z3 z4 z5 z6 z7, fun i hi => ⟨by rw [up_f (by decide)]; exact (g2 i hi).1, fun hn i' => by simpa [up] using (g2 i hi).2 hn i'⟩, fun i hi => ?_, fun i hi => by rw [up_f (by decide)]; exact g4 i hi⟩
        have := g3 i hi
        rw [up_i (by intro e; subst e; omega)]
        exact this
      · obtain ⟨hI, g1, g2, g3, g4⟩ := hT
        have hJ : T 1 0 = S 1 0 := g1 1 0 (by decide) (by decide) (by decide) (by decide) (by decide) (by decide) (by decide)
        refine ⟨hI.wk1 (by omega) y3, fun f i z1 z2 z3 z4 z5 z6 z7 => ?_, fun i hi => ?_, fun i hi => ?_, fun i hi => ?_⟩
        · rw [← g1 f i z1 z2 z3 z4 z5 z6 z7]
          simp [z_putReady, up, z1, z4, z5, z6, z7]
        · have g2 := g2 i hi
          have hik : i ≠ k := by intro e; subst e; omega
          refine ⟨by simp [z_putReady, up, hik]; exact g2.1, fun hn i' b1 b2 => ?_⟩
          have g2 := g2.2 hn
          have e38 : z_putReady T k 0 38 i' = if i' = T 7 0 then k else T 38 i' := by simp [z_putReady, up]
          have e7 : z_putReady T k 0 7 0 = T 7 0 + 1 := by simp [z_putReady, up]
          rw [e38]
          rw [e7] at b2
          split
          · exact fun e => hik e.symm
          · exact g2 i' b1 (by omega)
        · rw [← g3 i hi]; simp [z_putReady, up]
        · have g4 := g4 i hi
          have hik : i ≠ k := by intro e; subst e; omega
          simp [z_putReady, up, hik]; exact g4
      · refine ⟨h.cause hx, fun f i z1 z2 z3 z4 z5 z6 z7 => up_f z2, fun i hi => ⟨by rw [up_f (by decide)]; exact hi, fun hn i' => by simpa [up] using hn i'⟩, fun i hi => ?_, fun i hi => by rw [up_f (by decide)]; exact hi⟩
        rw [up_i (by intro e; subst e; omega)]
end IV
