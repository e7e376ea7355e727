/-! the reference's finish -/
section R8
variable {w : jw} {d : Nat} {hs : jh} {mo : Nat} {ra : Nat → Nat} {S T : js} {g : Nat → Option va_E} {b : Nat × Nat}
/-- j is FINISHED: who waits for it is woken -/
abbrev fP (S : js) (j : Int) : Prop := 0 ≤ S 16 j ∧ (S 26 (S 16 j) = 4 ∨ S 26 (S 16 j) = 5) ∧ S 27 (S 16 j) = j
def z_fin1 (S : js) (j : Int) : js := if fP S j then z_wake (up S 25 j 1) (S 16 j) j else if 1 < S 17 j then z_wake (up S 25 j 1) (S 16 j) j else up S 25 j 1
def z_fin2 (S : js) (j : Int) : js := if 0 < S 19 j ∧ (S 17 j = 0 ∨ S 17 j = 1 ∧ S 17 (S 16 j) = 3) then z_write (z_fin1 S j) (200 + S 19 j) else if 0 < S 19 j ∧ S 17 j = 1 then z_give (z_fin1 S j) (S 16 j) (S 19 j) else z_fin1 S j
def zfin : Nat → js → Int → js
  | 0, S, _ => S
  | n + 1, S, j => if 0 ≤ j ∧ S 25 j = 0 ∧ S 24 j = 1 ∧ z_nextChild S j 25 0 < 0 then zfin n (z_fin2 S j) (S 16 j) else S
/-- what is left of the counters' room -/
def Bd (m : Int) (S : js) : Prop := S 2 0 + m ≤ 2000000000 ∧ S 3 0 + m ≤ 2000000000 ∧ S 6 0 + m ≤ 2000000000
theorem Bd.le {m n : Int} (h : Bd m S) (hn : n ≤ m) : Bd n S := ⟨by have := h.1; omega, by have := h.2.1; omega, by have := h.2.2; omega⟩
theorem z_wake_e {v j : Int} : (∀ f i, f ≠ 7 → f ≠ 18 → f ≠ 23 → f ≠ 26 → f ≠ 29 → f ≠ 38 → z_wake S v j f i = S f i) ∧ (∀ i, z_wake S v j 26 i = if i = v then 0 else S 26 i) ∧ (∀ i, z_wake S v j 29 i = if i = v then -1 else S 29 i) ∧ (∀ i, z_wake S v j 23 i = if i = v then (if S 26 v = 5 then -1 else S 19 j) else S 23 i) ∧ (∀ i, z_wake S v j 38 i = if i = S 7 0 then v else S 38 i) ∧ z_wake S v j 7 0 = S 7 0 + 1 := by
  unfold z_wake z_putReady
  refine ⟨fun f i z1 z2 z3 z4 z5 z6 => ?_, fun i => ?_, fun i => ?_, fun i => ?_, fun i => ?_, ?_⟩ <;> (repeat' split) <;> simp_all [up]
theorem Gd.wake (h : Gd S) {v j : Int} (hv : 0 ≤ v ∧ v < S 1 0) (hn : NR S v) : Gd (z_wake S v j) := by
  unfold z_wake
  split
  · exact h.put hv hn
  · split
    · exact Gd.put (h.cg fun f i hf => up_f (by omega)) (by simpa [up] using hv) (by simpa [up, NR] using hn)
    · exact h.put hv hn
theorem Gd.fin (h : Gd S) {j : Int} : Gd (up S 25 j 1) := by
  unfold Gd GJ Rq at h ⊢
  simp only [up] 
  simp
  refine ⟨h.1, fun i z1 z2 => ?_, h.2.2⟩
  have := h.2.1 i z1 z2
  refine ⟨this.1, this.2.1, this.2.2.1, this.2.2.2.1, this.2.2.2.2.1, ?_, this.2.2.2.2.2.2.1, this.2.2.2.2.2.2.2⟩
  have := this.2.2.2.2.2.1
  split <;> simp_all
/-- the one that waits for j is its parent -/
theorem Wt.one (h : Wt S) {j k : Int} (hk : 0 ≤ k ∧ k < S 1 0) (hw : S 26 k = 4 ∨ S 26 k = 5 ∨ S 26 k = 8) (he : S 27 k = j) : S 16 j = k := by
  have := (h k hk.1 hk.2).2.2.1 hw
  rw [he] at this
  exact this.2.1
theorem Iv.fin1 (h : Iv S) {j : Int} (hj : 0 ≤ j ∧ j < S 1 0) (h0 : S 25 j = 0) (h21 : S 21 j = 0) : Iv (z_fin1 S j) := by
  have hwj := h.wt j hj.1 hj.2
  have hgj := h.gd.2.1 j hj.1 hj.2
  have hJ := h.J
  have hp1 : -1 ≤ S 16 j ∧ S 16 j < j := hgj.1
  have hc1 : -1 ≤ S 19 j ∧ S 19 j ≤ 99 := hgj.2.2.1
  have hwp : 0 ≤ S 16 j → WJ S (S 16 j) := fun z => h.wt _ z (by omega)
  have hgd : Gd (up S 25 j 1) := h.gd.fin
  have key : ∀ T : js, Gd T → (∀ f i, f ≠ 7 → f ≠ 18 → f ≠ 23 → f ≠ 25 → f ≠ 26 → f ≠ 29 → f ≠ 38 → T f i = S f i) → (∀ i, T 25 i = if i = j then 1 else S 25 i) → (∀ i, T 26 i = if i = S 16 j ∧ (fP S j ∨ 1 < S 17 j) then 0 else S 26 i) → (∀ i, T 29 i = if i = S 16 j ∧ (fP S j ∨ 1 < S 17 j) then -1 else S 29 i) → (∀ i, -1 ≤ S 23 i ∧ S 23 i ≤ 99 → -1 ≤ T 23 i ∧ T 23 i ≤ 99) → (∀ i, 0 ≤ i → i < T 7 0 → T 38 i = S 16 j ∧ (fP S j ∨ 1 < S 17 j) ∨ i < S 7 0 ∧ T 38 i = S 38 i) → Iv T := by
    intro T hG eo e25 e26 e29 e23 e38
    have o1 := fun i => eo 1 i (by omega) (by omega) (by omega) (by omega) (by omega) (by omega) (by omega)
    have o2 := fun i => eo 16 i (by omega) (by omega) (by omega) (by omega) (by omega) (by omega) (by omega)
    have o3 := fun i => eo 17 i (by omega) (by omega) (by omega) (by omega) (by omega) (by omega) (by omega)
    have o4 := fun i => eo 21 i (by omega) (by omega) (by omega) (by omega) (by omega) (by omega) (by omega)
    have o6 := fun i => eo 27 i (by omega) (by omega) (by omega) (by omega) (by omega) (by omega) (by omega)
    refine ⟨hG, fun k z1 z2 => ?_, h.fr.cg fun f i hf => eo f i (by omega) (by omega) (by omega) (by omega) (by omega) (by omega) (by omega), h.sl.cg fun f i hf => eo f i (by omega) (by omega) (by omega) (by omega) (by omega) (by omega) (by omega), ⟨?_, fun i z1 z2 => ?_⟩, ⟨fun i z1 z2 => ?_, fun i z1 z2 => ?_⟩, h.pg.cg fun f i hf => eo f i (by omega) (by omega) (by omega) (by omega) (by omega) (by omega) (by omega)⟩
    · rw [o1] at z2
      have hw := h.wt k z1 z2
      have hone := fun hq he => h.wt.one (j := j) ⟨z1, z2⟩ hq he
      unfold WJ at hw hwj ⊢
      simp only [e25, e26, e29, o1, o2, o3, o4, o6]
      obtain ⟨a1, a2, a3, a4, a5, a6, a7, a8, a9, a10⟩ := hw
      refine ⟨by split <;> omega, fun y => ?_, fun y => ?_, fun y => a4 (by split at y <;> omega), fun y => a5 (by split at y <;> omega), fun y1 y2 => ?_, a7, fun y => ?_, a9, by split <;> omega⟩
      · have := a2 (by split at y <;> omega)
        refine ⟨this.1, ?_⟩
        rw [if_neg (by intro e; subst e; omega)]
        exact this.2
      · by_cases hq : k = S 16 j ∧ (fP S j ∨ 1 < S 17 j)
        · rw [if_pos hq] at y; omega
        · rw [if_neg hq] at y
          have := a3 y
          refine ⟨this.1, this.2.1, ?_⟩
          rw [if_neg]
          · exact this.2.2
          · intro e
            have hk := hone y e
            refine hq ⟨hk.symm, ?_⟩
            unfold fP
            rw [hk]
            by_cases h8 : S 26 k = 8
            · have := a4 h8
              rw [e] at this
              exact Or.inr this
            · exact Or.inl ⟨z1, by omega, e⟩
      · by_cases hkj : k = j
        · rw [if_pos hkj] at y2; omega
        · rw [if_neg hkj] at y2
          have := a6 y1 y2
          rw [if_neg]
          · exact this
          · intro ⟨e1, e2⟩
            rw [e1] at this
            rcases e2 with e2 | e2
            · have := e2.2.2; omega
            · have := hwj.2.2.2.2.2.1 e2 h0; omega
      · by_cases hkj : k = j
        · rw [hkj]; exact h21
        · rw [if_neg hkj] at y; exact a8 y
    · rw [eo 2 0 (by omega) (by omega) (by omega) (by omega) (by omega) (by omega) (by omega), eo 3 0 (by omega) (by omega) (by omega) (by omega) (by omega) (by omega) (by omega), eo 6 0 (by omega) (by omega) (by omega) (by omega) (by omega) (by omega) (by omega)]
      exact h.tm.1
    · rw [o1] at z2
      have ht := h.tm.2 i z1 z2
      unfold TJ at ht ⊢
      rw [e29, e25, eo 2 0 (by omega) (by omega) (by omega) (by omega) (by omega) (by omega) (by omega), eo 6 0 (by omega) (by omega) (by omega) (by omega) (by omega) (by omega) (by omega), eo 30 i (by omega) (by omega) (by omega) (by omega) (by omega) (by omega) (by omega), eo 31 i (by omega) (by omega) (by omega) (by omega) (by omega) (by omega) (by omega), eo 32 i (by omega) (by omega) (by omega) (by omega) (by omega) (by omega) (by omega)]
      split <;> split <;> omega
    · rw [o4]
      rcases e38 i z1 z2 with ⟨e, hq⟩ | ⟨hi, e⟩
      · rw [e]
        rcases hq with hq | hq
        · exact ((hwp hq.1).2.1 (by omega)).1
        · have hp0 : 0 ≤ S 16 j := by have := hwj.2.2.2.2.2.2.1; omega
          exact ((hwp hp0).2.1 (by have := hwj.2.2.2.2.2.1 hq h0; omega)).1
      · rw [e]; exact h.rw.1 i z1 hi
    · rw [o1] at z2
      exact e23 i (h.rw.2 i z1 z2)
  have hwk : (fP S j ∨ 1 < S 17 j) → Iv (z_wake (up S 25 j 1) (S 16 j) j) := by
    intro hq
    have hp0 : 0 ≤ S 16 j := by
      rcases hq with hq | hq
      · exact hq.1
      · have := hwj.2.2.2.2.2.2.1; omega
    have hw0 : S 26 (S 16 j) ≠ 0 := by
      rcases hq with hq | hq
      · omega
      · have := hwj.2.2.2.2.2.1 hq h0; omega
    obtain ⟨w1, w2, w3, w4, w5, w6⟩ := z_wake_e (S := up S 25 j 1) (v := S 16 j) (j := j)
    have hnr : NR S (S 16 j) := h.gd.2.2.nr hw0
    refine key _ (hgd.wake (by simp [up]; omega) (by simpa [up, NR] using hnr)) (fun f i z1 z2 z3 z4 z5 z6 z7 => by rw [w1 f i z1 z2 z3 z5 z6 z7, up_f z4]) (fun i => ?_) (fun i => ?_) (fun i => ?_) (fun i hi => ?_) (fun i z1 z2 => ?_)
    · rw [w1 25 i (by decide) (by decide) (by decide) (by decide) (by decide) (by decide)]; simp [up]
    · rw [w2]; simp [up, hq]
    · rw [w3]; simp [up, hq]
    · rw [w4]
      have e19 : up S 25 j 1 19 j = S 19 j := up_f (by decide)
      rw [e19]
      split
      · split <;> omega
      · rw [up_f (by decide)]; exact hi
    · rw [w6, up_f (by decide)] at z2
      rw [w5, up_f (by decide), up_f (by decide)]
      by_cases hc : i = S 7 0
      · rw [if_pos hc]; exact Or.inl ⟨rfl, hq⟩
      · rw [if_neg hc]; exact Or.inr ⟨by omega, rfl⟩
  unfold z_fin1
  split
  · rename_i hq; exact hwk (Or.inl hq)
  · split
    · rename_i hq; exact hwk (Or.inr hq)
    · rename_i q1 q2
      have hq : ¬ (fP S j ∨ 1 < S 17 j) := fun z => z.elim q1 q2
      refine key _ hgd (fun f i z1 z2 z3 z4 z5 z6 z7 => up_f z4) (fun i => by simp [up]) (fun i => ?_) (fun i => ?_) (fun i hi => by rw [up_f (by decide)]; exact hi) (fun i z1 z2 => ?_)
      · rw [if_neg (fun z => hq z.2), up_f (by decide)]
      · rw [if_neg (fun z => hq z.2), up_f (by decide)]
      · rw [up_f (by decide)] at z2
        exact Or.inr ⟨z2, up_f (by decide)⟩
theorem Iv.write (h : Iv S) {v : Int} : Iv (z_write S v) := by
  have e : ∀ f i, f ≠ 3 → f ≠ 15 → z_write S v f i = S f i := fun f i z1 z2 => by unfold z_write; split <;> simp [up, z1, z2]
  have e3 : z_write S v 3 0 = S 3 0 + 1 := by unfold z_write; split <;> simp [up]
  refine ⟨h.gd.cg fun f i hf => e f i (by omega) (by omega), h.wt.cg fun f i hf => e f i (by omega) (by omega), h.fr.cg fun f i hf => e f i (by omega) (by omega), h.sl.cg fun f i hf => e f i (by omega) (by omega), ⟨?_, fun i z1 z2 => ?_⟩, h.rw.cg fun f i hf => e f i (by omega) (by omega), h.pg.cg fun f i hf => e f i (by omega) (by omega)⟩
  · rw [e 2 0 (by decide) (by decide), e 6 0 (by decide) (by decide), e3]
    have := h.tm.1
    omega
  · rw [e 1 0 (by decide) (by decide)] at z2
    have := h.tm.2 i z1 z2
    unfold TJ at this ⊢
    rw [e 2 0 (by decide) (by decide), e 6 0 (by decide) (by decide), e 25 i (by decide) (by decide), e 29 i (by decide) (by decide), e 30 i (by decide) (by decide), e 31 i (by decide) (by decide), e 32 i (by decide) (by decide)]
    exact this
theorem z_fin1_e {j : Int} : (∀ f i, f ≠ 7 → f ≠ 18 → f ≠ 23 → f ≠ 25 → f ≠ 26 → f ≠ 29 → f ≠ 38 → z_fin1 S j f i = S f i) ∧ ∀ i, z_fin1 S j 25 i = if i = j then 1 else S 25 i := by
  unfold z_fin1
  refine ⟨fun f i z1 z2 z3 z4 z5 z6 z7 => ?_, fun i => ?_⟩
  · (repeat' split) <;> first | rw [z_wake_e.1 f i z1 z2 z3 z5 z6 z7, up_f z4] | rw [up_f z4]
  · (repeat' split) <;> first | (rw [z_wake_e.1 25 i (by decide) (by decide) (by decide) (by decide) (by decide) (by decide)]; simp_all [up]) | simp_all [up]
theorem Iv.fin2 (h : Iv S) {j m : Int} (hB : Bd (m + 1) S) (hj : 0 ≤ j ∧ j < S 1 0) (h0 : S 25 j = 0) (h21 : S 21 j = 0) : Iv (z_fin2 S j) ∧ Bd m (z_fin2 S j) ∧ z_fin2 S j 1 0 = S 1 0 ∧ (∀ i, z_fin2 S j 16 i = S 16 i) ∧ (∀ i, z_fin2 S j 21 i = S 21 i) ∧ (∀ i, z_fin2 S j 24 i = S 24 i) := by
  have h1 := h.fin1 hj h0 h21
  obtain ⟨e, e25⟩ := z_fin1_e (S := S) (j := j)
  have hg := h.gd.2.1 j hj.1 hj.2
  have hc1 : -1 ≤ S 19 j ∧ S 19 j ≤ 99 := hg.2.2.1
  have hp1 : -1 ≤ S 16 j ∧ S 16 j < j := hg.1
  have hB1 : Bd (m + 1) (z_fin1 S j) := by
    unfold Bd at hB ⊢
    rw [e 2 0 (by decide) (by decide) (by decide) (by decide) (by decide) (by decide) (by decide), e 3 0 (by decide) (by decide) (by decide) (by decide) (by decide) (by decide) (by decide), e 6 0 (by decide) (by decide) (by decide) (by decide) (by decide) (by decide) (by decide)]
    exact hB
  unfold z_fin2
  split
  · have ew : ∀ f i, f ≠ 3 → f ≠ 15 → z_write (z_fin1 S j) (200 + S 19 j) f i = z_fin1 S j f i := fun f i z1 z2 => by unfold z_write; split <;> simp [up, z1, z2]
    have e3 : z_write (z_fin1 S j) (200 + S 19 j) 3 0 = z_fin1 S j 3 0 + 1 := by unfold z_write; split <;> simp [up]
    refine ⟨h1.write, ?_, ?_, fun i => ?_, fun i => ?_, fun i => ?_⟩
    · unfold Bd at hB1 ⊢
      rw [ew 2 0 (by decide) (by decide), ew 6 0 (by decide) (by decide), e3]
      omega
    all_goals rw [ew _ _ (by decide) (by decide), e _ _ (by decide) (by decide) (by decide) (by decide) (by decide) (by decide) (by decide)]
  · split
    · rename_i hq
      have hs := (h.wt j hj.1 hj.2).2.2.2.2.2.2.1
      obtain ⟨hI, hG⟩ := z_give_ok h1 (j := S 16 j) (x := S 19 j) (by rw [e 1 0 (by decide) (by decide) (by decide) (by decide) (by decide) (by decide) (by decide)]; omega) hc1
      refine ⟨hI, ?_, ?_, fun i => ?_, fun i => ?_, fun i => ?_⟩
      · unfold Bd at hB1 ⊢
        rw [hG.1 2 0 (by decide) (by decide) (by decide) (by decide) (by decide) (by decide) (by decide), hG.1 3 0 (by decide) (by decide) (by decide) (by decide) (by decide) (by decide) (by decide), hG.1 6 0 (by decide) (by decide) (by decide) (by decide) (by decide) (by decide) (by decide)]
        omega
      all_goals rw [hG.1 _ _ (by decide) (by decide) (by decide) (by decide) (by decide) (by decide) (by decide), e _ _ (by decide) (by decide) (by decide) (by decide) (by decide) (by decide) (by decide)]
    · refine ⟨h1, hB1.le (by omega), ?_, fun i => ?_, fun i => ?_, fun i => ?_⟩
      all_goals rw [e _ _ (by decide) (by decide) (by decide) (by decide) (by decide) (by decide) (by decide)]
end R8
