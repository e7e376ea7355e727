/-! a new job: what begin writes, what it keeps -/
section BG
variable {S T C D : js}
theorem z_begin_e {pr p s : Int} : (∀ f i, f ≠ 1 → f ≠ 7 → f ≠ 38 → f ≠ 16 → f ≠ 17 → f ≠ 19 → f ≠ 21 → f ≠ 23 → f ≠ 26 → f ≠ 29 → f ≠ 31 → f ≠ 22 → f ≠ 33 → f ≠ 34 → f ≠ 35 → f ≠ 36 → f ≠ 37 → z_begin S pr p s f i = S f i) ∧
    (∀ i, z_begin S pr p s 16 i = if i = S 1 0 then p else S 16 i) ∧ (∀ i, z_begin S pr p s 17 i = if i = S 1 0 then s else S 17 i) ∧ (∀ i, z_begin S pr p s 19 i = if i = S 1 0 then -1 else S 19 i) ∧ (∀ i, z_begin S pr p s 21 i = if i = S 1 0 then 1 else S 21 i) ∧ (∀ i, z_begin S pr p s 23 i = if i = S 1 0 then -1 else S 23 i) ∧ (∀ i, z_begin S pr p s 26 i = if i = S 1 0 then 0 else S 26 i) ∧ (∀ i, z_begin S pr p s 29 i = if i = S 1 0 then -1 else S 29 i) ∧ (∀ i, z_begin S pr p s 31 i = if i = S 1 0 then -1 else S 31 i) := by
  refine ⟨fun f i z1 z2 z3 z4 z5 z6 z7 z8 z9 z10 z11 z12 z13 z14 z15 z16 z17 => ?_, fun i => ?_, fun i => ?_, fun i => ?_, fun i => ?_, fun i => ?_, fun i => ?_, fun i => ?_, fun i => ?_⟩
  · simp [z_begin, z_putReady, z_pushFrame, z_slots, z_begin0, up, z1, z2, z3, z4, z5, z6, z7, z8, z9, z10, z11, z12, z13, z14, z15, z16, z17]
  all_goals
    simp [z_begin, z_putReady, z_pushFrame, z_slots, z_begin0, up]
  all_goals
    by_cases hi : i = S 1 0 <;> simp [hi]
theorem z_begin_f {pr p s : Int} : z_begin S pr p s 1 0 = S 1 0 + 1 ∧ z_begin S pr p s 7 0 = S 7 0 + 1 ∧ (∀ i, z_begin S pr p s 38 i = if i = S 7 0 then S 1 0 else S 38 i) ∧ (∀ i, z_begin S pr p s 22 i = if S 1 0 * 3 ≤ i ∧ i ≤ S 1 0 * 3 + 2 then -1 else S 22 i) ∧
    (∀ i, z_begin S pr p s 33 i = if i = S 1 0 * 6 then pr else S 33 i) ∧ (∀ i, z_begin S pr p s 34 i = if i = S 1 0 * 6 then 0 else S 34 i) ∧ (∀ i, z_begin S pr p s 35 i = if i = S 1 0 * 6 then 0 else S 35 i) ∧ (∀ i, z_begin S pr p s 36 i = if i = S 1 0 * 6 then 0 else S 36 i) ∧ (∀ i, z_begin S pr p s 37 i = if i = S 1 0 * 6 then -1 else S 37 i) := by
  refine ⟨?_, ?_, fun i => ?_, fun i => ?_, fun i => ?_, fun i => ?_, fun i => ?_, fun i => ?_, fun i => ?_⟩
  · simp [z_begin, z_putReady, z_pushFrame, z_slots, z_begin0, up]
  · simp [z_begin, z_putReady, z_pushFrame, z_slots, z_begin0, up]
  · simp [z_begin, z_putReady, z_pushFrame, z_slots, z_begin0, up]
  · simp only [z_begin, z_putReady, z_pushFrame, z_slots, z_begin0, up]
    simp
    by_cases h1 : i = S 1 0 * 3
    · subst h1; simp; omega
    · by_cases h2 : i = S 1 0 * 3 + 1
      · subst h2; simp; omega
      · by_cases h3 : i = S 1 0 * 3 + 2
        · subst h3; simp; omega
        · have : ¬ (S 1 0 * 3 ≤ i ∧ i ≤ S 1 0 * 3 + 2) := by omega
          simp [h1, h2, h3, this]
  all_goals
    simp [z_begin, z_putReady, z_pushFrame, z_slots, z_begin0, up]
/-- the rows of a state in which a job more is there -/
def Bw (S U : js) (p s : Int) : Prop := U 1 0 = S 1 0 + 1 ∧ (∀ i, U 16 i = if i = S 1 0 then p else S 16 i) ∧ (∀ i, U 17 i = if i = S 1 0 then s else S 17 i) ∧ (∀ i, U 21 i = if i = S 1 0 then 1 else S 21 i) ∧ (∀ i, U 25 i = S 25 i) ∧ (∀ i, U 26 i = if i = S 1 0 then 0 else if i = p ∧ 1 < s then 8 else S 26 i) ∧ (∀ i, U 27 i = if i = p ∧ 1 < s then S 1 0 else S 27 i) ∧ (∀ i, U 29 i = if i = S 1 0 then -1 else S 29 i)
theorem Wt.beg {U : js} {p s : Int} (h : Wt S) (hg : ∀ i, 0 ≤ i → i < S 1 0 → -1 ≤ S 16 i ∧ S 16 i < i) (hJ : 0 ≤ S 1 0 ∧ S 1 0 < 24) (hB : Bw S U p s) (hp : -1 ≤ p ∧ p < S 1 0) (hs : s = 0 ↔ p = -1) (h25 : S 25 (S 1 0) = 0) (h27 : S 27 (S 1 0) = 0) (hb : 1 < s → 0 ≤ p ∧ S 26 p = 0 ∧ 0 < S 21 p ∧ S 25 p = 0) : Wt U := by
  obtain ⟨u1, u16, u17, u21, u25, u26, u27, u29⟩ := hB
  intro i z1 z2
  rw [u1] at z2
  by_cases hi : i = S 1 0
  · subst hi
    have hpn : ¬ (S 1 0 = p ∧ 1 < s) := fun z => by omega
    have q1 : U 26 (S 1 0) = 0 := by rw [u26, if_pos rfl]
    have q2 : U 25 (S 1 0) = 0 := by rw [u25, h25]
    have q3 : U 27 (S 1 0) = 0 := by rw [u27, if_neg hpn, h27]
    have q4 : U 29 (S 1 0) = -1 := by rw [u29, if_pos rfl]
    have q5 : U 17 (S 1 0) = s := by rw [u17, if_pos rfl]
    have q6 : U 16 (S 1 0) = p := by rw [u16, if_pos rfl]
    unfold WJ
    rw [q1, q2, q3, q4, q5, q6]
    refine ⟨by simp, by simp, by simp, by simp, by simp, fun y1 y2 => ?_, hs, by simp, by omega, by simp⟩
    have := hb y1
    rw [u26, if_neg (by omega), if_pos ⟨rfl, y1⟩, u27, if_pos ⟨rfl, y1⟩]
    exact ⟨rfl, rfl⟩
  · have hiJ : i < S 1 0 := by omega
    have w := h i z1 hiJ
    have g := hg i z1 hiJ
    unfold WJ at w
    obtain ⟨a1, a2, a3, a4, a5, a6, a7, a8, a9, a10⟩ := w
    have c6 : 1 < U 17 i → U 25 i = 0 → U 26 (U 16 i) = 8 ∧ U 27 (U 16 i) = i := by
      rw [u17, if_neg hi, u25, u16, if_neg hi]
      intro y1 y2
      have e := a6 y1 y2
      have hne : ¬ (S 16 i = p ∧ 1 < s) := fun z => by
        have := hb z.2
        rw [z.1, this.2.1] at e
        exact absurd e.1 (by decide)
      rw [u26, if_neg (by omega), if_neg hne, u27, if_neg hne]
      exact e
    by_cases hc : i = p ∧ 1 < s
    · have b := hb hc.2
      rw [← hc.1] at b
      have q1 : U 26 i = 8 := by rw [u26, if_neg hi, if_pos hc]
      have q2 : U 27 i = S 1 0 := by rw [u27, if_pos hc]
      have q3 : U 25 i = 0 := by rw [u25, b.2.2.2]
      unfold WJ
      rw [q1, q2, u1]
      refine ⟨by simp, fun _ => ⟨by rw [u21, if_neg hi]; exact b.2.2.1, q3⟩, fun _ => ⟨by omega, by rw [u16, if_pos rfl, hc.1], by rw [u25, h25]⟩, fun _ => by rw [u17, if_pos rfl]; exact hc.2, by simp, c6, by rw [u17, if_neg hi, u16, if_neg hi]; exact a7, fun y => by omega, by omega, ?_⟩
      rw [u29, if_neg hi]
      have := a10
      rw [b.2.1] at this
      constructor
      · intro y; exact absurd y (by decide)
      · intro y; exact absurd (this.mpr y) (by decide)
    · have q1 : U 26 i = S 26 i := by rw [u26, if_neg hi, if_neg hc]
      have q2 : U 27 i = S 27 i := by rw [u27, if_neg hc]
      have q3 : U 25 i = S 25 i := u25 i
      have q4 : U 21 i = S 21 i := by rw [u21, if_neg hi]
      have q5 : U 29 i = S 29 i := by rw [u29, if_neg hi]
      unfold WJ
      rw [q1, q2, q3, q4, q5, u1]
      refine ⟨a1, a2, fun y => ?_, fun y => ?_, fun y => ?_, by rw [← q3]; exact c6, by rw [u17, if_neg hi, u16, if_neg hi]; exact a7, a8, a9, a10⟩
      · have := a3 y
        rw [u16, if_neg (by omega), u25]
        exact ⟨by omega, this.2⟩
      · have := a3 (Or.inr (Or.inr y))
        rw [u17, if_neg (by omega)]
        exact a4 y
      · have := a3 (by rcases y with y | y; (exact Or.inl y); exact Or.inr (Or.inl y))
        rw [u17, if_neg (by omega)]
        exact a5 y
theorem beg_parts (h : Iv S) {pr p s : Int} (h2 : A2 S) (hJ : S 1 0 < 24) (hq : S 7 0 < 24) (hpr : 0 ≤ pr ∧ pr ≤ 9) (hp : -1 ≤ p ∧ p < S 1 0) (hs : 0 ≤ s ∧ s ≤ 4) : Gd (z_begin S pr p s) ∧ Fr (z_begin S pr p s) ∧ Sl (z_begin S pr p s) ∧ Tm (z_begin S pr p s) ∧ Rw (z_begin S pr p s) ∧ Pg (z_begin S pr p s) := by
  obtain ⟨eo, e16, e17, e19, e21, e23, e26, e29, e31⟩ := z_begin_e (S := S) (pr := pr) (p := p) (s := s)
  obtain ⟨e1, e7, e38, e22, e33, e34, e35, e36, e37⟩ := z_begin_f (S := S) (pr := pr) (p := p) (s := s)
  have hJ0 := h.J
  have a2 := h2 (S 1 0) (Int.le_refl _)
  have o24 : ∀ i, z_begin S pr p s 24 i = S 24 i := fun i => eo 24 i (by decide) (by decide) (by decide) (by decide) (by decide) (by decide) (by decide) (by decide) (by decide) (by decide) (by decide) (by decide) (by decide) (by decide) (by decide) (by decide) (by decide)
  have o25 : ∀ i, z_begin S pr p s 25 i = S 25 i := fun i => eo 25 i (by decide) (by decide) (by decide) (by decide) (by decide) (by decide) (by decide) (by decide) (by decide) (by decide) (by decide) (by decide) (by decide) (by decide) (by decide) (by decide) (by decide)
  have o2 : z_begin S pr p s 2 0 = S 2 0 := eo 2 0 (by decide) (by decide) (by decide) (by decide) (by decide) (by decide) (by decide) (by decide) (by decide) (by decide) (by decide) (by decide) (by decide) (by decide) (by decide) (by decide) (by decide)
  have o3 : z_begin S pr p s 3 0 = S 3 0 := eo 3 0 (by decide) (by decide) (by decide) (by decide) (by decide) (by decide) (by decide) (by decide) (by decide) (by decide) (by decide) (by decide) (by decide) (by decide) (by decide) (by decide) (by decide)
  have o6 : z_begin S pr p s 6 0 = S 6 0 := eo 6 0 (by decide) (by decide) (by decide) (by decide) (by decide) (by decide) (by decide) (by decide) (by decide) (by decide) (by decide) (by decide) (by decide) (by decide) (by decide) (by decide) (by decide)
  have o30 : ∀ i, z_begin S pr p s 30 i = S 30 i := fun i => eo 30 i (by decide) (by decide) (by decide) (by decide) (by decide) (by decide) (by decide) (by decide) (by decide) (by decide) (by decide) (by decide) (by decide) (by decide) (by decide) (by decide) (by decide)
  have o32 : ∀ i, z_begin S pr p s 32 i = S 32 i := fun i => eo 32 i (by decide) (by decide) (by decide) (by decide) (by decide) (by decide) (by decide) (by decide) (by decide) (by decide) (by decide) (by decide) (by decide) (by decide) (by decide) (by decide) (by decide)
  obtain ⟨b1, b2, b3⟩ := h.gd.2.2
  have hq0 := b1
  refine ⟨⟨by rw [e1]; omega, fun i z1 z2 => ?_, ⟨by rw [e7]; omega, fun i z1 z2 => ?_, fun i k z1 z2 z3 z4 he => ?_⟩⟩, fun k f z1 z2 z3 z4 => ?_, fun k a z1 z2 z3 z4 => ?_, ⟨by rw [o2, o3, o6]; exact h.tm.1, fun i z1 z2 => ?_⟩, ⟨fun i z1 z2 => ?_, fun i z1 z2 => ?_⟩, h.pg.cg fun f i hf => eo f i (by omega) (by omega) (by omega) (by omega) (by omega) (by omega) (by omega) (by omega) (by omega) (by omega) (by omega) (by omega) (by omega) (by omega) (by omega) (by omega) (by omega)⟩
  · rw [e1] at z2
    by_cases hi : i = S 1 0
    · subst hi
      unfold GJ
      rw [e16, e17, e19, e21, e26, o24, o25, if_pos rfl, if_pos rfl, if_pos rfl, if_pos rfl, if_pos rfl]
      refine ⟨hp, hs, by omega, by omega, Or.inl a2.2.2.1, Or.inl a2.2.2.2.1, by omega, fun f y1 y2 => ?_⟩
      rw [e35, if_pos (by omega)]
      omega
    · have g := h.gd.2.1 i z1 (by omega)
      unfold GJ at g ⊢
      rw [e16, e17, e19, e21, e26, o24, o25, if_neg hi, if_neg hi, if_neg hi, if_neg hi, if_neg hi]
      obtain ⟨a1, a2, a3, a4, a5, a6, a7, a8⟩ := g
      refine ⟨a1, a2, a3, a4, a5, a6, a7, fun f y1 y2 => ?_⟩
      rw [e35, if_neg (by omega)]
      exact a8 f y1 y2
  · rw [e7] at z2
    rw [e38, e1]
    by_cases hi : i = S 7 0
    · rw [if_pos hi, e26, if_pos rfl]
      omega
    · rw [if_neg hi]
      have := b2 i z1 (by omega)
      rw [e26, if_neg (by omega)]
      exact ⟨this.1, by omega, this.2.2⟩
  · rw [e7] at z2 z4
    rw [e38, e38] at he
    by_cases hi : i = S 7 0
    · rw [if_pos hi] at he
      by_cases hk : k = S 7 0
      · omega
      · rw [if_neg hk] at he
        have := b2 k z3 (by omega)
        omega
    · rw [if_neg hi] at he
      have := b2 i z1 (by omega)
      by_cases hk : k = S 7 0
      · rw [if_pos hk] at he
        omega
      · rw [if_neg hk] at he
        exact b3 i k z1 (by omega) z3 (by omega) he
  · rw [e1] at z2
    rw [e21] at z4
    unfold FJ
    rw [e33, e34, e35, e36, e37]
    by_cases hk : k = S 1 0
    · rw [if_pos hk] at z4
      have hf : f = S 1 0 * 6 := by omega
      simp only [if_pos hf]
      refine ⟨hpr, by omega, ⟨fun _ => by omega, fun _ => by trivial⟩, by simp, by omega⟩
    · rw [if_neg hk] at z4
      have h6 := (h.gd.2.1 k z1 (by omega)).2.2.2.1
      have hf : ¬ f = S 1 0 * 6 := by omega
      simp only [if_neg hf]
      exact h.fr k f z1 (by omega) z3 z4
  · rw [e1] at z2
    rw [e22, e1]
    by_cases hk : k = S 1 0
    · rw [if_pos (by omega)]
      exact Or.inl rfl
    · rw [if_neg (by omega)]
      rcases h.sl k a z1 (by omega) z3 z4 with q | q
      · exact Or.inl q
      · refine Or.inr ⟨q.1, by omega, ?_, ?_⟩
        · rw [e16, if_neg (by omega)]; exact q.2.2.1
        · rw [e17, if_neg (by omega)]; exact q.2.2.2
  · rw [e1] at z2
    unfold TJ
    rw [e29, e31, o2, o6, o25, o30, o32]
    by_cases hi : i = S 1 0
    · simp [hi]
    · simp only [if_neg hi]
      exact h.tm.2 i z1 (by omega)
  · rw [e7] at z2
    rw [e38, e21]
    by_cases hi : i = S 7 0
    · rw [if_pos hi, if_pos rfl]
      omega
    · rw [if_neg hi]
      have := b2 i z1 (by omega)
      rw [if_neg (by omega)]
      exact h.rw.1 i z1 (by omega)
  · rw [e1] at z2
    rw [e23]
    by_cases hi : i = S 1 0
    · rw [if_pos hi]; omega
    · rw [if_neg hi]; exact h.rw.2 i z1 (by omega)
theorem beg_bw {pr p s : Int} (hs : ¬ 1 < s) : Bw S (z_begin S pr p s) p s := by
  obtain ⟨eo, e16, e17, e19, e21, e23, e26, e29, e31⟩ := z_begin_e (S := S) (pr := pr) (p := p) (s := s)
  obtain ⟨e1, e7, e38, e22, e33, e34, e35, e36, e37⟩ := z_begin_f (S := S) (pr := pr) (p := p) (s := s)
  refine ⟨e1, e16, e17, e21, fun i => eo 25 i (by decide) (by decide) (by decide) (by decide) (by decide) (by decide) (by decide) (by decide) (by decide) (by decide) (by decide) (by decide) (by decide) (by decide) (by decide) (by decide) (by decide), fun i => ?_, fun i => ?_, e29⟩
  · rw [e26, if_neg (c := i = p ∧ 1 < s) (fun z => hs z.2)]
  · rw [if_neg (fun z => hs z.2)]
    exact eo 27 i (by decide) (by decide) (by decide) (by decide) (by decide) (by decide) (by decide) (by decide) (by decide) (by decide) (by decide) (by decide) (by decide) (by decide) (by decide) (by decide) (by decide)
theorem Iv.begin (h : Iv S) {pr p s : Int} (h2 : A2 S) (hJ : S 1 0 < 24) (hq : S 7 0 < 24) (hpr : 0 ≤ pr ∧ pr ≤ 9) (hp : -1 ≤ p ∧ p < S 1 0) (hs : s = 0 ∧ p = -1 ∨ s = 1 ∧ 0 ≤ p) : Iv (z_begin S pr p s) := by
  obtain ⟨p1, p3, p4, p5, p6, p7⟩ := beg_parts h (pr := pr) (p := p) (s := s) h2 hJ hq hpr hp (by omega)
  have a2 := h2 (S 1 0) (Int.le_refl _)
  exact ⟨p1, h.wt.beg (fun i z1 z2 => (h.gd.2.1 i z1 z2).1) ⟨h.J.1, hJ⟩ (beg_bw (by omega)) hp (by omega) a2.2.2.2.1 a2.2.2.2.2 (fun z => by omega), p3, p4, p5, p6, p7⟩
/-- LAUNCH: the new child goes into slot c of j -/
theorem Iv.launch (h : Iv S) {pr j c : Int} (h2 : A2 S) (hJ : S 1 0 < 24) (hq : S 7 0 < 24) (hpr : 0 ≤ pr ∧ pr ≤ 9) (hj : 0 ≤ j ∧ j < S 1 0) (hc : 0 ≤ c ∧ c ≤ 2) : Iv (up (z_begin S pr j 1) 22 (j * 3 + c) (S 1 0)) := by
  have hI := h.begin (pr := pr) (p := j) (s := 1) h2 hJ hq hpr (by omega) (by omega)
  obtain ⟨eo, e16, e17, e19, e21, e23, e26, e29, e31⟩ := z_begin_e (S := S) (pr := pr) (p := j) (s := 1)
  obtain ⟨e1, e7, e38, e22, e33, e34, e35, e36, e37⟩ := z_begin_f (S := S) (pr := pr) (p := j) (s := 1)
  refine ⟨hI.gd.cg fun f i hf => up_f (by omega), hI.wt.cg fun f i hf => up_f (by omega), hI.fr.cg fun f i hf => up_f (by omega), fun k a z1 z2 z3 z4 => ?_, hI.tm.cg fun f i hf => up_f (by omega), hI.rw.cg fun f i hf => up_f (by omega), hI.pg.cg fun f i hf => up_f (by omega)⟩
  rw [up_f (by decide)] at z2
  simp only [up_f (show (1 : Nat) ≠ 22 by decide), up_f (show (16 : Nat) ≠ 22 by decide), up_f (show (17 : Nat) ≠ 22 by decide)]
  by_cases hk : k * 3 + a = j * 3 + c
  · have hkj : k = j := by omega
    rw [hk, up_s]
    refine Or.inr ⟨by omega, by omega, ?_, ?_⟩
    · rw [e16, if_pos rfl, hkj]
    · rw [e17, if_pos rfl]
  · rw [up_i hk]
    exact hI.sl k a z1 z2 z3 z4
theorem Iv.scope (h : Iv S) {j x a c : Int} (h2 : A2 S) (hr : Rn j S) (hf : 0 < S 21 j) (hJ : S 1 0 < 24) (hx : x = 8 ∧ (0 ≤ a ∧ a ≤ 9) ∨ x = 9 ∧ (0 ≤ a ∧ a ≤ 9) ∨ x = 10 ∧ (1 ≤ a ∧ a ≤ 50) ∧ (0 ≤ c ∧ c ≤ 9)) : Iv (z_scope S j x a c) := by
  have hrm := Ok.room h hr
  have hj := hr.1
  have a2 := h2 (S 1 0) (Int.le_refl _)
  have key : ∀ pr t l : Int, 0 ≤ pr ∧ pr ≤ 9 → (t = -1 ∨ (S 2 0 ≤ t ∧ t ≤ S 2 0 + 50) ∧ l = S 6 0) → ∀ U : js, (∀ f i, f ≠ 26 → f ≠ 27 → f ≠ 28 → f ≠ 6 → f ≠ 10 → f ≠ 31 → f ≠ 32 → U f i = z_begin S pr j (x - 6) f i) → (∀ i, U 26 i = if i = j then 8 else z_begin S pr j (x - 6) 26 i) → (∀ i, U 27 i = if i = j then S 1 0 else z_begin S pr j (x - 6) 27 i) → U 6 0 = S 6 0 + 1 → (∀ i, i ≠ S 1 0 → U 31 i = z_begin S pr j (x - 6) 31 i ∧ U 32 i = z_begin S pr j (x - 6) 32 i) → (U 31 (S 1 0) = t ∧ (t = -1 ∨ U 32 (S 1 0) = l)) → Iv U := by
    intro pr t l hpr ht U uo u26 u27 u6 u31 ut
    obtain ⟨p1, p3, p4, p5, p6, p7⟩ := beg_parts h (pr := pr) (p := j) (s := x - 6) h2 hJ hrm.2 hpr (by omega) (by omega)
    obtain ⟨eo, e16, e17, e19, e21, e23, e26, e29, e31⟩ := z_begin_e (S := S) (pr := pr) (p := j) (s := x - 6)
    obtain ⟨e1, e7, e38, e22, e33, e34, e35, e36, e37⟩ := z_begin_f (S := S) (pr := pr) (p := j) (s := x - 6)
    have U1 := uo 1 0 (by decide) (by decide) (by decide) (by decide) (by decide) (by decide) (by decide)
    have hs1 : 1 < x - 6 := by omega
    have o27 : ∀ i, z_begin S pr j (x - 6) 27 i = S 27 i := fun i => eo 27 i (by decide) (by decide) (by decide) (by decide) (by decide) (by decide) (by decide) (by decide) (by decide) (by decide) (by decide) (by decide) (by decide) (by decide) (by decide) (by decide) (by decide)
    have o25 : ∀ i, z_begin S pr j (x - 6) 25 i = S 25 i := fun i => eo 25 i (by decide) (by decide) (by decide) (by decide) (by decide) (by decide) (by decide) (by decide) (by decide) (by decide) (by decide) (by decide) (by decide) (by decide) (by decide) (by decide) (by decide)
    have o30 : ∀ i, z_begin S pr j (x - 6) 30 i = S 30 i := fun i => eo 30 i (by decide) (by decide) (by decide) (by decide) (by decide) (by decide) (by decide) (by decide) (by decide) (by decide) (by decide) (by decide) (by decide) (by decide) (by decide) (by decide) (by decide)
    have o32 : ∀ i, z_begin S pr j (x - 6) 32 i = S 32 i := fun i => eo 32 i (by decide) (by decide) (by decide) (by decide) (by decide) (by decide) (by decide) (by decide) (by decide) (by decide) (by decide) (by decide) (by decide) (by decide) (by decide) (by decide) (by decide)
    have o2 : z_begin S pr j (x - 6) 2 0 = S 2 0 := eo 2 0 (by decide) (by decide) (by decide) (by decide) (by decide) (by decide) (by decide) (by decide) (by decide) (by decide) (by decide) (by decide) (by decide) (by decide) (by decide) (by decide) (by decide)
    have o3 : z_begin S pr j (x - 6) 3 0 = S 3 0 := eo 3 0 (by decide) (by decide) (by decide) (by decide) (by decide) (by decide) (by decide) (by decide) (by decide) (by decide) (by decide) (by decide) (by decide) (by decide) (by decide) (by decide) (by decide)
    have nr : NR (z_begin S pr j (x - 6)) j := fun i z1 z2 => by
      rw [e7] at z2
      rw [e38]
      by_cases hi : i = S 7 0
      · rw [if_pos hi]; omega
      · rw [if_neg hi]; exact hr.2.2.1 i z1 (by omega)
    refine ⟨⟨by rw [U1]; exact p1.1, fun i z1 z2 => ?_, ?_⟩, ?_, p3.cg fun f i hf => uo f i (by omega) (by omega) (by omega) (by omega) (by omega) (by omega) (by omega), p4.cg fun f i hf => uo f i (by omega) (by omega) (by omega) (by omega) (by omega) (by omega) (by omega), ⟨?_, fun i z1 z2 => ?_⟩, p6.cg fun f i hf => uo f i (by omega) (by omega) (by omega) (by omega) (by omega) (by omega) (by omega), p7.cg fun f i hf => uo f i (by omega) (by omega) (by omega) (by omega) (by omega) (by omega) (by omega)⟩
    · rw [U1] at z2
      have g := p1.2.1 i z1 z2
      unfold GJ at g ⊢
      rw [u26]
      simp only [uo 16 _ (by decide) (by decide) (by decide) (by decide) (by decide) (by decide) (by decide), uo 17 _ (by decide) (by decide) (by decide) (by decide) (by decide) (by decide) (by decide), uo 19 _ (by decide) (by decide) (by decide) (by decide) (by decide) (by decide) (by decide), uo 21 _ (by decide) (by decide) (by decide) (by decide) (by decide) (by decide) (by decide), uo 24 _ (by decide) (by decide) (by decide) (by decide) (by decide) (by decide) (by decide), uo 25 _ (by decide) (by decide) (by decide) (by decide) (by decide) (by decide) (by decide), uo 35 _ (by decide) (by decide) (by decide) (by decide) (by decide) (by decide) (by decide)]
      obtain ⟨a1, a2, a3, a4, a5, a6, a7, a8⟩ := g
      refine ⟨a1, a2, a3, a4, a5, a6, ?_, a8⟩
      split
      · omega
      · exact a7
    · obtain ⟨b1, b2, b3⟩ := p1.2.2
      unfold Rq
      rw [U1, uo 7 0 (by decide) (by decide) (by decide) (by decide) (by decide) (by decide) (by decide)]
      simp only [uo 38 _ (by decide) (by decide) (by decide) (by decide) (by decide) (by decide) (by decide)]
      refine ⟨b1, fun i z1 z2 => ?_, b3⟩
      rw [u26, if_neg (nr i z1 z2)]
      exact b2 i z1 z2
    · refine h.wt.beg (p := j) (s := x - 6) (fun i z1 z2 => (h.gd.2.1 i z1 z2).1) ⟨h.J.1, hJ⟩ ⟨by rw [U1, e1], fun i => ?_, fun i => ?_, fun i => ?_, fun i => ?_, fun i => ?_, fun i => ?_, fun i => ?_⟩ (by omega) (by omega) a2.2.2.2.1 a2.2.2.2.2 (fun _ => ⟨hj.1, hr.2.1, hf, hr.2.2.2⟩)
      · rw [uo 16 i (by decide) (by decide) (by decide) (by decide) (by decide) (by decide) (by decide), e16]
      · rw [uo 17 i (by decide) (by decide) (by decide) (by decide) (by decide) (by decide) (by decide), e17]
      · rw [uo 21 i (by decide) (by decide) (by decide) (by decide) (by decide) (by decide) (by decide), e21]
      · rw [uo 25 i (by decide) (by decide) (by decide) (by decide) (by decide) (by decide) (by decide), o25]
      · rw [u26, e26]
        by_cases hi : i = S 1 0
        · rw [if_neg (by omega), if_pos hi, if_pos hi]
        · rw [if_neg hi, if_neg hi]
          by_cases hij : i = j
          · rw [if_pos hij, if_pos ⟨hij, hs1⟩]
          · rw [if_neg hij, if_neg (fun z => hij z.1)]
      · rw [u27, o27]
        by_cases hij : i = j
        · rw [if_pos hij, if_pos ⟨hij, hs1⟩]
        · rw [if_neg hij, if_neg (fun z => hij z.1)]
      · rw [uo 29 i (by decide) (by decide) (by decide) (by decide) (by decide) (by decide) (by decide), e29]
    · rw [uo 2 0 (by decide) (by decide) (by decide) (by decide) (by decide) (by decide) (by decide), uo 3 0 (by decide) (by decide) (by decide) (by decide) (by decide) (by decide) (by decide), u6, o2, o3]
      have := h.tm.1
      omega
    · rw [U1] at z2
      have g := p5.2 i z1 z2
      unfold TJ at g ⊢
      rw [u6, uo 2 0 (by decide) (by decide) (by decide) (by decide) (by decide) (by decide) (by decide), uo 25 i (by decide) (by decide) (by decide) (by decide) (by decide) (by decide) (by decide), uo 29 i (by decide) (by decide) (by decide) (by decide) (by decide) (by decide) (by decide), uo 30 i (by decide) (by decide) (by decide) (by decide) (by decide) (by decide) (by decide), o2]
      have e6 : z_begin S pr j (x - 6) 6 0 = S 6 0 := eo 6 0 (by decide) (by decide) (by decide) (by decide) (by decide) (by decide) (by decide) (by decide) (by decide) (by decide) (by decide) (by decide) (by decide) (by decide) (by decide) (by decide) (by decide)
      rw [o2, e6] at g
      have g1 := h.tm.1
      by_cases hi : i = S 1 0
      · subst hi
        rw [ut.1]
        refine ⟨g.1, fun y => ?_, by omega, fun y => ?_⟩
        · have := g.2.1 y
          exact ⟨this.1, this.2.1, by omega⟩
        · exact ⟨by omega, by omega, by omega, by omega⟩
      · rw [(u31 i hi).1, (u31 i hi).2]
        refine ⟨g.1, fun y => ?_, g.2.2.1, fun y => ?_⟩
        · have := g.2.1 y
          exact ⟨this.1, this.2.1, by omega⟩
        · have := g.2.2.2 y
          exact ⟨this.1, this.2.1, this.2.2.1, by omega⟩
  have e31 : ∀ pr, z_begin S pr j (x - 6) 31 (S 1 0) = -1 := fun pr => by rw [(z_begin_e (S := S) (pr := pr) (p := j) (s := x - 6)).2.2.2.2.2.2.2.2]; simp
  have e6 : ∀ pr, z_begin S pr j (x - 6) 6 0 = S 6 0 := fun pr => (z_begin_e (S := S) (pr := pr) (p := j) (s := x - 6)).1 6 0 (by decide) (by decide) (by decide) (by decide) (by decide) (by decide) (by decide) (by decide) (by decide) (by decide) (by decide) (by decide) (by decide) (by decide) (by decide) (by decide) (by decide)
  unfold z_scope
  by_cases h10 : x = 10
  · rw [if_pos h10]
    refine key c (S 2 0 + a) (S 6 0) (by omega) (by omega) _ (fun f i z1 z2 z3 z4 z5 z6 z7 => by simp [z_waitIn, up, z1, z2, z3, z4, z5, z6, z7]) (fun i => by simp [z_waitIn, up]) (fun i => by simp [z_waitIn, up]) (by simp [z_waitIn, up, e6]) (fun i hi => by simp [z_waitIn, up, hi]) ?_
    simp [z_waitIn, up]
  · rw [if_neg h10]
    refine key a (-1) 0 (by omega) (by omega) _ (fun f i z1 z2 z3 z4 z5 z6 z7 => by simp [z_waitIn, up, z1, z2, z3, z4, z5, z6, z7]) (fun i => by simp [z_waitIn, up]) (fun i => by simp [z_waitIn, up]) (by simp [z_waitIn, up, e6]) (fun i hi => by simp [z_waitIn, up]) ?_
    simp [z_waitIn, up, e31]
end BG
