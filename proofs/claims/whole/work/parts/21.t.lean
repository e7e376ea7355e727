/-! the reference: bodyEnds, throwAt, frameEnds, awaits, scope, frame -/
section RA
variable {w : jw} {d : Nat} {hs : jh} {mo : Nat} {ra : Nat → Nat} {S T : js} {g : Nat → Option va_E} {b : Nat × Nat}
/-- j runs: it waits for nothing and is not in the row -/
def Rn (j : Int) (S : js) : Prop := (0 ≤ j ∧ j < S 1 0) ∧ S 26 j = 0 ∧ NR S j ∧ S 25 j = 0
def En (r : Int) (S : js) : Prop := ∀ i, 0 ≤ i → i < S 1 0 → (S 24 i = 1 → S 21 i = 0) ∧ (i ≠ r → S 21 i = 0 → S 24 i = 1)
theorem NR.cg {j : Int} (h : NR S j) (e : ∀ f i, (f = 7 ∨ f = 38) → T f i = S f i) : NR T j := fun i z1 z2 => by
  rw [e 7 0 (by omega)] at z2
  rw [e 38 i (by omega)]
  exact h i z1 z2
theorem Rn.cg {j : Int} (h : Rn j S) (e : ∀ f i, (f = 1 ∨ f = 7 ∨ f = 25 ∨ f = 26 ∨ f = 38) → T f i = S f i) : Rn j T :=
  ⟨by rw [e 1 0 (by omega)]; exact h.1, by rw [e 26 j (by omega)]; exact h.2.1, h.2.2.1.cg fun f i hf => e f i (by omega), by rw [e 25 j (by omega)]; exact h.2.2.2⟩
theorem En.cg {j : Int} (h : En j S) (e : ∀ f i, (f = 1 ∨ f = 21 ∨ f = 24) → T f i = S f i) : En j T := fun i z1 z2 => by
  rw [e 1 0 (by omega)] at z2
  rw [e 21 i (by omega), e 24 i (by omega)]
  exact h i z1 z2
theorem Bd.cg {m : Int} (h : Bd m S) (e : ∀ f i, (f = 2 ∨ f = 3 ∨ f = 6) → T f i = S f i) : Bd m T := by
  unfold Bd at h ⊢
  rw [e 2 0 (by omega), e 3 0 (by omega), e 6 0 (by omega)]
  exact h
/-- fewer frames of a job that runs -/
theorem Iv.pop (h : Iv S) {j n : Int} (hr : Rn j S) (hn : 0 ≤ n ∧ n ≤ S 21 j) : Iv (up S 21 j n) := by
  have e : ∀ f i, f ≠ 21 → up S 21 j n f i = S f i := fun f i z => up_f z
  have e21 : ∀ i, up S 21 j n 21 i = if i = j then n else S 21 i := fun i => by simp [up]
  refine ⟨⟨by rw [e 1 0 (by decide)]; exact h.gd.1, fun i z1 z2 => ?_, ?_⟩, fun i z1 z2 => ?_, fun i f z1 z2 z3 z4 => ?_, h.sl.cg fun f i hf => e f i (by omega), h.tm.cg fun f i hf => e f i (by omega), ⟨fun i z1 z2 => ?_, ?_⟩, h.pg.cg fun f i hf => e f i (by omega)⟩
  · rw [e 1 0 (by decide)] at z2
    have a := h.gd.2.1 i z1 z2
    unfold GJ at a ⊢
    rw [e21]
    simp only [e 16 _ (by decide), e 17 _ (by decide), e 19 _ (by decide), e 24 _ (by decide), e 25 _ (by decide), e 26 _ (by decide), e 35 _ (by decide)]
    obtain ⟨a1, a2, a3, a4, a5, a6, a7, a8⟩ := a
    refine ⟨a1, a2, a3, ?_, a5, a6, a7, fun f y1 y2 => a8 f y1 ?_⟩
    · split
      · rename_i hi; subst hi; omega
      · exact a4
    · split at y2
      · rename_i hi; subst hi; omega
      · exact y2
  · have a := h.gd.2.2
    unfold Rq at a ⊢
    simpa only [e 1 _ (by decide), e 7 _ (by decide), e 38 _ (by decide), e 26 _ (by decide)] using a
  · rw [e 1 0 (by decide)] at z2
    have a := h.wt i z1 z2
    unfold WJ at a ⊢
    simp only [e21, e 1 _ (by decide), e 16 _ (by decide), e 17 _ (by decide), e 25 _ (by decide), e 26 _ (by decide), e 27 _ (by decide), e 29 _ (by decide)]
    obtain ⟨a1, a2, a3, a4, a5, a6, a7, a8, a9, a10⟩ := a
    refine ⟨a1, fun y => ?_, a3, a4, a5, a6, a7, fun y => ?_, a9, a10⟩
    · rw [if_neg (by intro hi; subst hi; exact y hr.2.1)]; exact a2 y
    · rw [if_neg (by intro hi; subst hi; have := hr.2.2.2; omega)]; exact a8 y
  · rw [e 1 0 (by decide)] at z2
    rw [e21] at z4
    have a := h.fr i f z1 z2 z3 (by by_cases hi : i = j; (subst hi; rw [if_pos rfl] at z4; omega); (rw [if_neg hi] at z4; exact z4))
    unfold FJ at a ⊢
    simpa only [e 33 _ (by decide), e 34 _ (by decide), e 35 _ (by decide), e 36 _ (by decide), e 37 _ (by decide)] using a
  · rw [e 7 0 (by decide)] at z2
    rw [e 38 i (by decide), e21, if_neg (hr.2.2.1 i z1 z2)]
    exact h.rw.1 i z1 z2
  · rw [e 1 0 (by decide)]
    simpa only [e 23 _ (by decide)] using h.rw.2
theorem Iv.ended (h : Iv S) {j : Int} : Iv (up S 24 j 1) := by
  have e : ∀ f i, f ≠ 24 → up S 24 j 1 f i = S f i := fun f i z => up_f z
  refine ⟨⟨by rw [e 1 0 (by decide)]; exact h.gd.1, fun i z1 z2 => ?_, ?_⟩, h.wt.cg fun f i hf => e f i (by omega), h.fr.cg fun f i hf => e f i (by omega), h.sl.cg fun f i hf => e f i (by omega), h.tm.cg fun f i hf => e f i (by omega), h.rw.cg fun f i hf => e f i (by omega), h.pg.cg fun f i hf => e f i (by omega)⟩
  · rw [e 1 0 (by decide)] at z2
    have a := h.gd.2.1 i z1 z2
    unfold GJ at a ⊢
    have e24 : up S 24 j 1 24 i = if i = j then 1 else S 24 i := by simp [up]
    rw [e24]
    simp only [e 16 _ (by decide), e 17 _ (by decide), e 19 _ (by decide), e 21 _ (by decide), e 25 _ (by decide), e 26 _ (by decide), e 35 _ (by decide)]
    obtain ⟨a1, a2, a3, a4, a5, a6, a7, a8⟩ := a
    exact ⟨a1, a2, a3, a4, by split <;> omega, a6, a7, a8⟩
  · have a := h.gd.2.2
    unfold Rq at a ⊢
    simpa only [e 1 _ (by decide), e 7 _ (by decide), e 38 _ (by decide), e 26 _ (by decide)] using a
/-- the frames of j are gone: its body has ended -/
def z_end (S : js) (j : Int) : js := up (up (up S 21 j 0) 24 j 1) 10 0 1
def z_bodyEnds (S : js) (j : Int) : js := zfin 24 (z_end S j) j
theorem z_end_ok (h : Iv S) {j : Int} (hr : Rn j S) (he : En j S) (h0 : 0 ≤ S 21 j) : Iv (z_end S j) ∧ En (-1) (z_end S j) := by
  refine ⟨((h.pop hr ⟨by omega, by omega⟩).ended).fr1 (by omega), fun i z1 z2 => ?_⟩
  have e21 : z_end S j 21 i = if i = j then 0 else S 21 i := by simp [z_end, up]
  have e24 : z_end S j 24 i = if i = j then 1 else S 24 i := by simp [z_end, up]
  have e1 : z_end S j 1 0 = S 1 0 := by simp [z_end, up]
  rw [e1] at z2
  have := he i z1 z2
  rw [e21, e24]
  by_cases hi : i = j
  · simp [hi]
  · simp only [if_neg hi]
    exact ⟨this.1, fun _ => this.2 hi⟩
theorem r_bodyEnds {j : Int} (hR : RepR w mo ra S g b hs) (h : Iv S) (hr : Rn j S) (he : En j S) (h0 : 0 ≤ S 21 j) (hB : Bd 25 S) : V jcl w m_R_bodyEnds (d + 3) 0 [(0, .ref mo), (1, .int (ii j))] [] hs (fun o hs' => o = .inl none ∧ RepR w mo ra (z_bodyEnds S j) g b hs') := by
  have hJ := h.J
  have hj := hr.1
  obtain ⟨h1, h2⟩ := z_end_ok h hr he h0
  have e1 : z_end S j 1 0 = S 1 0 := by simp [z_end, up]
  have hfin : ∀ hs, RepR w mo ra (z_end S j) g b hs → V jcl w m_R_finish (d + 2) 0 [(0, .ref mo), (1, .int (ii j))] [] hs (fun o hs' => o = .inl none ∧ RepR w mo ra (z_bodyEnds S j) g b hs') := by
    intro hs hR
    refine V.iload_n (pc := 0) d_R_finish_0 rfl ?_
    refine V.istore_n (pc := 1) d_R_finish_1 (by decide) ?_
    exact V.lop (r_finish 24 (z_end S j) j _ hR h1 (hB.cg fun f i hf => by simp [z_end, up]; omega) (by omega) (by omega) (by omega) (fun i z1 z2 => (h2 i z1 z2).1)) ⟨rfl, rfl, trivial⟩
  first | refine V.aload_nR (pc := 0) d_R_bodyEnds_0 rfl ?_ | refine V.aload_n (pc := 0) d_R_bodyEnds_0 rfl ?_
  refine Vr.get (pc := 1) d_R_bodyEnds_1 g_R_75 hR rfl ?_
  refine V.iload_n (pc := 4) d_R_bodyEnds_4 rfl ?_
  refine Vi.iconst (pc := 5) d_R_bodyEnds_5 ?_
  refine Vr.ast (pc := 6) (n := 24) d_R_bodyEnds_6 hR (by decide) rfl (by first | assumption | decide | omega | (simp [up] <;> omega)) (fun hs hR => ?_)
  first | refine V.aload_nR (pc := 7) d_R_bodyEnds_7 rfl ?_ | refine V.aload_n (pc := 7) d_R_bodyEnds_7 rfl ?_
  refine Vr.get (pc := 8) d_R_bodyEnds_8 g_R_84 hR rfl ?_
  refine V.iload_n (pc := 11) d_R_bodyEnds_11 rfl ?_
  refine Vi.iconst (pc := 12) d_R_bodyEnds_12 ?_
  refine Vr.zast (pc := 13) (n := 24) d_R_bodyEnds_13 hR (by decide) rfl (by first | assumption | decide | omega | (simp [up] <;> omega)) (by omega) (fun hs hR => ?_)
  first | refine V.aload_nR (pc := 14) d_R_bodyEnds_14 rfl ?_ | refine V.aload_n (pc := 14) d_R_bodyEnds_14 rfl ?_
  refine Vi.iconst (pc := 15) d_R_bodyEnds_15 ?_
  refine Vr.put10 (pc := 16) d_R_bodyEnds_16 f_R_40 hR (by decide) (fun hs hR => ?_)
  first | refine V.aload_nR (pc := 19) d_R_bodyEnds_19 rfl ?_ | refine V.aload_n (pc := 19) d_R_bodyEnds_19 rfl ?_
  refine V.iload_n (pc := 20) d_R_bodyEnds_20 rfl ?_
  refine V.callV (pc := 21) d_R_bodyEnds_21 Y_R_finish l_R_184 wi_R_finish wv_R_finish (ci := 6) rfl rfl [_] hR.o rfl rfl ⟨by repeat (first | exact trivial | refine ⟨(by first | rfl | exact vrf_cat _), ?_⟩), Nat.le_of_ble_eq_true rfl⟩ ⟨⟨rfl, (by first | rfl | exact vrf_cat _), trivial⟩, Nat.le_of_ble_eq_true rfl⟩ (hfin _ hR) (fun v hs ho => ?_) (fun E hs ho => by simp at ho)
  obtain ⟨ho, hR⟩ := ho
  cases ho
  refine V.return_ (pc := 24) d_R_bodyEnds_24 rfl ?_
  exact ⟨rfl, hR⟩
def z_throwAt (S : js) (j x : Int) : js :=
  if S 35 (j * 6 + S 21 j - 1) = 0 then z_bodyEnds (z_give (up (up (up S 8 0 x) 21 j (S 21 j - 1)) 8 0 (-1)) j x) j
  else if S 35 (j * 6 + S 21 j - 1) = 1 ∧ 0 < x then z_pushFrame (z_write (up (up (up S 8 0 x) 21 j (S 21 j - 1)) 8 0 (-1)) (100 + x)) j (S 36 (j * 6 + S 21 j - 1)) 5 0 (-1)
  else if S 35 (j * 6 + S 21 j - 1) = 2 then z_pushFrame (up (up (up S 8 0 x) 21 j (S 21 j - 1)) 8 0 (-1)) j (S 36 (j * 6 + S 21 j - 1)) 3 0 x
  else up (up S 8 0 x) 21 j (S 21 j - 1)
/-- the reference may go on with j -/
def Ok (j : Int) (S : js) : Prop := Iv S ∧ Rn j S ∧ En j S ∧ Bd 30 S ∧ 0 < S 21 j ∧ (-1 ≤ S 8 0 ∧ S 8 0 ≤ 99) ∧ (0 ≤ S 9 0 ∧ S 9 0 ≤ 60) ∧ S 10 0 = 0
theorem z_give_run {j k x : Int} (h : Iv S) (hr : Rn j S) (hk : 0 ≤ k ∧ k < S 1 0) (hx : -1 ≤ x ∧ x ≤ 99) : Rn j (z_give S k x) ∧ (∀ r, En r S → En r (z_give S k x)) ∧ (∀ m, Bd m S → Bd m (z_give S k x)) ∧ (∀ i, z_give S k x 21 i = S 21 i) := by
  obtain ⟨hI, hG⟩ := z_give_ok h hk hx
  have e := hG.1
  refine ⟨⟨by rw [e 1 0 (by decide) (by decide) (by decide) (by decide) (by decide) (by decide) (by decide)]; exact hr.1, (hG.2.1 j hr.2.1).1, (hG.2.1 j hr.2.1).2 hr.2.2.1, by rw [e 25 j (by decide) (by decide) (by decide) (by decide) (by decide) (by decide) (by decide)]; exact hr.2.2.2⟩, fun r he => he.cg fun f i hf => e f i (by omega) (by omega) (by omega) (by omega) (by omega) (by omega) (by omega), fun m hm => hm.cg fun f i hf => e f i (by omega) (by omega) (by omega) (by omega) (by omega) (by omega) (by omega), fun i => e 21 i (by omega) (by omega) (by omega) (by omega) (by omega) (by omega) (by omega)⟩
theorem En.pop {j n : Int} (h : En j S) (hn : S 24 j = 1 → n = 0) : En j (up S 21 j n) := fun i z1 z2 => by
  have e21 : up S 21 j n 21 i = if i = j then n else S 21 i := by simp [up]
  rw [up_f (by decide)] at z2
  have := h i z1 z2
  rw [up_f (by decide), e21]
  by_cases hi : i = j
  · subst hi; simp only [if_pos]; exact ⟨hn, fun z => absurd rfl z⟩
  · simp only [if_neg hi]; exact this
theorem r_throwAt {j x : Int} (hR : RepR w mo ra S g b hs) (hO : Ok j S) (hx : 0 ≤ x ∧ x ≤ 99) : V jcl w m_R_throwAt (d + 4) 0 [(0, .ref mo), (1, .int (ii j)), (2, .int (ii x))] [] hs (fun o hs' => o = .inl none ∧ RepR w mo ra (z_throwAt S j x) g b hs') := by
  obtain ⟨h, hr, he, hB, h0, h8, h9, h10⟩ := hO
  have hJ := h.J
  have hj := hr.1
  have hgj := h.gd.2.1 j hj.1 hj.2
  have h21 : 0 ≤ S 21 j ∧ S 21 j ≤ 6 := hgj.2.2.2.1
  have h35 := hgj.2.2.2.2.2.2.2 (j * 6 + S 21 j - 1) (by omega) (by omega)
  have hfr := h.fr j (j * 6 + S 21 j - 1) hj.1 hj.2 (by omega) (by omega)
  unfold FJ at hfr
  have hpop := h.pop (n := S 21 j - 1) hr (by omega)
  have h24 : S 24 j = 1 → S 21 j = 0 := (he j hj.1 hj.2).1
  have hA : Iv (up (up (up S 8 0 x) 21 j (S 21 j - 1)) 8 0 (-1)) ∧ Rn j (up (up (up S 8 0 x) 21 j (S 21 j - 1)) 8 0 (-1)) ∧ En j (up (up (up S 8 0 x) 21 j (S 21 j - 1)) 8 0 (-1)) ∧ Bd 30 (up (up (up S 8 0 x) 21 j (S 21 j - 1)) 8 0 (-1)) := by
    refine ⟨hpop.cg fun f i _ _ _ z _ _ _ _ _ _ _ _ => by simp [up, z], hr.cg fun f i hf => ?_, (he.pop (n := S 21 j - 1) (by omega)).cg fun f i hf => ?_, hB.cg fun f i hf => ?_⟩
    all_goals simp [up]
    all_goals omega
  have e21 : up (up (up S 8 0 x) 21 j (S 21 j - 1)) 8 0 (-1) 21 j = S 21 j - 1 := by simp [up]
  have e3 : up (up (up S 8 0 x) 21 j (S 21 j - 1)) 8 0 (-1) 3 0 = S 3 0 := by simp [up]
  have ew : ∀ v i, z_write (up (up (up S 8 0 x) 21 j (S 21 j - 1)) 8 0 (-1)) v 21 i = up (up (up S 8 0 x) 21 j (S 21 j - 1)) 8 0 (-1) 21 i := fun v i => by unfold z_write; split <;> simp [up]
  have ew6 : ∀ v i, z_write (up (up (up S 8 0 x) 21 j (S 21 j - 1)) 8 0 (-1)) v 36 i = up (up (up S 8 0 x) 21 j (S 21 j - 1)) 8 0 (-1) 36 i := fun v i => by unfold z_write; split <;> simp [up]
  have e36 : ∀ i, up (up (up S 8 0 x) 21 j (S 21 j - 1)) 8 0 (-1) 36 i = S 36 i := fun i => by simp [up]
  have hn3 := h.tm.1
  have hb3 := hB.2.1
  generalize hT : up (up (up S 8 0 x) 21 j (S 21 j - 1)) 8 0 (-1) = T at hA e21 e3 ew ew6 e36
  obtain ⟨A1, A2, A3, A4⟩ := hA
  have G := z_give_run (k := j) (x := x) A1 A2 A2.1 (by omega)
  have GI := (z_give_ok A1 (j := j) (x := x) A2.1 (by omega)).1
  refine V.iload_n (pc := 0) d_R_throwAt_0 rfl ?_
  refine Vi.bipush (pc := 1) d_R_throwAt_1 (by decide) ?_
  refine Vi.imul (pc := 3) d_R_throwAt_3 ?_
  first | refine V.aload_nR (pc := 4) d_R_throwAt_4 rfl ?_ | refine V.aload_n (pc := 4) d_R_throwAt_4 rfl ?_
  refine Vr.get (pc := 5) d_R_throwAt_5 g_R_75 hR rfl ?_
  refine V.iload_n (pc := 8) d_R_throwAt_8 rfl ?_
  refine Vr.ald (pc := 9) (n := 24) d_R_throwAt_9 hR (by decide) rfl (by first | assumption | decide | omega | (simp [up] <;> omega)) ?_
  refine Vi.iadd (pc := 10) d_R_throwAt_10 ?_
  refine Vi.iconst (pc := 11) d_R_throwAt_11 ?_
  refine Vi.isub (pc := 12) d_R_throwAt_12 ?_
  refine V.istore_n (pc := 13) d_R_throwAt_13 (by decide) ?_
  first | refine V.aload_nR (pc := 14) d_R_throwAt_14 rfl ?_ | refine V.aload_n (pc := 14) d_R_throwAt_14 rfl ?_
  refine Vr.get (pc := 15) d_R_throwAt_15 g_R_118 hR rfl ?_
  refine V.iload_n (pc := 18) d_R_throwAt_18 rfl ?_
  refine Vr.ald (pc := 19) (n := 144) d_R_throwAt_19 hR (by decide) rfl (by first | assumption | decide | omega | (simp [up] <;> omega)) ?_
  refine V.istore (pc := 20) d_R_throwAt_20 (by decide) ?_
  first | refine V.aload_nR (pc := 22) d_R_throwAt_22 rfl ?_ | refine V.aload_n (pc := 22) d_R_throwAt_22 rfl ?_
  refine V.iload_n (pc := 23) d_R_throwAt_23 rfl ?_
  refine Vr.put8 (pc := 24) d_R_throwAt_24 f_R_34 hR (fun hs hR => ?_)
  first | refine V.aload_nR (pc := 27) d_R_throwAt_27 rfl ?_ | refine V.aload_n (pc := 27) d_R_throwAt_27 rfl ?_
  refine Vr.get (pc := 28) d_R_throwAt_28 g_R_75 hR rfl ?_
  refine V.iload_n (pc := 31) d_R_throwAt_31 rfl ?_
  refine V.dup2 (pc := 32) d_R_throwAt_32 (by first | rfl | exact vrf_cat _) (by first | rfl | exact vrf_cat _) ?_
  refine Vr.ald (pc := 33) (n := 24) d_R_throwAt_33 hR (by decide) rfl (by first | assumption | decide | omega | (simp [up] <;> omega)) ?_
  refine Vi.iconst (pc := 34) d_R_throwAt_34 ?_
  refine Vi.isub (pc := 35) d_R_throwAt_35 ?_
  refine Vr.ast (pc := 36) (n := 24) d_R_throwAt_36 hR (by decide) rfl (by first | assumption | decide | omega | (simp [up] <;> omega)) (fun hs hR => ?_)
  simp only [up_f (show (21 : Nat) ≠ 8 by decide)] at hR
  refine V.iload (pc := 37) d_R_throwAt_37 rfl ?_
  refine Vi.if_ne (pc := 39) (tgt := 62) d_R_throwAt_39 (by decide) (by first | assumption | decide | omega | (simp [up] <;> omega)) (fun c_39 => ?_) (fun c_39 => ?_)
  · refine V.iload (pc := 62) d_R_throwAt_62 rfl ?_
    refine Vi.iconst (pc := 64) d_R_throwAt_64 ?_
    refine Vi.icmp_ne (pc := 65) (tgt := 102) d_R_throwAt_65 (by decide) (by first | assumption | decide | omega | (simp [up] <;> omega)) (by first | assumption | decide | omega | (simp [up] <;> omega)) (fun c_65 => ?_) (fun c_65 => ?_)
    · refine V.iload (pc := 102) d_R_throwAt_102 rfl ?_
      refine Vi.iconst (pc := 104) d_R_throwAt_104 ?_
      refine Vi.icmp_ne (pc := 105) (tgt := 127) d_R_throwAt_105 (by decide) (by first | assumption | decide | omega | (simp [up] <;> omega)) (by first | assumption | decide | omega | (simp [up] <;> omega)) (fun c_105 => ?_) (fun c_105 => ?_)
      · refine V.return_ (pc := 127) d_R_throwAt_127 rfl ?_
        refine ⟨rfl, ?_⟩
        unfold z_throwAt
        rw [hT]
        (repeat' split) <;> first | exact hR | (exfalso; omega) | (simpa [up_f] using hR)
      · first | refine V.aload_nR (pc := 108) d_R_throwAt_108 rfl ?_ | refine V.aload_n (pc := 108) d_R_throwAt_108 rfl ?_
        refine Vi.iconst (pc := 109) d_R_throwAt_109 ?_
        refine Vr.put8 (pc := 110) d_R_throwAt_110 f_R_34 hR (fun hs hR => ?_)
        rw [hT] at hR
        first | refine V.aload_nR (pc := 113) d_R_throwAt_113 rfl ?_ | refine V.aload_n (pc := 113) d_R_throwAt_113 rfl ?_
        refine V.iload_n (pc := 114) d_R_throwAt_114 rfl ?_
        first | refine V.aload_nR (pc := 115) d_R_throwAt_115 rfl ?_ | refine V.aload_n (pc := 115) d_R_throwAt_115 rfl ?_
        refine Vr.get (pc := 116) d_R_throwAt_116 g_R_121 hR rfl ?_
        refine V.iload_n (pc := 119) d_R_throwAt_119 rfl ?_
        refine Vr.ald (pc := 120) (n := 144) d_R_throwAt_120 hR (by decide) rfl (by first | assumption | decide | omega | (simp [up] <;> omega)) ?_
        rw [e36]
        refine Vi.iconst (pc := 121) d_R_throwAt_121 ?_
        refine Vi.iconst (pc := 122) d_R_throwAt_122 ?_
        refine V.iload_n (pc := 123) d_R_throwAt_123 rfl ?_
        refine V.callV (pc := 124) d_R_throwAt_124 Y_R_pushFrame l_R_150 wi_R_pushFrame wv_R_pushFrame (ci := 6) rfl rfl [_, _, _, _, _] hR.o rfl rfl ⟨by repeat (first | exact trivial | refine ⟨(by first | rfl | exact vrf_cat _), ?_⟩), Nat.le_of_ble_eq_true rfl⟩ ⟨⟨rfl, (by first | rfl | exact vrf_cat _), (by first | rfl | exact vrf_cat _), (by first | rfl | exact vrf_cat _), (by first | rfl | exact vrf_cat _), (by first | rfl | exact vrf_cat _), trivial⟩, Nat.le_of_ble_eq_true rfl⟩ (r_pushFrame hR (by omega) (by first | (rw [ew]; omega) | omega)) (fun v hs ho => ?_) (fun E hs ho => by simp at ho)
        obtain ⟨ho, hR⟩ := ho
        cases ho
        refine V.return_ (pc := 127) d_R_throwAt_127 rfl ?_
        refine ⟨rfl, ?_⟩
        unfold z_throwAt
        rw [hT]
        (repeat' split) <;> first | exact hR | (exfalso; omega) | (simpa [up_f] using hR)
    · refine V.iload_n (pc := 68) d_R_throwAt_68 rfl ?_
      refine Vi.if_le (pc := 69) (tgt := 102) d_R_throwAt_69 (by decide) (by first | assumption | decide | omega | (simp [up] <;> omega)) (fun c_69 => ?_) (fun c_69 => ?_)
      · refine V.iload (pc := 102) d_R_throwAt_102 rfl ?_
        refine Vi.iconst (pc := 104) d_R_throwAt_104 ?_
        refine Vi.icmp_ne (pc := 105) (tgt := 127) d_R_throwAt_105 (by decide) (by first | assumption | decide | omega | (simp [up] <;> omega)) (by first | assumption | decide | omega | (simp [up] <;> omega)) (fun c_105 => ?_) (fun c_105 => ?_)
        · refine V.return_ (pc := 127) d_R_throwAt_127 rfl ?_
          refine ⟨rfl, ?_⟩
          unfold z_throwAt
          rw [hT]
          (repeat' split) <;> first | exact hR | (exfalso; omega) | (simpa [up_f] using hR)
        · first | refine V.aload_nR (pc := 108) d_R_throwAt_108 rfl ?_ | refine V.aload_n (pc := 108) d_R_throwAt_108 rfl ?_
          refine Vi.iconst (pc := 109) d_R_throwAt_109 ?_
          refine Vr.put8 (pc := 110) d_R_throwAt_110 f_R_34 hR (fun hs hR => ?_)
          rw [hT] at hR
          first | refine V.aload_nR (pc := 113) d_R_throwAt_113 rfl ?_ | refine V.aload_n (pc := 113) d_R_throwAt_113 rfl ?_
          refine V.iload_n (pc := 114) d_R_throwAt_114 rfl ?_
          first | refine V.aload_nR (pc := 115) d_R_throwAt_115 rfl ?_ | refine V.aload_n (pc := 115) d_R_throwAt_115 rfl ?_
          refine Vr.get (pc := 116) d_R_throwAt_116 g_R_121 hR rfl ?_
          refine V.iload_n (pc := 119) d_R_throwAt_119 rfl ?_
          refine Vr.ald (pc := 120) (n := 144) d_R_throwAt_120 hR (by decide) rfl (by first | assumption | decide | omega | (simp [up] <;> omega)) ?_
          rw [e36]
          refine Vi.iconst (pc := 121) d_R_throwAt_121 ?_
          refine Vi.iconst (pc := 122) d_R_throwAt_122 ?_
          refine V.iload_n (pc := 123) d_R_throwAt_123 rfl ?_
          refine V.callV (pc := 124) d_R_throwAt_124 Y_R_pushFrame l_R_150 wi_R_pushFrame wv_R_pushFrame (ci := 6) rfl rfl [_, _, _, _, _] hR.o rfl rfl ⟨by repeat (first | exact trivial | refine ⟨(by first | rfl | exact vrf_cat _), ?_⟩), Nat.le_of_ble_eq_true rfl⟩ ⟨⟨rfl, (by first | rfl | exact vrf_cat _), (by first | rfl | exact vrf_cat _), (by first | rfl | exact vrf_cat _), (by first | rfl | exact vrf_cat _), (by first | rfl | exact vrf_cat _), trivial⟩, Nat.le_of_ble_eq_true rfl⟩ (r_pushFrame hR (by omega) (by first | (rw [ew]; omega) | omega)) (fun v hs ho => ?_) (fun E hs ho => by simp at ho)
          obtain ⟨ho, hR⟩ := ho
          cases ho
          refine V.return_ (pc := 127) d_R_throwAt_127 rfl ?_
          refine ⟨rfl, ?_⟩
          unfold z_throwAt
          rw [hT]
          (repeat' split) <;> first | exact hR | (exfalso; omega) | (simpa [up_f] using hR)
      · first | refine V.aload_nR (pc := 72) d_R_throwAt_72 rfl ?_ | refine V.aload_n (pc := 72) d_R_throwAt_72 rfl ?_
        refine Vi.iconst (pc := 73) d_R_throwAt_73 ?_
        refine Vr.put8 (pc := 74) d_R_throwAt_74 f_R_34 hR (fun hs hR => ?_)
        rw [hT] at hR
        first | refine V.aload_nR (pc := 77) d_R_throwAt_77 rfl ?_ | refine V.aload_n (pc := 77) d_R_throwAt_77 rfl ?_
        refine Vi.bipush (pc := 78) d_R_throwAt_78 (by decide) ?_
        refine V.iload_n (pc := 80) d_R_throwAt_80 rfl ?_
        refine Vi.iadd (pc := 81) d_R_throwAt_81 ?_
        refine V.callV (pc := 82) d_R_throwAt_82 Y_R_write l_R_180 wi_R_write wv_R_write (ci := 6) rfl rfl [_] hR.o rfl rfl ⟨by repeat (first | exact trivial | refine ⟨(by first | rfl | exact vrf_cat _), ?_⟩), Nat.le_of_ble_eq_true rfl⟩ ⟨⟨rfl, (by first | rfl | exact vrf_cat _), trivial⟩, Nat.le_of_ble_eq_true rfl⟩ (r_write hR (by omega)) (fun v hs ho => ?_) (fun E hs ho => by simp at ho)
        obtain ⟨ho, hR⟩ := ho
        cases ho
        first | refine V.aload_nR (pc := 85) d_R_throwAt_85 rfl ?_ | refine V.aload_n (pc := 85) d_R_throwAt_85 rfl ?_
        refine V.iload_n (pc := 86) d_R_throwAt_86 rfl ?_
        first | refine V.aload_nR (pc := 87) d_R_throwAt_87 rfl ?_ | refine V.aload_n (pc := 87) d_R_throwAt_87 rfl ?_
        refine Vr.get (pc := 88) d_R_throwAt_88 g_R_121 hR rfl ?_
        refine V.iload_n (pc := 91) d_R_throwAt_91 rfl ?_
        refine Vr.ald (pc := 92) (n := 144) d_R_throwAt_92 hR (by decide) rfl (by first | assumption | decide | omega | (simp [up] <;> omega)) ?_
        rw [ew6, e36]
        refine Vi.iconst (pc := 93) d_R_throwAt_93 ?_
        refine Vi.iconst (pc := 94) d_R_throwAt_94 ?_
        refine Vi.iconst (pc := 95) d_R_throwAt_95 ?_
        refine V.callV (pc := 96) d_R_throwAt_96 Y_R_pushFrame l_R_150 wi_R_pushFrame wv_R_pushFrame (ci := 6) rfl rfl [_, _, _, _, _] hR.o rfl rfl ⟨by repeat (first | exact trivial | refine ⟨(by first | rfl | exact vrf_cat _), ?_⟩), Nat.le_of_ble_eq_true rfl⟩ ⟨⟨rfl, (by first | rfl | exact vrf_cat _), (by first | rfl | exact vrf_cat _), (by first | rfl | exact vrf_cat _), (by first | rfl | exact vrf_cat _), (by first | rfl | exact vrf_cat _), trivial⟩, Nat.le_of_ble_eq_true rfl⟩ (r_pushFrame hR (by omega) (by first | (rw [ew]; omega) | omega)) (fun v hs ho => ?_) (fun E hs ho => by simp at ho)
        obtain ⟨ho, hR⟩ := ho
        cases ho
        refine V.goto (pc := 99) (tgt := 127) d_R_throwAt_99 (by decide) ?_
        refine V.return_ (pc := 127) d_R_throwAt_127 rfl ?_
        refine ⟨rfl, ?_⟩
        unfold z_throwAt
        rw [hT]
        (repeat' split) <;> first | exact hR | (exfalso; omega) | (simpa [up_f] using hR)
  · first | refine V.aload_nR (pc := 42) d_R_throwAt_42 rfl ?_ | refine V.aload_n (pc := 42) d_R_throwAt_42 rfl ?_
    refine Vi.iconst (pc := 43) d_R_throwAt_43 ?_
    refine Vr.put8 (pc := 44) d_R_throwAt_44 f_R_34 hR (fun hs hR => ?_)
    rw [hT] at hR
    first | refine V.aload_nR (pc := 47) d_R_throwAt_47 rfl ?_ | refine V.aload_n (pc := 47) d_R_throwAt_47 rfl ?_
    refine V.iload_n (pc := 48) d_R_throwAt_48 rfl ?_
    refine V.iload_n (pc := 49) d_R_throwAt_49 rfl ?_
    refine V.callV (pc := 50) d_R_throwAt_50 Y_R_give l_R_170 wi_R_give wv_R_give (ci := 6) rfl rfl [_, _] hR.o rfl rfl ⟨by repeat (first | exact trivial | refine ⟨(by first | rfl | exact vrf_cat _), ?_⟩), Nat.le_of_ble_eq_true rfl⟩ ⟨⟨rfl, (by first | rfl | exact vrf_cat _), (by first | rfl | exact vrf_cat _), trivial⟩, Nat.le_of_ble_eq_true rfl⟩ (r_give hR A1.gd A2.1 (by omega)) (fun v hs ho => ?_) (fun E hs ho => by simp at ho)
    obtain ⟨r_50, ho, hr_50, hR⟩ := ho
    cases ho
    refine V.pop (pc := 53) d_R_throwAt_53 (by first | rfl | exact vrf_cat _) ?_
    first | refine V.aload_nR (pc := 54) d_R_throwAt_54 rfl ?_ | refine V.aload_n (pc := 54) d_R_throwAt_54 rfl ?_
    refine V.iload_n (pc := 55) d_R_throwAt_55 rfl ?_
    refine V.callV (pc := 56) d_R_throwAt_56 Y_R_bodyEnds l_R_187 wi_R_bodyEnds wv_R_bodyEnds (ci := 6) rfl rfl [_] hR.o rfl rfl ⟨by repeat (first | exact trivial | refine ⟨(by first | rfl | exact vrf_cat _), ?_⟩), Nat.le_of_ble_eq_true rfl⟩ ⟨⟨rfl, (by first | rfl | exact vrf_cat _), trivial⟩, Nat.le_of_ble_eq_true rfl⟩ (r_bodyEnds hR GI G.1 (G.2.1 _ A3) (by rw [G.2.2.2]; omega) ((G.2.2.1 _ A4).le (by omega))) (fun v hs ho => ?_) (fun E hs ho => by simp at ho)
    obtain ⟨ho, hR⟩ := ho
    cases ho
    refine V.goto (pc := 59) (tgt := 127) d_R_throwAt_59 (by decide) ?_
    refine V.return_ (pc := 127) d_R_throwAt_127 rfl ?_
    refine ⟨rfl, ?_⟩
    unfold z_throwAt
    rw [hT]
    (repeat' split) <;> first | exact hR | (exfalso; omega) | (simpa [up_f] using hR)
def z_frameEnds (S : js) (j : Int) : js :=
  if S 35 (j * 6 + S 21 j - 1) = 0 then z_bodyEnds (up S 21 j (S 21 j - 1)) j
  else if S 35 (j * 6 + S 21 j - 1) = 2 then z_pushFrame (up S 21 j (S 21 j - 1)) j (S 36 (j * 6 + S 21 j - 1)) 3 0 (-1)
  else if S 35 (j * 6 + S 21 j - 1) = 3 then up (up S 21 j (S 21 j - 1)) 8 0 (S 37 (j * 6 + S 21 j - 1))
  else up S 21 j (S 21 j - 1)
theorem r_frameEnds {j : Int} (hR : RepR w mo ra S g b hs) (hO : Ok j S) : V jcl w m_R_frameEnds (d + 4) 0 [(0, .ref mo), (1, .int (ii j))] [] hs (fun o hs' => o = .inl none ∧ RepR w mo ra (z_frameEnds S j) g b hs') := by
  obtain ⟨h, hr, he, hB, h0, h8, h9, h10⟩ := hO
  have hJ := h.J
  have hj := hr.1
  have hgj := h.gd.2.1 j hj.1 hj.2
  have h21 : 0 ≤ S 21 j ∧ S 21 j ≤ 6 := hgj.2.2.2.1
  have h35 := hgj.2.2.2.2.2.2.2 (j * 6 + S 21 j - 1) (by omega) (by omega)
  have hfr := h.fr j (j * 6 + S 21 j - 1) hj.1 hj.2 (by omega) (by omega)
  unfold FJ at hfr
  have hpop := h.pop (n := S 21 j - 1) hr (by omega)
  have h24 : S 24 j = 1 → S 21 j = 0 := (he j hj.1 hj.2).1
  have A2 : Rn j (up S 21 j (S 21 j - 1)) := hr.cg fun f i hf => up_f (by omega)
  have A3 : En j (up S 21 j (S 21 j - 1)) := he.pop (by omega)
  have A4 : Bd 30 (up S 21 j (S 21 j - 1)) := hB.cg fun f i hf => up_f (by omega)
  have e21 : up S 21 j (S 21 j - 1) 21 j = S 21 j - 1 := by simp [up]
  refine V.iload_n (pc := 0) d_R_frameEnds_0 rfl ?_
  refine Vi.bipush (pc := 1) d_R_frameEnds_1 (by decide) ?_
  refine Vi.imul (pc := 3) d_R_frameEnds_3 ?_
  first | refine V.aload_nR (pc := 4) d_R_frameEnds_4 rfl ?_ | refine V.aload_n (pc := 4) d_R_frameEnds_4 rfl ?_
  refine Vr.get (pc := 5) d_R_frameEnds_5 g_R_75 hR rfl ?_
  refine V.iload_n (pc := 8) d_R_frameEnds_8 rfl ?_
  refine Vr.ald (pc := 9) (n := 24) d_R_frameEnds_9 hR (by decide) rfl (by first | assumption | decide | omega | (simp [up] <;> omega)) ?_
  refine Vi.iadd (pc := 10) d_R_frameEnds_10 ?_
  refine Vi.iconst (pc := 11) d_R_frameEnds_11 ?_
  refine Vi.isub (pc := 12) d_R_frameEnds_12 ?_
  refine V.istore_n (pc := 13) d_R_frameEnds_13 (by decide) ?_
  first | refine V.aload_nR (pc := 14) d_R_frameEnds_14 rfl ?_ | refine V.aload_n (pc := 14) d_R_frameEnds_14 rfl ?_
  refine Vr.get (pc := 15) d_R_frameEnds_15 g_R_118 hR rfl ?_
  refine V.iload_n (pc := 18) d_R_frameEnds_18 rfl ?_
  refine Vr.ald (pc := 19) (n := 144) d_R_frameEnds_19 hR (by decide) rfl (by first | assumption | decide | omega | (simp [up] <;> omega)) ?_
  refine V.istore_n (pc := 20) d_R_frameEnds_20 (by decide) ?_
  first | refine V.aload_nR (pc := 21) d_R_frameEnds_21 rfl ?_ | refine V.aload_n (pc := 21) d_R_frameEnds_21 rfl ?_
  refine Vr.get (pc := 22) d_R_frameEnds_22 g_R_75 hR rfl ?_
  refine V.iload_n (pc := 25) d_R_frameEnds_25 rfl ?_
  refine V.dup2 (pc := 26) d_R_frameEnds_26 (by first | rfl | exact vrf_cat _) (by first | rfl | exact vrf_cat _) ?_
  refine Vr.ald (pc := 27) (n := 24) d_R_frameEnds_27 hR (by decide) rfl (by first | assumption | decide | omega | (simp [up] <;> omega)) ?_
  refine Vi.iconst (pc := 28) d_R_frameEnds_28 ?_
  refine Vi.isub (pc := 29) d_R_frameEnds_29 ?_
  refine Vr.ast (pc := 30) (n := 24) d_R_frameEnds_30 hR (by decide) rfl (by first | assumption | decide | omega | (simp [up] <;> omega)) (fun hs hR => ?_)
  refine V.iload_n (pc := 31) d_R_frameEnds_31 rfl ?_
  refine Vi.if_ne (pc := 32) (tgt := 43) d_R_frameEnds_32 (by decide) (by first | assumption | decide | omega | (simp [up] <;> omega)) (fun c_32 => ?_) (fun c_32 => ?_)
  · refine V.iload_n (pc := 43) d_R_frameEnds_43 rfl ?_
    refine Vi.iconst (pc := 44) d_R_frameEnds_44 ?_
    refine Vi.icmp_ne (pc := 45) (tgt := 65) d_R_frameEnds_45 (by decide) (by first | assumption | decide | omega | (simp [up] <;> omega)) (by first | assumption | decide | omega | (simp [up] <;> omega)) (fun c_45 => ?_) (fun c_45 => ?_)
    · refine V.iload_n (pc := 65) d_R_frameEnds_65 rfl ?_
      refine Vi.iconst (pc := 66) d_R_frameEnds_66 ?_
      refine Vi.icmp_ne (pc := 67) (tgt := 80) d_R_frameEnds_67 (by decide) (by first | assumption | decide | omega | (simp [up] <;> omega)) (by first | assumption | decide | omega | (simp [up] <;> omega)) (fun c_67 => ?_) (fun c_67 => ?_)
      · refine V.return_ (pc := 80) d_R_frameEnds_80 rfl ?_
        refine ⟨rfl, ?_⟩
        unfold z_frameEnds
        (repeat' split) <;> first | exact hR | (exfalso; omega) | (simpa [up_f] using hR)
      · first | refine V.aload_nR (pc := 70) d_R_frameEnds_70 rfl ?_ | refine V.aload_n (pc := 70) d_R_frameEnds_70 rfl ?_
        first | refine V.aload_nR (pc := 71) d_R_frameEnds_71 rfl ?_ | refine V.aload_n (pc := 71) d_R_frameEnds_71 rfl ?_
        refine Vr.get (pc := 72) d_R_frameEnds_72 g_R_124 hR rfl ?_
        refine V.iload_n (pc := 75) d_R_frameEnds_75 rfl ?_
        refine Vr.ald (pc := 76) (n := 144) d_R_frameEnds_76 hR (by decide) rfl (by first | assumption | decide | omega | (simp [up] <;> omega)) ?_
        rw [up_f (show (37 : Nat) ≠ 21 by decide)]
        refine Vr.put8 (pc := 77) d_R_frameEnds_77 f_R_34 hR (fun hs hR => ?_)
        refine V.return_ (pc := 80) d_R_frameEnds_80 rfl ?_
        refine ⟨rfl, ?_⟩
        unfold z_frameEnds
        (repeat' split) <;> first | exact hR | (exfalso; omega) | (simpa [up_f] using hR)
    · first | refine V.aload_nR (pc := 48) d_R_frameEnds_48 rfl ?_ | refine V.aload_n (pc := 48) d_R_frameEnds_48 rfl ?_
      refine V.iload_n (pc := 49) d_R_frameEnds_49 rfl ?_
      first | refine V.aload_nR (pc := 50) d_R_frameEnds_50 rfl ?_ | refine V.aload_n (pc := 50) d_R_frameEnds_50 rfl ?_
      refine Vr.get (pc := 51) d_R_frameEnds_51 g_R_121 hR rfl ?_
      refine V.iload_n (pc := 54) d_R_frameEnds_54 rfl ?_
      refine Vr.ald (pc := 55) (n := 144) d_R_frameEnds_55 hR (by decide) rfl (by first | assumption | decide | omega | (simp [up] <;> omega)) ?_
      rw [up_f (show (36 : Nat) ≠ 21 by decide)]
      refine Vi.iconst (pc := 56) d_R_frameEnds_56 ?_
      refine Vi.iconst (pc := 57) d_R_frameEnds_57 ?_
      refine Vi.iconst (pc := 58) d_R_frameEnds_58 ?_
      refine V.callV (pc := 59) d_R_frameEnds_59 Y_R_pushFrame l_R_150 wi_R_pushFrame wv_R_pushFrame (ci := 6) rfl rfl [_, _, _, _, _] hR.o rfl rfl ⟨by repeat (first | exact trivial | refine ⟨(by first | rfl | exact vrf_cat _), ?_⟩), Nat.le_of_ble_eq_true rfl⟩ ⟨⟨rfl, (by first | rfl | exact vrf_cat _), (by first | rfl | exact vrf_cat _), (by first | rfl | exact vrf_cat _), (by first | rfl | exact vrf_cat _), (by first | rfl | exact vrf_cat _), trivial⟩, Nat.le_of_ble_eq_true rfl⟩ (r_pushFrame hR (by omega) (by omega)) (fun v hs ho => ?_) (fun E hs ho => by simp at ho)
      obtain ⟨ho, hR⟩ := ho
      cases ho
      refine V.goto (pc := 62) (tgt := 80) d_R_frameEnds_62 (by decide) ?_
      refine V.return_ (pc := 80) d_R_frameEnds_80 rfl ?_
      refine ⟨rfl, ?_⟩
      unfold z_frameEnds
      (repeat' split) <;> first | exact hR | (exfalso; omega) | (simpa [up_f] using hR)
  · first | refine V.aload_nR (pc := 35) d_R_frameEnds_35 rfl ?_ | refine V.aload_n (pc := 35) d_R_frameEnds_35 rfl ?_
    refine V.iload_n (pc := 36) d_R_frameEnds_36 rfl ?_
    refine V.callV (pc := 37) d_R_frameEnds_37 Y_R_bodyEnds l_R_187 wi_R_bodyEnds wv_R_bodyEnds (ci := 6) rfl rfl [_] hR.o rfl rfl ⟨by repeat (first | exact trivial | refine ⟨(by first | rfl | exact vrf_cat _), ?_⟩), Nat.le_of_ble_eq_true rfl⟩ ⟨⟨rfl, (by first | rfl | exact vrf_cat _), trivial⟩, Nat.le_of_ble_eq_true rfl⟩ (r_bodyEnds hR hpop A2 A3 (by rw [e21]; omega) (A4.le (by omega))) (fun v hs ho => ?_) (fun E hs ho => by simp at ho)
    obtain ⟨ho, hR⟩ := ho
    cases ho
    refine V.goto (pc := 40) (tgt := 80) d_R_frameEnds_40 (by decide) ?_
    refine V.return_ (pc := 80) d_R_frameEnds_80 rfl ?_
    refine ⟨rfl, ?_⟩
    unfold z_frameEnds
    (repeat' split) <;> first | exact hR | (exfalso; omega) | (simpa [up_f] using hR)
def z_awaits (S : js) (j x o : Int) : js := if o < 0 then S else if S 25 o = 0 then z_waitIn S j x o else if x = 4 ∧ S 19 o < 0 then up S 18 j (S 18 j + S 18 o) else if x = 4 then up S 8 0 (S 19 o) else S
theorem r_awaits {j x o : Int} (hR : RepR w mo ra S g b hs) (h : Iv S) (hj : 0 ≤ j ∧ j < 24) (hx : jr x) (ho : -1 ≤ o ∧ o < S 1 0) : V jcl w m_R_awaits (d + 1) 0 [(0, .ref mo), (1, .int (ii j)), (2, .int (ii x)), (3, .int (ii o))] [] hs (fun o1 hs' => o1 = .inl none ∧ RepR w mo ra (z_awaits S j x o) g b hs') := by
  have hJ := h.J
  have hg : 0 ≤ o → (S 25 o = 0 ∨ S 25 o = 1) ∧ (-1 ≤ S 19 o ∧ S 19 o ≤ 99) := fun z => ⟨(h.gd.2.1 o z ho.2).2.2.2.2.2.1, (h.gd.2.1 o z ho.2).2.2.1⟩
  refine V.iload_n (pc := 0) d_R_awaits_0 rfl ?_
  refine Vi.if_ge (pc := 1) (tgt := 5) d_R_awaits_1 (by decide) (by first | assumption | decide | omega | (simp [up] <;> omega)) (fun c_1 => ?_) (fun c_1 => ?_)
  · first | refine V.aload_nR (pc := 5) d_R_awaits_5 rfl ?_ | refine V.aload_n (pc := 5) d_R_awaits_5 rfl ?_
    refine Vr.get (pc := 6) d_R_awaits_6 g_R_88 hR rfl ?_
    refine V.iload_n (pc := 9) d_R_awaits_9 rfl ?_
    refine Vr.zald (pc := 10) (n := 24) d_R_awaits_10 hR (by decide) rfl (by first | assumption | decide | omega | (simp [up] <;> omega)) ?_
    refine Vi.if_ne (pc := 11) (tgt := 24) d_R_awaits_11 (by decide) (by first | assumption | decide | omega | (simp [up] <;> omega)) (fun c_11 => ?_) (fun c_11 => ?_)
    · refine V.iload_n (pc := 24) d_R_awaits_24 rfl ?_
      refine Vi.iconst (pc := 25) d_R_awaits_25 ?_
      refine Vi.icmp_ne (pc := 26) (tgt := 56) d_R_awaits_26 (by decide) (by first | assumption | decide | omega | (simp [up] <;> omega)) (by first | assumption | decide | omega | (simp [up] <;> omega)) (fun c_26 => ?_) (fun c_26 => ?_)
      · refine V.iload_n (pc := 56) d_R_awaits_56 rfl ?_
        refine Vi.iconst (pc := 57) d_R_awaits_57 ?_
        refine Vi.icmp_ne (pc := 58) (tgt := 71) d_R_awaits_58 (by decide) (by first | assumption | decide | omega | (simp [up] <;> omega)) (by first | assumption | decide | omega | (simp [up] <;> omega)) (fun c_58 => ?_) (fun c_58 => ?_)
        · refine V.return_ (pc := 71) d_R_awaits_71 rfl ?_
          refine ⟨rfl, ?_⟩
          unfold z_awaits
          (repeat' split) <;> first | exact hR | (exfalso; omega)
        · first | refine V.aload_nR (pc := 61) d_R_awaits_61 rfl ?_ | refine V.aload_n (pc := 61) d_R_awaits_61 rfl ?_
          first | refine V.aload_nR (pc := 62) d_R_awaits_62 rfl ?_ | refine V.aload_n (pc := 62) d_R_awaits_62 rfl ?_
          refine Vr.get (pc := 63) d_R_awaits_63 g_R_69 hR rfl ?_
          refine V.iload_n (pc := 66) d_R_awaits_66 rfl ?_
          refine Vr.ald (pc := 67) (n := 24) d_R_awaits_67 hR (by decide) rfl (by first | assumption | decide | omega | (simp [up] <;> omega)) ?_
          refine Vr.put8 (pc := 68) d_R_awaits_68 f_R_34 hR (fun hs hR => ?_)
          refine V.return_ (pc := 71) d_R_awaits_71 rfl ?_
          refine ⟨rfl, ?_⟩
          unfold z_awaits
          (repeat' split) <;> first | exact hR | (exfalso; omega)
      · first | refine V.aload_nR (pc := 29) d_R_awaits_29 rfl ?_ | refine V.aload_n (pc := 29) d_R_awaits_29 rfl ?_
        refine Vr.get (pc := 30) d_R_awaits_30 g_R_69 hR rfl ?_
        refine V.iload_n (pc := 33) d_R_awaits_33 rfl ?_
        refine Vr.ald (pc := 34) (n := 24) d_R_awaits_34 hR (by decide) rfl (by first | assumption | decide | omega | (simp [up] <;> omega)) ?_
        refine Vi.if_ge (pc := 35) (tgt := 56) d_R_awaits_35 (by decide) (by first | assumption | decide | omega | (simp [up] <;> omega)) (fun c_35 => ?_) (fun c_35 => ?_)
        · refine V.iload_n (pc := 56) d_R_awaits_56 rfl ?_
          refine Vi.iconst (pc := 57) d_R_awaits_57 ?_
          refine Vi.icmp_ne (pc := 58) (tgt := 71) d_R_awaits_58 (by decide) (by first | assumption | decide | omega | (simp [up] <;> omega)) (by first | assumption | decide | omega | (simp [up] <;> omega)) (fun c_58 => ?_) (fun c_58 => ?_)
          · refine V.return_ (pc := 71) d_R_awaits_71 rfl ?_
            refine ⟨rfl, ?_⟩
            unfold z_awaits
            (repeat' split) <;> first | exact hR | (exfalso; omega)
          · first | refine V.aload_nR (pc := 61) d_R_awaits_61 rfl ?_ | refine V.aload_n (pc := 61) d_R_awaits_61 rfl ?_
            first | refine V.aload_nR (pc := 62) d_R_awaits_62 rfl ?_ | refine V.aload_n (pc := 62) d_R_awaits_62 rfl ?_
            refine Vr.get (pc := 63) d_R_awaits_63 g_R_69 hR rfl ?_
            refine V.iload_n (pc := 66) d_R_awaits_66 rfl ?_
            refine Vr.ald (pc := 67) (n := 24) d_R_awaits_67 hR (by decide) rfl (by first | assumption | decide | omega | (simp [up] <;> omega)) ?_
            refine Vr.put8 (pc := 68) d_R_awaits_68 f_R_34 hR (fun hs hR => ?_)
            refine V.return_ (pc := 71) d_R_awaits_71 rfl ?_
            refine ⟨rfl, ?_⟩
            unfold z_awaits
            (repeat' split) <;> first | exact hR | (exfalso; omega)
        · first | refine V.aload_nR (pc := 38) d_R_awaits_38 rfl ?_ | refine V.aload_n (pc := 38) d_R_awaits_38 rfl ?_
          refine Vr.get (pc := 39) d_R_awaits_39 g_R_66 hR rfl ?_
          refine V.iload_n (pc := 42) d_R_awaits_42 rfl ?_
          refine V.dup2 (pc := 43) d_R_awaits_43 (by first | rfl | exact vrf_cat _) (by first | rfl | exact vrf_cat _) ?_
          refine Vr.ald (pc := 44) (n := 24) d_R_awaits_44 hR (by decide) rfl (by first | assumption | decide | omega | (simp [up] <;> omega)) ?_
          first | refine V.aload_nR (pc := 45) d_R_awaits_45 rfl ?_ | refine V.aload_n (pc := 45) d_R_awaits_45 rfl ?_
          refine Vr.get (pc := 46) d_R_awaits_46 g_R_66 hR rfl ?_
          refine V.iload_n (pc := 49) d_R_awaits_49 rfl ?_
          refine Vr.ald (pc := 50) (n := 24) d_R_awaits_50 hR (by decide) rfl (by first | assumption | decide | omega | (simp [up] <;> omega)) ?_
          refine Vi.iadd (pc := 51) d_R_awaits_51 ?_
          refine Vr.ast (pc := 52) (n := 24) d_R_awaits_52 hR (by decide) rfl (by first | assumption | decide | omega | (simp [up] <;> omega)) (fun hs hR => ?_)
          refine V.goto (pc := 53) (tgt := 71) d_R_awaits_53 (by decide) ?_
          refine V.return_ (pc := 71) d_R_awaits_71 rfl ?_
          refine ⟨rfl, ?_⟩
          unfold z_awaits
          (repeat' split) <;> first | exact hR | (exfalso; omega)
    · first | refine V.aload_nR (pc := 14) d_R_awaits_14 rfl ?_ | refine V.aload_n (pc := 14) d_R_awaits_14 rfl ?_
      refine V.iload_n (pc := 15) d_R_awaits_15 rfl ?_
      refine V.iload_n (pc := 16) d_R_awaits_16 rfl ?_
      refine V.iload_n (pc := 17) d_R_awaits_17 rfl ?_
      refine V.callV (pc := 18) d_R_awaits_18 Y_R_waitIn l_R_190 wi_R_waitIn wv_R_waitIn (ci := 6) rfl rfl [_, _, _] hR.o rfl rfl ⟨by repeat (first | exact trivial | refine ⟨(by first | rfl | exact vrf_cat _), ?_⟩), Nat.le_of_ble_eq_true rfl⟩ ⟨⟨rfl, (by first | rfl | exact vrf_cat _), (by first | rfl | exact vrf_cat _), (by first | rfl | exact vrf_cat _), trivial⟩, Nat.le_of_ble_eq_true rfl⟩ (r_waitIn hR (by omega)) (fun v hs ho => ?_) (fun E hs ho => by simp at ho)
      obtain ⟨ho, hR⟩ := ho
      cases ho
      refine V.goto (pc := 21) (tgt := 71) d_R_awaits_21 (by decide) ?_
      refine V.return_ (pc := 71) d_R_awaits_71 rfl ?_
      refine ⟨rfl, ?_⟩
      unfold z_awaits
      (repeat' split) <;> first | exact hR | (exfalso; omega)
  · refine V.return_ (pc := 4) d_R_awaits_4 rfl ?_
    refine ⟨rfl, ?_⟩
    unfold z_awaits
    (repeat' split) <;> first | exact hR | (exfalso; omega)
def z_scope (S : js) (j x a c : Int) : js := z_waitIn (if x = 10 then up (up (z_begin S c j (x - 6)) 31 (S 1 0) (S 2 0 + a)) 32 (S 1 0) (S 6 0) else z_begin S a j (x - 6)) j 8 (S 1 0)
theorem r_scope {j x a c : Int} (hR : RepR w mo ra S g b hs) (hj : 0 ≤ j ∧ j < 24) (hx : jr x) (hJ : 0 ≤ S 1 0 ∧ S 1 0 < 24) (hq : 0 ≤ S 7 0 ∧ S 7 0 < 24) : V jcl w m_R_scope (d + 2) 0 [(0, .ref mo), (1, .int (ii j)), (2, .int (ii x)), (3, .int (ii a)), (4, .int (ii c))] [] hs (fun o hs' => o = .inl none ∧ RepR w mo ra (z_scope S j x a c) g b hs') := by
  have e2 : ∀ p q s, z_begin S p q s 2 0 = S 2 0 := fun p q s => by simp [z_begin, z_putReady, z_pushFrame, z_slots, z_begin0, up]
  have e6 : ∀ p q s, z_begin S p q s 6 0 = S 6 0 := fun p q s => by simp [z_begin, z_putReady, z_pushFrame, z_slots, z_begin0, up]
  first | refine V.aload_nR (pc := 0) d_R_scope_0 rfl ?_ | refine V.aload_n (pc := 0) d_R_scope_0 rfl ?_
  refine V.iload_n (pc := 1) d_R_scope_1 rfl ?_
  refine Vi.bipush (pc := 2) d_R_scope_2 (by decide) ?_
  refine Vi.icmp_ne (pc := 4) (tgt := 12) d_R_scope_4 (by decide) (by first | assumption | decide | omega | (simp [up] <;> omega)) (by first | assumption | decide | omega | (simp [up] <;> omega)) (fun c_4 => ?_) (fun c_4 => ?_)
  · refine V.iload_n (pc := 12) d_R_scope_12 rfl ?_
    refine V.iload_n (pc := 13) d_R_scope_13 rfl ?_
    refine V.iload_n (pc := 14) d_R_scope_14 rfl ?_
    refine Vi.bipush (pc := 15) d_R_scope_15 (by decide) ?_
    refine Vi.isub (pc := 17) d_R_scope_17 ?_
    refine V.callV (pc := 18) d_R_scope_18 Y_R_begin l_R_158 wi_R_begin wv_R_begin (ci := 6) rfl rfl [_, _, _] hR.o rfl rfl ⟨by repeat (first | exact trivial | refine ⟨(by first | rfl | exact vrf_cat _), ?_⟩), Nat.le_of_ble_eq_true rfl⟩ ⟨⟨rfl, (by first | rfl | exact vrf_cat _), (by first | rfl | exact vrf_cat _), (by first | rfl | exact vrf_cat _), trivial⟩, Nat.le_of_ble_eq_true rfl⟩ (r_begin hR (by omega) (by omega)) (fun v hs ho => ?_) (fun E hs ho => by simp at ho)
    obtain ⟨ho, hR⟩ := ho
    cases ho
    refine V.istore (pc := 21) d_R_scope_21 (by decide) ?_
    refine V.iload_n (pc := 23) d_R_scope_23 rfl ?_
    refine Vi.bipush (pc := 24) d_R_scope_24 (by decide) ?_
    refine Vi.icmp_ne (pc := 26) (tgt := 53) d_R_scope_26 (by decide) (by first | assumption | decide | omega | (simp [up] <;> omega)) (by first | assumption | decide | omega | (simp [up] <;> omega)) (fun c_26 => ?_) (fun c_26 => ?_)
    · first | refine V.aload_nR (pc := 53) d_R_scope_53 rfl ?_ | refine V.aload_n (pc := 53) d_R_scope_53 rfl ?_
      refine V.iload_n (pc := 54) d_R_scope_54 rfl ?_
      refine Vi.bipush (pc := 55) d_R_scope_55 (by decide) ?_
      refine V.iload (pc := 57) d_R_scope_57 rfl ?_
      refine V.callV (pc := 59) d_R_scope_59 Y_R_waitIn l_R_190 wi_R_waitIn wv_R_waitIn (ci := 6) rfl rfl [_, _, _] hR.o rfl rfl ⟨by repeat (first | exact trivial | refine ⟨(by first | rfl | exact vrf_cat _), ?_⟩), Nat.le_of_ble_eq_true rfl⟩ ⟨⟨rfl, (by first | rfl | exact vrf_cat _), (by first | rfl | exact vrf_cat _), (by first | rfl | exact vrf_cat _), trivial⟩, Nat.le_of_ble_eq_true rfl⟩ (r_waitIn hR (by omega)) (fun v hs ho => ?_) (fun E hs ho => by simp at ho)
      obtain ⟨ho, hR⟩ := ho
      cases ho
      refine V.return_ (pc := 62) d_R_scope_62 rfl ?_
      refine ⟨rfl, ?_⟩
      unfold z_scope
      first | (exfalso; omega) | (rw [if_pos (by omega)]; exact hR) | (rw [if_neg (by omega)]; exact hR)
    · first | refine V.aload_nR (pc := 29) d_R_scope_29 rfl ?_ | refine V.aload_n (pc := 29) d_R_scope_29 rfl ?_
      refine Vr.get (pc := 30) d_R_scope_30 g_R_106 hR rfl ?_
      refine V.iload (pc := 33) d_R_scope_33 rfl ?_
      first | refine V.aload_nR (pc := 35) d_R_scope_35 rfl ?_ | refine V.aload_n (pc := 35) d_R_scope_35 rfl ?_
      refine Vr.get (pc := 36) d_R_scope_36 g_R_16 hR rfl ?_
      rw [e2]
      refine V.iload_n (pc := 39) d_R_scope_39 rfl ?_
      refine Vi.iadd (pc := 40) d_R_scope_40 ?_
      refine Vr.ast (pc := 41) (n := 24) d_R_scope_41 hR (by decide) rfl (by first | assumption | decide | omega | (simp [up] <;> omega)) (fun hs hR => ?_)
      first | refine V.aload_nR (pc := 42) d_R_scope_42 rfl ?_ | refine V.aload_n (pc := 42) d_R_scope_42 rfl ?_
      refine Vr.get (pc := 43) d_R_scope_43 g_R_109 hR rfl ?_
      refine V.iload (pc := 46) d_R_scope_46 rfl ?_
      first | refine V.aload_nR (pc := 48) d_R_scope_48 rfl ?_ | refine V.aload_n (pc := 48) d_R_scope_48 rfl ?_
      refine Vr.get (pc := 49) d_R_scope_49 g_R_28 hR rfl ?_
      rw [up_f (show (6 : Nat) ≠ 31 by decide), e6]
      refine Vr.ast (pc := 52) (n := 24) d_R_scope_52 hR (by decide) rfl (by first | assumption | decide | omega | (simp [up] <;> omega)) (fun hs hR => ?_)
      first | refine V.aload_nR (pc := 53) d_R_scope_53 rfl ?_ | refine V.aload_n (pc := 53) d_R_scope_53 rfl ?_
      refine V.iload_n (pc := 54) d_R_scope_54 rfl ?_
      refine Vi.bipush (pc := 55) d_R_scope_55 (by decide) ?_
      refine V.iload (pc := 57) d_R_scope_57 rfl ?_
      refine V.callV (pc := 59) d_R_scope_59 Y_R_waitIn l_R_190 wi_R_waitIn wv_R_waitIn (ci := 6) rfl rfl [_, _, _] hR.o rfl rfl ⟨by repeat (first | exact trivial | refine ⟨(by first | rfl | exact vrf_cat _), ?_⟩), Nat.le_of_ble_eq_true rfl⟩ ⟨⟨rfl, (by first | rfl | exact vrf_cat _), (by first | rfl | exact vrf_cat _), (by first | rfl | exact vrf_cat _), trivial⟩, Nat.le_of_ble_eq_true rfl⟩ (r_waitIn hR (by omega)) (fun v hs ho => ?_) (fun E hs ho => by simp at ho)
      obtain ⟨ho, hR⟩ := ho
      cases ho
      refine V.return_ (pc := 62) d_R_scope_62 rfl ?_
      refine ⟨rfl, ?_⟩
      unfold z_scope
      first | (exfalso; omega) | (rw [if_pos (by omega)]; exact hR) | (rw [if_neg (by omega)]; exact hR)
  · refine V.iload (pc := 7) d_R_scope_7 rfl ?_
    refine V.goto (pc := 9) (tgt := 13) d_R_scope_9 (by decide) ?_
    refine V.iload_n (pc := 13) d_R_scope_13 rfl ?_
    refine V.iload_n (pc := 14) d_R_scope_14 rfl ?_
    refine Vi.bipush (pc := 15) d_R_scope_15 (by decide) ?_
    refine Vi.isub (pc := 17) d_R_scope_17 ?_
    refine V.callV (pc := 18) d_R_scope_18 Y_R_begin l_R_158 wi_R_begin wv_R_begin (ci := 6) rfl rfl [_, _, _] hR.o rfl rfl ⟨by repeat (first | exact trivial | refine ⟨(by first | rfl | exact vrf_cat _), ?_⟩), Nat.le_of_ble_eq_true rfl⟩ ⟨⟨rfl, (by first | rfl | exact vrf_cat _), (by first | rfl | exact vrf_cat _), (by first | rfl | exact vrf_cat _), trivial⟩, Nat.le_of_ble_eq_true rfl⟩ (r_begin hR (by omega) (by omega)) (fun v hs ho => ?_) (fun E hs ho => by simp at ho)
    obtain ⟨ho, hR⟩ := ho
    cases ho
    refine V.istore (pc := 21) d_R_scope_21 (by decide) ?_
    refine V.iload_n (pc := 23) d_R_scope_23 rfl ?_
    refine Vi.bipush (pc := 24) d_R_scope_24 (by decide) ?_
    refine Vi.icmp_ne (pc := 26) (tgt := 53) d_R_scope_26 (by decide) (by first | assumption | decide | omega | (simp [up] <;> omega)) (by first | assumption | decide | omega | (simp [up] <;> omega)) (fun c_26 => ?_) (fun c_26 => ?_)
    · first | refine V.aload_nR (pc := 53) d_R_scope_53 rfl ?_ | refine V.aload_n (pc := 53) d_R_scope_53 rfl ?_
      refine V.iload_n (pc := 54) d_R_scope_54 rfl ?_
      refine Vi.bipush (pc := 55) d_R_scope_55 (by decide) ?_
      refine V.iload (pc := 57) d_R_scope_57 rfl ?_
      refine V.callV (pc := 59) d_R_scope_59 Y_R_waitIn l_R_190 wi_R_waitIn wv_R_waitIn (ci := 6) rfl rfl [_, _, _] hR.o rfl rfl ⟨by repeat (first | exact trivial | refine ⟨(by first | rfl | exact vrf_cat _), ?_⟩), Nat.le_of_ble_eq_true rfl⟩ ⟨⟨rfl, (by first | rfl | exact vrf_cat _), (by first | rfl | exact vrf_cat _), (by first | rfl | exact vrf_cat _), trivial⟩, Nat.le_of_ble_eq_true rfl⟩ (r_waitIn hR (by omega)) (fun v hs ho => ?_) (fun E hs ho => by simp at ho)
      obtain ⟨ho, hR⟩ := ho
      cases ho
      refine V.return_ (pc := 62) d_R_scope_62 rfl ?_
      refine ⟨rfl, ?_⟩
      unfold z_scope
      first | (exfalso; omega) | (rw [if_pos (by omega)]; exact hR) | (rw [if_neg (by omega)]; exact hR)
    · first | refine V.aload_nR (pc := 29) d_R_scope_29 rfl ?_ | refine V.aload_n (pc := 29) d_R_scope_29 rfl ?_
      refine Vr.get (pc := 30) d_R_scope_30 g_R_106 hR rfl ?_
      refine V.iload (pc := 33) d_R_scope_33 rfl ?_
      first | refine V.aload_nR (pc := 35) d_R_scope_35 rfl ?_ | refine V.aload_n (pc := 35) d_R_scope_35 rfl ?_
      refine Vr.get (pc := 36) d_R_scope_36 g_R_16 hR rfl ?_
      rw [e2]
      refine V.iload_n (pc := 39) d_R_scope_39 rfl ?_
      refine Vi.iadd (pc := 40) d_R_scope_40 ?_
      refine Vr.ast (pc := 41) (n := 24) d_R_scope_41 hR (by decide) rfl (by first | assumption | decide | omega | (simp [up] <;> omega)) (fun hs hR => ?_)
      first | refine V.aload_nR (pc := 42) d_R_scope_42 rfl ?_ | refine V.aload_n (pc := 42) d_R_scope_42 rfl ?_
      refine Vr.get (pc := 43) d_R_scope_43 g_R_109 hR rfl ?_
      refine V.iload (pc := 46) d_R_scope_46 rfl ?_
      first | refine V.aload_nR (pc := 48) d_R_scope_48 rfl ?_ | refine V.aload_n (pc := 48) d_R_scope_48 rfl ?_
      refine Vr.get (pc := 49) d_R_scope_49 g_R_28 hR rfl ?_
      rw [up_f (show (6 : Nat) ≠ 31 by decide), e6]
      refine Vr.ast (pc := 52) (n := 24) d_R_scope_52 hR (by decide) rfl (by first | assumption | decide | omega | (simp [up] <;> omega)) (fun hs hR => ?_)
      first | refine V.aload_nR (pc := 53) d_R_scope_53 rfl ?_ | refine V.aload_n (pc := 53) d_R_scope_53 rfl ?_
      refine V.iload_n (pc := 54) d_R_scope_54 rfl ?_
      refine Vi.bipush (pc := 55) d_R_scope_55 (by decide) ?_
      refine V.iload (pc := 57) d_R_scope_57 rfl ?_
      refine V.callV (pc := 59) d_R_scope_59 Y_R_waitIn l_R_190 wi_R_waitIn wv_R_waitIn (ci := 6) rfl rfl [_, _, _] hR.o rfl rfl ⟨by repeat (first | exact trivial | refine ⟨(by first | rfl | exact vrf_cat _), ?_⟩), Nat.le_of_ble_eq_true rfl⟩ ⟨⟨rfl, (by first | rfl | exact vrf_cat _), (by first | rfl | exact vrf_cat _), (by first | rfl | exact vrf_cat _), trivial⟩, Nat.le_of_ble_eq_true rfl⟩ (r_waitIn hR (by omega)) (fun v hs ho => ?_) (fun E hs ho => by simp at ho)
      obtain ⟨ho, hR⟩ := ho
      cases ho
      refine V.return_ (pc := 62) d_R_scope_62 rfl ?_
      refine ⟨rfl, ?_⟩
      unfold z_scope
      first | (exfalso; omega) | (rw [if_pos (by omega)]; exact hR) | (rw [if_neg (by omega)]; exact hR)
def z_frame (S : js) (j x a c : Int) : js := if S 21 j = 6 then up S 8 0 97 else z_pushFrame S j a (if x = 11 then 1 else if x = 12 then 2 else 4) c (-1)
theorem r_frame {j x a c : Int} (hR : RepR w mo ra S g b hs) (hj : 0 ≤ j ∧ j < 24) (hx : jr x) (hf : 0 ≤ S 21 j ∧ S 21 j ≤ 6) : V jcl w m_R_frame (d + 1) 0 [(0, .ref mo), (1, .int (ii j)), (2, .int (ii x)), (3, .int (ii a)), (4, .int (ii c))] [] hs (fun o hs' => o = .inl none ∧ RepR w mo ra (z_frame S j x a c) g b hs') := by
  first | refine V.aload_nR (pc := 0) d_R_frame_0 rfl ?_ | refine V.aload_n (pc := 0) d_R_frame_0 rfl ?_
  refine Vr.get (pc := 1) d_R_frame_1 g_R_75 hR rfl ?_
  refine V.iload_n (pc := 4) d_R_frame_4 rfl ?_
  refine Vr.ald (pc := 5) (n := 24) d_R_frame_5 hR (by decide) rfl (by first | assumption | decide | omega | (simp [up] <;> omega)) ?_
  refine Vi.bipush (pc := 6) d_R_frame_6 (by decide) ?_
  refine Vi.icmp_ne (pc := 8) (tgt := 20) d_R_frame_8 (by decide) (by first | assumption | decide | omega | (simp [up] <;> omega)) (by first | assumption | decide | omega | (simp [up] <;> omega)) (fun c_8 => ?_) (fun c_8 => ?_)
  · first | refine V.aload_nR (pc := 20) d_R_frame_20 rfl ?_ | refine V.aload_n (pc := 20) d_R_frame_20 rfl ?_
    refine V.iload_n (pc := 21) d_R_frame_21 rfl ?_
    refine V.iload_n (pc := 22) d_R_frame_22 rfl ?_
    refine V.iload_n (pc := 23) d_R_frame_23 rfl ?_
    refine Vi.bipush (pc := 24) d_R_frame_24 (by decide) ?_
    refine Vi.icmp_ne (pc := 26) (tgt := 33) d_R_frame_26 (by decide) (by first | assumption | decide | omega | (simp [up] <;> omega)) (by first | assumption | decide | omega | (simp [up] <;> omega)) (fun c_26 => ?_) (fun c_26 => ?_)
    · refine V.iload_n (pc := 33) d_R_frame_33 rfl ?_
      refine Vi.bipush (pc := 34) d_R_frame_34 (by decide) ?_
      refine Vi.icmp_ne (pc := 36) (tgt := 43) d_R_frame_36 (by decide) (by first | assumption | decide | omega | (simp [up] <;> omega)) (by first | assumption | decide | omega | (simp [up] <;> omega)) (fun c_36 => ?_) (fun c_36 => ?_)
      · refine Vi.iconst (pc := 43) d_R_frame_43 ?_
        refine V.iload (pc := 44) d_R_frame_44 rfl ?_
        refine Vi.iconst (pc := 46) d_R_frame_46 ?_
        refine V.callV (pc := 47) d_R_frame_47 Y_R_pushFrame l_R_150 wi_R_pushFrame wv_R_pushFrame (ci := 6) rfl rfl [_, _, _, _, _] hR.o rfl rfl ⟨by repeat (first | exact trivial | refine ⟨(by first | rfl | exact vrf_cat _), ?_⟩), Nat.le_of_ble_eq_true rfl⟩ ⟨⟨rfl, (by first | rfl | exact vrf_cat _), (by first | rfl | exact vrf_cat _), (by first | rfl | exact vrf_cat _), (by first | rfl | exact vrf_cat _), (by first | rfl | exact vrf_cat _), trivial⟩, Nat.le_of_ble_eq_true rfl⟩ (r_pushFrame hR (by omega) (by omega)) (fun v hs ho => ?_) (fun E hs ho => by simp at ho)
        obtain ⟨ho, hR⟩ := ho
        cases ho
        refine V.return_ (pc := 50) d_R_frame_50 rfl ?_
        refine ⟨rfl, ?_⟩
        unfold z_frame
        (repeat' split) <;> first | exact hR | (exfalso; omega)
      · refine Vi.iconst (pc := 39) d_R_frame_39 ?_
        refine V.goto (pc := 40) (tgt := 44) d_R_frame_40 (by decide) ?_
        refine V.iload (pc := 44) d_R_frame_44 rfl ?_
        refine Vi.iconst (pc := 46) d_R_frame_46 ?_
        refine V.callV (pc := 47) d_R_frame_47 Y_R_pushFrame l_R_150 wi_R_pushFrame wv_R_pushFrame (ci := 6) rfl rfl [_, _, _, _, _] hR.o rfl rfl ⟨by repeat (first | exact trivial | refine ⟨(by first | rfl | exact vrf_cat _), ?_⟩), Nat.le_of_ble_eq_true rfl⟩ ⟨⟨rfl, (by first | rfl | exact vrf_cat _), (by first | rfl | exact vrf_cat _), (by first | rfl | exact vrf_cat _), (by first | rfl | exact vrf_cat _), (by first | rfl | exact vrf_cat _), trivial⟩, Nat.le_of_ble_eq_true rfl⟩ (r_pushFrame hR (by omega) (by omega)) (fun v hs ho => ?_) (fun E hs ho => by simp at ho)
        obtain ⟨ho, hR⟩ := ho
        cases ho
        refine V.return_ (pc := 50) d_R_frame_50 rfl ?_
        refine ⟨rfl, ?_⟩
        unfold z_frame
        (repeat' split) <;> first | exact hR | (exfalso; omega)
    · refine Vi.iconst (pc := 29) d_R_frame_29 ?_
      refine V.goto (pc := 30) (tgt := 44) d_R_frame_30 (by decide) ?_
      refine V.iload (pc := 44) d_R_frame_44 rfl ?_
      refine Vi.iconst (pc := 46) d_R_frame_46 ?_
      refine V.callV (pc := 47) d_R_frame_47 Y_R_pushFrame l_R_150 wi_R_pushFrame wv_R_pushFrame (ci := 6) rfl rfl [_, _, _, _, _] hR.o rfl rfl ⟨by repeat (first | exact trivial | refine ⟨(by first | rfl | exact vrf_cat _), ?_⟩), Nat.le_of_ble_eq_true rfl⟩ ⟨⟨rfl, (by first | rfl | exact vrf_cat _), (by first | rfl | exact vrf_cat _), (by first | rfl | exact vrf_cat _), (by first | rfl | exact vrf_cat _), (by first | rfl | exact vrf_cat _), trivial⟩, Nat.le_of_ble_eq_true rfl⟩ (r_pushFrame hR (by omega) (by omega)) (fun v hs ho => ?_) (fun E hs ho => by simp at ho)
      obtain ⟨ho, hR⟩ := ho
      cases ho
      refine V.return_ (pc := 50) d_R_frame_50 rfl ?_
      refine ⟨rfl, ?_⟩
      unfold z_frame
      (repeat' split) <;> first | exact hR | (exfalso; omega)
  · first | refine V.aload_nR (pc := 11) d_R_frame_11 rfl ?_ | refine V.aload_n (pc := 11) d_R_frame_11 rfl ?_
    refine Vi.bipush (pc := 12) d_R_frame_12 (by decide) ?_
    refine Vr.put8 (pc := 14) d_R_frame_14 f_R_34 hR (fun hs hR => ?_)
    refine V.goto (pc := 17) (tgt := 50) d_R_frame_17 (by decide) ?_
    refine V.return_ (pc := 50) d_R_frame_50 rfl ?_
    refine ⟨rfl, ?_⟩
    unfold z_frame
    (repeat' split) <;> first | exact hR | (exfalso; omega)
end RA
