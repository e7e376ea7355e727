/-! the reference: oneDue, timeGoesOn, run, cancel -/
section RD
variable {w : jw} {d : Nat} {hs : jh} {mo : Nat} {ra : Nat → Nat} {S T : js} {g : Nat → Option va_E} {b : Nat × Nat}
def snc (S : js) (c l : Int) : Int := if l = 0 then S 30 c else S 32 c
/-- no timer is due now -/
def DN (S : js) : Prop := ∀ k, 0 ≤ k → k < S 1 0 → S 29 k ≠ S 2 0 ∧ (S 31 k = S 2 0 → S 25 k ≠ 0)
/-- the timer of c (its LIMIT if l is 1) is due now, before all others -/
def DM (S : js) (c l : Int) : Prop := (0 ≤ c ∧ c < S 1 0) ∧ (l = 0 ∧ S 29 c = S 2 0 ∨ l = 1 ∧ S 31 c = S 2 0 ∧ S 25 c = 0) ∧ ∀ k, 0 ≤ k → k < S 1 0 → (S 29 k = S 2 0 → k = c ∧ l = 0 ∨ snc S c l < S 30 k) ∧ (S 31 k = S 2 0 → S 25 k = 0 → k = c ∧ l = 1 ∨ snc S c l < S 32 k)
def z_fire (S : js) (c l : Int) : js := if l = 0 then z_putReady S c (-1) else if S 19 c < 0 then z_give (up S 31 c (-1)) c 98 else up S 31 c (-1)
theorem Iv.tj (h : Iv S) {m : Int} (hB : Bd m S) (hm : 100 ≤ m) : ∀ k, 0 ≤ k → k < S 1 0 → jr (S 25 k) ∧ jr (S 29 k) ∧ jr (S 31 k) ∧ (0 ≤ S 29 k → jr (S 30 k)) ∧ (0 ≤ S 31 k → jr (S 32 k)) ∧ (S 25 k = 0 ∨ S 25 k = 1) := fun k z1 z2 => by
  have a := h.tm.2 k z1 z2
  have a1 := h.tm.1
  unfold TJ at a
  have c := (h.gd.2.1 k z1 z2).2.2.2.2.2.1
  unfold Bd at hB
  omega
theorem r_od0 (hR : RepR w mo ra S g b hs) (h : Iv S) (hB : Bd 100 S) (hD : DN S) : ∀ (n : Nat) (k : Int), 0 ≤ k → k ≤ 24 → 24 ≤ k + n →
    V jcl w m_R_oneDue (d + 2) 9 [(0, .ref mo), (1, .int (ii (-1))), (4, .int (ii k))] [] hs (fun o hs' => o = .inl (some (.int (ii 0))) ∧ hs' = hs) := by
  have hJ := h.J
  have h2 : jr (S 2 0) := by have := h.tm.1; unfold Bd at hB; omega
  have htj := h.tj hB (by omega)
  intro n
  induction n with
  | zero =>
    intro k z1 z2 z3
    refine V.iload (pc := 9) d_R_oneDue_9 rfl ?_
    first | refine V.aload_nR (pc := 11) d_R_oneDue_11 rfl ?_ | refine V.aload_n (pc := 11) d_R_oneDue_11 rfl ?_
    refine Vr.get (pc := 12) d_R_oneDue_12 g_R_13 hR rfl ?_
    refine Vi.icmp_ge (pc := 15) (tgt := 118) d_R_oneDue_15 (by decide) (by first | assumption | decide | omega | (simp [up] <;> omega)) (by first | assumption | decide | omega | (simp [up] <;> omega)) (fun c_15 => ?_) (fun c_15 => ?_)
    · refine V.iload_n (pc := 118) d_R_oneDue_118 rfl ?_
      refine Vi.if_ge (pc := 119) (tgt := 124) d_R_oneDue_119 (by decide) (by first | assumption | decide | omega | (simp [up] <;> omega)) (fun c_119 => ?_) (fun c_119 => ?_)
      · exact absurd c_119 (by decide)
      · refine Vi.iconst (pc := 122) d_R_oneDue_122 ?_
        refine Vi.zreturn (pc := 123) d_R_oneDue_123 rfl (by omega) ?_
        exact ⟨rfl, rfl⟩
    · omega
  | succ n ih =>
    intro k z1 z2 z3
    refine V.iload (pc := 9) d_R_oneDue_9 rfl ?_
    first | refine V.aload_nR (pc := 11) d_R_oneDue_11 rfl ?_ | refine V.aload_n (pc := 11) d_R_oneDue_11 rfl ?_
    refine Vr.get (pc := 12) d_R_oneDue_12 g_R_13 hR rfl ?_
    refine Vi.icmp_ge (pc := 15) (tgt := 118) d_R_oneDue_15 (by decide) (by first | assumption | decide | omega | (simp [up] <;> omega)) (by first | assumption | decide | omega | (simp [up] <;> omega)) (fun c_15 => ?_) (fun c_15 => ?_)
    · refine V.iload_n (pc := 118) d_R_oneDue_118 rfl ?_
      refine Vi.if_ge (pc := 119) (tgt := 124) d_R_oneDue_119 (by decide) (by first | assumption | decide | omega | (simp [up] <;> omega)) (fun c_119 => ?_) (fun c_119 => ?_)
      · exact absurd c_119 (by decide)
      · refine Vi.iconst (pc := 122) d_R_oneDue_122 ?_
        refine Vi.zreturn (pc := 123) d_R_oneDue_123 rfl (by omega) ?_
        exact ⟨rfl, rfl⟩
    · first | refine V.aload_nR (pc := 18) d_R_oneDue_18 rfl ?_ | refine V.aload_n (pc := 18) d_R_oneDue_18 rfl ?_
      obtain ⟨t1, t2, t3, t4, t5, t6⟩ := htj k z1 (by omega)
      obtain ⟨u1, u2⟩ := hD k z1 (by omega)
      refine Vr.get (pc := 19) d_R_oneDue_19 g_R_100 hR rfl ?_
      refine V.iload (pc := 22) d_R_oneDue_22 rfl ?_
      refine Vr.ald (pc := 24) (n := 24) d_R_oneDue_24 hR (by decide) rfl (by first | assumption | decide | omega | (simp [up] <;> omega)) ?_
      first | refine V.aload_nR (pc := 25) d_R_oneDue_25 rfl ?_ | refine V.aload_n (pc := 25) d_R_oneDue_25 rfl ?_
      refine Vr.get (pc := 26) d_R_oneDue_26 g_R_16 hR rfl ?_
      refine Vi.icmp_ne (pc := 29) (tgt := 60) d_R_oneDue_29 (by decide) (by first | assumption | decide | omega | (simp [up] <;> omega)) (by first | assumption | decide | omega | (simp [up] <;> omega)) (fun c_29 => ?_) (fun c_29 => ?_)
      · first | refine V.aload_nR (pc := 60) d_R_oneDue_60 rfl ?_ | refine V.aload_n (pc := 60) d_R_oneDue_60 rfl ?_
        refine Vr.get (pc := 61) d_R_oneDue_61 g_R_106 hR rfl ?_
        refine V.iload (pc := 64) d_R_oneDue_64 rfl ?_
        refine Vr.ald (pc := 66) (n := 24) d_R_oneDue_66 hR (by decide) rfl (by first | assumption | decide | omega | (simp [up] <;> omega)) ?_
        first | refine V.aload_nR (pc := 67) d_R_oneDue_67 rfl ?_ | refine V.aload_n (pc := 67) d_R_oneDue_67 rfl ?_
        refine Vr.get (pc := 68) d_R_oneDue_68 g_R_16 hR rfl ?_
        refine Vi.icmp_ne (pc := 71) (tgt := 112) d_R_oneDue_71 (by decide) (by first | assumption | decide | omega | (simp [up] <;> omega)) (by first | assumption | decide | omega | (simp [up] <;> omega)) (fun c_71 => ?_) (fun c_71 => ?_)
        · refine Vi.iinc (pc := 112) d_R_oneDue_112 rfl (by decide) ?_
          refine V.goto (pc := 115) (tgt := 9) d_R_oneDue_115 (by decide) ?_
          exact V.lop (ih ((k + 1)) (by omega) (by omega) (by omega)) ⟨rfl, rfl, rfl, trivial⟩
        · first | refine V.aload_nR (pc := 74) d_R_oneDue_74 rfl ?_ | refine V.aload_n (pc := 74) d_R_oneDue_74 rfl ?_
          refine Vr.get (pc := 75) d_R_oneDue_75 g_R_88 hR rfl ?_
          refine V.iload (pc := 78) d_R_oneDue_78 rfl ?_
          refine Vr.zald (pc := 80) (n := 24) d_R_oneDue_80 hR (by decide) rfl (by first | assumption | decide | omega | (simp [up] <;> omega)) ?_
          refine Vi.if_ne (pc := 81) (tgt := 112) d_R_oneDue_81 (by decide) (by first | assumption | decide | omega | (simp [up] <;> omega)) (fun c_81 => ?_) (fun c_81 => ?_)
          · refine Vi.iinc (pc := 112) d_R_oneDue_112 rfl (by decide) ?_
            refine V.goto (pc := 115) (tgt := 9) d_R_oneDue_115 (by decide) ?_
            exact V.lop (ih ((k + 1)) (by omega) (by omega) (by omega)) ⟨rfl, rfl, rfl, trivial⟩
          · omega
      · omega
theorem r_oneDue0 (hR : RepR w mo ra S g b hs) (h : Iv S) (hB : Bd 100 S) (hD : DN S) : V jcl w m_R_oneDue (d + 2) 0 [(0, .ref mo)] [] hs (fun o hs' => o = .inl (some (.int (ii 0))) ∧ hs' = hs) := by
  refine Vi.iconst (pc := 0) d_R_oneDue_0 ?_
  refine V.istore_n (pc := 1) d_R_oneDue_1 (by decide) ?_
  refine Vi.iconst (pc := 2) d_R_oneDue_2 ?_
  refine V.istore_n (pc := 3) d_R_oneDue_3 (by decide) ?_
  refine Vi.iconst (pc := 4) d_R_oneDue_4 ?_
  refine V.istore_n (pc := 5) d_R_oneDue_5 (by decide) ?_
  refine Vi.iconst (pc := 6) d_R_oneDue_6 ?_
  refine V.istore (pc := 7) d_R_oneDue_7 (by decide) ?_
  exact V.lop (r_od0 hR h hB hD 24 0 (by omega) (by omega) (by omega)) ⟨rfl, rfl, rfl, trivial⟩
def OI (P c l sb p x s y : Int) : Prop := (x = -1 ∧ p ≤ P) ∨ (P < p ∧ 0 ≤ x ∧ x = c ∧ s = sb ∧ y = l) ∨ ((0 ≤ x ∧ x < 24) ∧ p ≤ P ∧ sb < s)
theorem OI.skip {P c l sb p x s y v : Int} (h : OI P c l sb p x s y) (hn : p = P → v = sb ∧ 0 ≤ x ∧ s ≤ v) : OI P c l sb (p + 1) x s y := by unfold OI at h ⊢; omega
theorem OI.take {P c l sb p x s y k v y' : Int} (h : OI P c l sb p x s y) (hv : x < 0 ∨ v < s) (hn : p = P → v = sb ∧ y' = l ∧ k = c) (hn2 : p ≠ P → sb < v) (hk : 0 ≤ k ∧ k < 24) : OI P c l sb (p + 1) k v y' := by unfold OI at h ⊢; omega
theorem OI.rng {P c l sb p x s y : Int} (h : OI P c l sb p x s y) (hc : 0 ≤ c ∧ c < 24) : -1 ≤ x ∧ x < 24 := by unfold OI at h; omega
theorem OI.fin {P c l sb p x s y : Int} (h : OI P c l sb p x s y) (hp : P < p) : x = c ∧ s = sb ∧ y = l := by unfold OI at h; omega
theorem r_od1 {c l : Int} (hR : RepR w mo ra S g b hs) (h : Iv S) (hB : Bd 100 S) (hD : DM S c l) : ∀ (n : Nat) (k x s y : Int), 0 ≤ k → k ≤ 24 → 24 ≤ k + n → OI (2 * c + l) c l (snc S c l) (2 * k) x s y → jr s →
    V jcl w m_R_oneDue (d + 2) 9 [(0, .ref mo), (1, .int (ii x)), (2, .int (ii s)), (3, .int (ii y)), (4, .int (ii k))] [] hs (fun o hs' => o = .inl (some (.int (ii 1))) ∧ RepR w mo ra (z_fire S c l) g b hs') := by
  have hJ := h.J
  have h2 : jr (S 2 0) ∧ 0 ≤ S 2 0 := by have := h.tm.1; unfold Bd at hB; omega
  obtain ⟨hc, hd, hm⟩ := hD
  have hl : l = 0 ∨ l = 1 := by omega
  have fin : ∀ s, V jcl w m_R_oneDue (d + 2) 118 [(0, .ref mo), (1, .int (ii c)), (2, .int (ii s)), (3, .int (ii l))] [] hs (fun o hs' => o = .inl (some (.int (ii 1))) ∧ RepR w mo ra (z_fire S c l) g b hs') := by
    intro s
    have hg := h.gd.2.1 c hc.1 hc.2
    have h19 : -1 ≤ S 19 c ∧ S 19 c ≤ 99 := hg.2.2.1
    have hw := (h.wt c hc.1 hc.2).2.2.2.2.2.2.2.2.2
    have hrm : S 29 c = S 2 0 → 0 ≤ S 7 0 ∧ S 7 0 < 24 := fun z => ⟨h.gd.2.2.1.1, h.gd.2.2.room hJ.2 (k := c) (by omega) (h.gd.2.2.nr (by omega))⟩
    have hGl : Gd (up S 31 c (-1)) := h.gd.cg fun f i hf => up_f (by omega)
    refine V.iload_n (pc := 118) d_R_oneDue_118 rfl ?_
    refine Vi.if_ge (pc := 119) (tgt := 124) d_R_oneDue_119 (by decide) (by first | assumption | decide | omega | (simp [up] <;> omega)) (fun c_119 => ?_) (fun c_119 => ?_)
    · refine V.iload_n (pc := 124) d_R_oneDue_124 rfl ?_
      refine Vi.if_ne (pc := 125) (tgt := 137) d_R_oneDue_125 (by decide) (by first | assumption | decide | omega | (simp [up] <;> omega)) (fun c_125 => ?_) (fun c_125 => ?_)
      · first | refine V.aload_nR (pc := 137) d_R_oneDue_137 rfl ?_ | refine V.aload_n (pc := 137) d_R_oneDue_137 rfl ?_
        refine Vr.get (pc := 138) d_R_oneDue_138 g_R_106 hR rfl ?_
        refine V.iload_n (pc := 141) d_R_oneDue_141 rfl ?_
        refine Vi.iconst (pc := 142) d_R_oneDue_142 ?_
        refine Vr.ast (pc := 143) (n := 24) d_R_oneDue_143 hR (by decide) rfl (by first | assumption | decide | omega | (simp [up] <;> omega)) (fun hs hR => ?_)
        first | refine V.aload_nR (pc := 144) d_R_oneDue_144 rfl ?_ | refine V.aload_n (pc := 144) d_R_oneDue_144 rfl ?_
        refine Vr.get (pc := 145) d_R_oneDue_145 g_R_69 hR rfl ?_
        refine V.iload_n (pc := 148) d_R_oneDue_148 rfl ?_
        refine Vr.ald (pc := 149) (n := 24) d_R_oneDue_149 hR (by decide) rfl (by first | assumption | decide | omega | (simp [up] <;> omega)) ?_
        rw [up_f (show (19 : Nat) ≠ 31 by decide)]
        refine Vi.if_ge (pc := 150) (tgt := 161) d_R_oneDue_150 (by decide) (by first | assumption | decide | omega | (simp [up] <;> omega)) (fun c_150 => ?_) (fun c_150 => ?_)
        · refine Vi.iconst (pc := 161) d_R_oneDue_161 ?_
          refine Vi.zreturn (pc := 162) d_R_oneDue_162 rfl (by omega) ?_
          refine ⟨rfl, ?_⟩
          unfold z_fire
          (repeat' split) <;> first | exact hR | (exfalso; omega)
        · first | refine V.aload_nR (pc := 153) d_R_oneDue_153 rfl ?_ | refine V.aload_n (pc := 153) d_R_oneDue_153 rfl ?_
          refine V.iload_n (pc := 154) d_R_oneDue_154 rfl ?_
          refine Vi.bipush (pc := 155) d_R_oneDue_155 (by decide) ?_
          refine V.callV (pc := 157) d_R_oneDue_157 Y_R_give l_R_170 wi_R_give wv_R_give (ci := 6) rfl rfl [_, _] hR.o rfl rfl ⟨by repeat (first | exact trivial | refine ⟨(by first | rfl | exact vrf_cat _), ?_⟩), Nat.le_of_ble_eq_true rfl⟩ ⟨⟨rfl, (by first | rfl | exact vrf_cat _), (by first | rfl | exact vrf_cat _), trivial⟩, Nat.le_of_ble_eq_true rfl⟩ (r_give hR hGl (by simpa [up] using hc) (by omega)) (fun v hs ho => ?_) (fun E hs ho => by simp at ho)
          obtain ⟨r_157, ho, hr_157, hR⟩ := ho
          cases ho
          refine V.pop (pc := 160) d_R_oneDue_160 (by first | rfl | exact vrf_cat _) ?_
          refine Vi.iconst (pc := 161) d_R_oneDue_161 ?_
          refine Vi.zreturn (pc := 162) d_R_oneDue_162 rfl (by omega) ?_
          refine ⟨rfl, ?_⟩
          unfold z_fire
          (repeat' split) <;> first | exact hR | (exfalso; omega)
      · first | refine V.aload_nR (pc := 128) d_R_oneDue_128 rfl ?_ | refine V.aload_n (pc := 128) d_R_oneDue_128 rfl ?_
        refine V.iload_n (pc := 129) d_R_oneDue_129 rfl ?_
        refine Vi.iconst (pc := 130) d_R_oneDue_130 ?_
        refine V.callV (pc := 131) d_R_oneDue_131 Y_R_putReady l_R_154 wi_R_putReady wv_R_putReady (ci := 6) rfl rfl [_, _] hR.o rfl rfl ⟨by repeat (first | exact trivial | refine ⟨(by first | rfl | exact vrf_cat _), ?_⟩), Nat.le_of_ble_eq_true rfl⟩ ⟨⟨rfl, (by first | rfl | exact vrf_cat _), (by first | rfl | exact vrf_cat _), trivial⟩, Nat.le_of_ble_eq_true rfl⟩ (r_putReady hR (by omega) (hrm (by omega))) (fun v hs ho => ?_) (fun E hs ho => by simp at ho)
        obtain ⟨ho, hR⟩ := ho
        cases ho
        refine V.goto (pc := 134) (tgt := 161) d_R_oneDue_134 (by decide) ?_
        refine Vi.iconst (pc := 161) d_R_oneDue_161 ?_
        refine Vi.zreturn (pc := 162) d_R_oneDue_162 rfl (by omega) ?_
        refine ⟨rfl, ?_⟩
        unfold z_fire
        (repeat' split) <;> first | exact hR | (exfalso; omega)
    · omega
  have hP : ∀ k, 2 * k = 2 * c + l → k = c ∧ l = 0 := fun k z => by omega
  have hP1 : ∀ k, 2 * k + 1 = 2 * c + l → k = c ∧ l = 1 := fun k z => by omega
  have hd0 : l = 0 → S 29 c = S 2 0 ∧ snc S c l = S 30 c := fun z => ⟨by omega, by rw [snc, if_pos z]⟩
  have hd1 : l = 1 → S 31 c = S 2 0 ∧ S 25 c = 0 ∧ snc S c l = S 32 c := fun z => ⟨by omega, by omega, by rw [snc, if_neg (by omega)]⟩
  have htj := h.tj hB (by omega)
  have hcJ : 0 ≤ c ∧ c < 24 := by omega
  clear hd h hB
  intro n
  induction n with
  | zero =>
    intro k x s y z1 z2 z3 hx hs'
    refine V.iload (pc := 9) d_R_oneDue_9 rfl ?_
    first | refine V.aload_nR (pc := 11) d_R_oneDue_11 rfl ?_ | refine V.aload_n (pc := 11) d_R_oneDue_11 rfl ?_
    refine Vr.get (pc := 12) d_R_oneDue_12 g_R_13 hR rfl ?_
    refine Vi.icmp_ge (pc := 15) (tgt := 118) d_R_oneDue_15 (by decide) (by first | assumption | decide | omega | (simp [up] <;> omega)) (by first | assumption | decide | omega | (simp [up] <;> omega)) (fun c_15 => ?_) (fun c_15 => ?_)
    · obtain ⟨rfl, rfl, rfl⟩ : x = c ∧ s = snc S c l ∧ y = l := hx.fin (by omega)
      exact V.lop (fin _) ⟨rfl, rfl, rfl, rfl, trivial⟩
    · omega
  | succ n ih =>
    intro k x s y z1 z2 z3 hx hs'
    have half : ∀ x s y, k < S 1 0 → OI (2 * c + l) c l (snc S c l) (2 * k + 1) x s y → jr s → V jcl w m_R_oneDue (d + 2) 60 [(0, .ref mo), (1, .int (ii x)), (2, .int (ii s)), (3, .int (ii y)), (4, .int (ii k))] [] hs (fun o hs' => o = .inl (some (.int (ii 1))) ∧ RepR w mo ra (z_fire S c l) g b hs') := by
      intro x s y hkJ hx hs'
      obtain ⟨t1, t2, t3, t4, t5, t6⟩ := htj k z1 hkJ
      have hxr := hx.rng hcJ
      have e2 : 2 * k + 1 + 1 = 2 * (k + 1) := by omega
      first | refine V.aload_nR (pc := 60) d_R_oneDue_60 rfl ?_ | refine V.aload_n (pc := 60) d_R_oneDue_60 rfl ?_
      refine Vr.get (pc := 61) d_R_oneDue_61 g_R_106 hR rfl ?_
      refine V.iload (pc := 64) d_R_oneDue_64 rfl ?_
      refine Vr.ald (pc := 66) (n := 24) d_R_oneDue_66 hR (by decide) rfl (by first | assumption | decide | omega | (simp [up] <;> omega)) ?_
      first | refine V.aload_nR (pc := 67) d_R_oneDue_67 rfl ?_ | refine V.aload_n (pc := 67) d_R_oneDue_67 rfl ?_
      refine Vr.get (pc := 68) d_R_oneDue_68 g_R_16 hR rfl ?_
      refine Vi.icmp_ne (pc := 71) (tgt := 112) d_R_oneDue_71 (by decide) (by first | assumption | decide | omega | (simp [up] <;> omega)) (by first | assumption | decide | omega | (simp [up] <;> omega)) (fun c_71 => ?_) (fun c_71 => ?_)
      · refine Vi.iinc (pc := 112) d_R_oneDue_112 rfl (by decide) ?_
        refine V.goto (pc := 115) (tgt := 9) d_R_oneDue_115 (by decide) ?_
        refine V.lop (ih (k + 1) (x) (s) (y) (by omega) (by omega) (by omega) ?_ (by first | exact hs' | exact t5 (by omega))) ⟨rfl, rfl, rfl, rfl, rfl, trivial⟩
        rw [← e2]
        first | exact hx.skip (v := S 32 k) (fun z => by obtain ⟨rfl, hl1⟩ := hP1 k z; have := hd1 hl1; omega) | exact hx.take (by omega) (fun z => by obtain ⟨rfl, hl1⟩ := hP1 k z; exact ⟨(hd1 hl1).2.2.symm, hl1.symm, rfl⟩) (fun z => by rcases (hm k z1 hkJ).2 (by omega) (by omega) with ⟨e1, e3⟩ | z'; (exact absurd (by omega) z); exact z') (by omega)
      · first | refine V.aload_nR (pc := 74) d_R_oneDue_74 rfl ?_ | refine V.aload_n (pc := 74) d_R_oneDue_74 rfl ?_
        refine Vr.get (pc := 75) d_R_oneDue_75 g_R_88 hR rfl ?_
        refine V.iload (pc := 78) d_R_oneDue_78 rfl ?_
        refine Vr.zald (pc := 80) (n := 24) d_R_oneDue_80 hR (by decide) rfl (by first | assumption | decide | omega | (simp [up] <;> omega)) ?_
        refine Vi.if_ne (pc := 81) (tgt := 112) d_R_oneDue_81 (by decide) (by first | assumption | decide | omega | (simp [up] <;> omega)) (fun c_81 => ?_) (fun c_81 => ?_)
        · refine Vi.iinc (pc := 112) d_R_oneDue_112 rfl (by decide) ?_
          refine V.goto (pc := 115) (tgt := 9) d_R_oneDue_115 (by decide) ?_
          refine V.lop (ih (k + 1) (x) (s) (y) (by omega) (by omega) (by omega) ?_ (by first | exact hs' | exact t5 (by omega))) ⟨rfl, rfl, rfl, rfl, rfl, trivial⟩
          rw [← e2]
          first | exact hx.skip (v := S 32 k) (fun z => by obtain ⟨rfl, hl1⟩ := hP1 k z; have := hd1 hl1; omega) | exact hx.take (by omega) (fun z => by obtain ⟨rfl, hl1⟩ := hP1 k z; exact ⟨(hd1 hl1).2.2.symm, hl1.symm, rfl⟩) (fun z => by rcases (hm k z1 hkJ).2 (by omega) (by omega) with ⟨e1, e3⟩ | z'; (exact absurd (by omega) z); exact z') (by omega)
        · refine V.iload_n (pc := 84) d_R_oneDue_84 rfl ?_
          refine Vi.if_lt (pc := 85) (tgt := 99) d_R_oneDue_85 (by decide) (by first | assumption | decide | omega | (simp [up] <;> omega)) (fun c_85 => ?_) (fun c_85 => ?_)
          · refine V.iload (pc := 99) d_R_oneDue_99 rfl ?_
            refine V.istore_n (pc := 101) d_R_oneDue_101 (by decide) ?_
            first | refine V.aload_nR (pc := 102) d_R_oneDue_102 rfl ?_ | refine V.aload_n (pc := 102) d_R_oneDue_102 rfl ?_
            refine Vr.get (pc := 103) d_R_oneDue_103 g_R_109 hR rfl ?_
            refine V.iload (pc := 106) d_R_oneDue_106 rfl ?_
            refine Vr.ald (pc := 108) (n := 24) d_R_oneDue_108 hR (by decide) rfl (by first | assumption | decide | omega | (simp [up] <;> omega)) ?_
            refine V.istore_n (pc := 109) d_R_oneDue_109 (by decide) ?_
            refine Vi.iconst (pc := 110) d_R_oneDue_110 ?_
            refine V.istore_n (pc := 111) d_R_oneDue_111 (by decide) ?_
            refine Vi.iinc (pc := 112) d_R_oneDue_112 rfl (by decide) ?_
            refine V.goto (pc := 115) (tgt := 9) d_R_oneDue_115 (by decide) ?_
            refine V.lop (ih (k + 1) (k) ((S 32 k)) (1) (by omega) (by omega) (by omega) ?_ (by first | exact hs' | exact t5 (by omega))) ⟨rfl, rfl, rfl, rfl, rfl, trivial⟩
            rw [← e2]
            first | exact hx.skip (v := S 32 k) (fun z => by obtain ⟨rfl, hl1⟩ := hP1 k z; have := hd1 hl1; omega) | exact hx.take (by omega) (fun z => by obtain ⟨rfl, hl1⟩ := hP1 k z; exact ⟨(hd1 hl1).2.2.symm, hl1.symm, rfl⟩) (fun z => by rcases (hm k z1 hkJ).2 (by omega) (by omega) with ⟨e1, e3⟩ | z'; (exact absurd (by omega) z); exact z') (by omega)
          · first | refine V.aload_nR (pc := 88) d_R_oneDue_88 rfl ?_ | refine V.aload_n (pc := 88) d_R_oneDue_88 rfl ?_
            refine Vr.get (pc := 89) d_R_oneDue_89 g_R_109 hR rfl ?_
            refine V.iload (pc := 92) d_R_oneDue_92 rfl ?_
            refine Vr.ald (pc := 94) (n := 24) d_R_oneDue_94 hR (by decide) rfl (by first | assumption | decide | omega | (simp [up] <;> omega)) ?_
            refine V.iload_n (pc := 95) d_R_oneDue_95 rfl ?_
            refine Vi.icmp_ge (pc := 96) (tgt := 112) d_R_oneDue_96 (by decide) (t5 (by omega)) (hs') (fun c_96 => ?_) (fun c_96 => ?_)
            · refine Vi.iinc (pc := 112) d_R_oneDue_112 rfl (by decide) ?_
              refine V.goto (pc := 115) (tgt := 9) d_R_oneDue_115 (by decide) ?_
              refine V.lop (ih (k + 1) (x) (s) (y) (by omega) (by omega) (by omega) ?_ (by first | exact hs' | exact t5 (by omega))) ⟨rfl, rfl, rfl, rfl, rfl, trivial⟩
              rw [← e2]
              first | exact hx.skip (v := S 32 k) (fun z => by obtain ⟨rfl, hl1⟩ := hP1 k z; have := hd1 hl1; omega) | exact hx.take (by omega) (fun z => by obtain ⟨rfl, hl1⟩ := hP1 k z; exact ⟨(hd1 hl1).2.2.symm, hl1.symm, rfl⟩) (fun z => by rcases (hm k z1 hkJ).2 (by omega) (by omega) with ⟨e1, e3⟩ | z'; (exact absurd (by omega) z); exact z') (by omega)
            · refine V.iload (pc := 99) d_R_oneDue_99 rfl ?_
              refine V.istore_n (pc := 101) d_R_oneDue_101 (by decide) ?_
              first | refine V.aload_nR (pc := 102) d_R_oneDue_102 rfl ?_ | refine V.aload_n (pc := 102) d_R_oneDue_102 rfl ?_
              refine Vr.get (pc := 103) d_R_oneDue_103 g_R_109 hR rfl ?_
              refine V.iload (pc := 106) d_R_oneDue_106 rfl ?_
              refine Vr.ald (pc := 108) (n := 24) d_R_oneDue_108 hR (by decide) rfl (by first | assumption | decide | omega | (simp [up] <;> omega)) ?_
              refine V.istore_n (pc := 109) d_R_oneDue_109 (by decide) ?_
              refine Vi.iconst (pc := 110) d_R_oneDue_110 ?_
              refine V.istore_n (pc := 111) d_R_oneDue_111 (by decide) ?_
              refine Vi.iinc (pc := 112) d_R_oneDue_112 rfl (by decide) ?_
              refine V.goto (pc := 115) (tgt := 9) d_R_oneDue_115 (by decide) ?_
              refine V.lop (ih (k + 1) (k) ((S 32 k)) (1) (by omega) (by omega) (by omega) ?_ (by first | exact hs' | exact t5 (by omega))) ⟨rfl, rfl, rfl, rfl, rfl, trivial⟩
              rw [← e2]
              first | exact hx.skip (v := S 32 k) (fun z => by obtain ⟨rfl, hl1⟩ := hP1 k z; have := hd1 hl1; omega) | exact hx.take (by omega) (fun z => by obtain ⟨rfl, hl1⟩ := hP1 k z; exact ⟨(hd1 hl1).2.2.symm, hl1.symm, rfl⟩) (fun z => by rcases (hm k z1 hkJ).2 (by omega) (by omega) with ⟨e1, e3⟩ | z'; (exact absurd (by omega) z); exact z') (by omega)
    have hxr := hx.rng hcJ
    refine V.iload (pc := 9) d_R_oneDue_9 rfl ?_
    first | refine V.aload_nR (pc := 11) d_R_oneDue_11 rfl ?_ | refine V.aload_n (pc := 11) d_R_oneDue_11 rfl ?_
    refine Vr.get (pc := 12) d_R_oneDue_12 g_R_13 hR rfl ?_
    refine Vi.icmp_ge (pc := 15) (tgt := 118) d_R_oneDue_15 (by decide) (by first | assumption | decide | omega | (simp [up] <;> omega)) (by first | assumption | decide | omega | (simp [up] <;> omega)) (fun c_15 => ?_) (fun c_15 => ?_)
    · obtain ⟨rfl, rfl, rfl⟩ : x = c ∧ s = snc S c l ∧ y = l := hx.fin (by omega)
      exact V.lop (fin _) ⟨rfl, rfl, rfl, rfl, trivial⟩
    · first | refine V.aload_nR (pc := 18) d_R_oneDue_18 rfl ?_ | refine V.aload_n (pc := 18) d_R_oneDue_18 rfl ?_
      obtain ⟨t1, t2, t3, t4, t5, t6⟩ := htj k z1 (by omega)
      refine Vr.get (pc := 19) d_R_oneDue_19 g_R_100 hR rfl ?_
      refine V.iload (pc := 22) d_R_oneDue_22 rfl ?_
      refine Vr.ald (pc := 24) (n := 24) d_R_oneDue_24 hR (by decide) rfl (by first | assumption | decide | omega | (simp [up] <;> omega)) ?_
      first | refine V.aload_nR (pc := 25) d_R_oneDue_25 rfl ?_ | refine V.aload_n (pc := 25) d_R_oneDue_25 rfl ?_
      refine Vr.get (pc := 26) d_R_oneDue_26 g_R_16 hR rfl ?_
      refine Vi.icmp_ne (pc := 29) (tgt := 60) d_R_oneDue_29 (by decide) (by first | assumption | decide | omega | (simp [up] <;> omega)) (by first | assumption | decide | omega | (simp [up] <;> omega)) (fun c_29 => ?_) (fun c_29 => ?_)
      · refine V.lop (half (x) (s) (y) (by omega) ?_ (by first | exact hs' | exact t4 (by omega))) ⟨rfl, rfl, rfl, rfl, rfl, trivial⟩
        first | exact hx.skip (v := S 30 k) (fun z => by obtain ⟨rfl, hl1⟩ := hP k z; have := hd0 hl1; omega) | exact hx.take (by omega) (fun z => by obtain ⟨rfl, hl1⟩ := hP k z; exact ⟨(hd0 hl1).2.symm, hl1.symm, rfl⟩) (fun z => by rcases (hm k z1 (by omega)).1 (by omega) with ⟨e1, e3⟩ | z'; (exact absurd (by omega) z); exact z') (by omega)
      · refine V.iload_n (pc := 32) d_R_oneDue_32 rfl ?_
        refine Vi.if_lt (pc := 33) (tgt := 47) d_R_oneDue_33 (by decide) (by first | assumption | decide | omega | (simp [up] <;> omega)) (fun c_33 => ?_) (fun c_33 => ?_)
        · refine V.iload (pc := 47) d_R_oneDue_47 rfl ?_
          refine V.istore_n (pc := 49) d_R_oneDue_49 (by decide) ?_
          first | refine V.aload_nR (pc := 50) d_R_oneDue_50 rfl ?_ | refine V.aload_n (pc := 50) d_R_oneDue_50 rfl ?_
          refine Vr.get (pc := 51) d_R_oneDue_51 g_R_103 hR rfl ?_
          refine V.iload (pc := 54) d_R_oneDue_54 rfl ?_
          refine Vr.ald (pc := 56) (n := 24) d_R_oneDue_56 hR (by decide) rfl (by first | assumption | decide | omega | (simp [up] <;> omega)) ?_
          refine V.istore_n (pc := 57) d_R_oneDue_57 (by decide) ?_
          refine Vi.iconst (pc := 58) d_R_oneDue_58 ?_
          refine V.istore_n (pc := 59) d_R_oneDue_59 (by decide) ?_
          refine V.lop (half (k) ((S 30 k)) (0) (by omega) ?_ (by first | exact hs' | exact t4 (by omega))) ⟨rfl, rfl, rfl, rfl, rfl, trivial⟩
          first | exact hx.skip (v := S 30 k) (fun z => by obtain ⟨rfl, hl1⟩ := hP k z; have := hd0 hl1; omega) | exact hx.take (by omega) (fun z => by obtain ⟨rfl, hl1⟩ := hP k z; exact ⟨(hd0 hl1).2.symm, hl1.symm, rfl⟩) (fun z => by rcases (hm k z1 (by omega)).1 (by omega) with ⟨e1, e3⟩ | z'; (exact absurd (by omega) z); exact z') (by omega)
        · first | refine V.aload_nR (pc := 36) d_R_oneDue_36 rfl ?_ | refine V.aload_n (pc := 36) d_R_oneDue_36 rfl ?_
          refine Vr.get (pc := 37) d_R_oneDue_37 g_R_103 hR rfl ?_
          refine V.iload (pc := 40) d_R_oneDue_40 rfl ?_
          refine Vr.ald (pc := 42) (n := 24) d_R_oneDue_42 hR (by decide) rfl (by first | assumption | decide | omega | (simp [up] <;> omega)) ?_
          refine V.iload_n (pc := 43) d_R_oneDue_43 rfl ?_
          refine Vi.icmp_ge (pc := 44) (tgt := 60) d_R_oneDue_44 (by decide) (t4 (by omega)) (hs') (fun c_44 => ?_) (fun c_44 => ?_)
          · refine V.lop (half (x) (s) (y) (by omega) ?_ (by first | exact hs' | exact t4 (by omega))) ⟨rfl, rfl, rfl, rfl, rfl, trivial⟩
            first | exact hx.skip (v := S 30 k) (fun z => by obtain ⟨rfl, hl1⟩ := hP k z; have := hd0 hl1; omega) | exact hx.take (by omega) (fun z => by obtain ⟨rfl, hl1⟩ := hP k z; exact ⟨(hd0 hl1).2.symm, hl1.symm, rfl⟩) (fun z => by rcases (hm k z1 (by omega)).1 (by omega) with ⟨e1, e3⟩ | z'; (exact absurd (by omega) z); exact z') (by omega)
          · refine V.iload (pc := 47) d_R_oneDue_47 rfl ?_
            refine V.istore_n (pc := 49) d_R_oneDue_49 (by decide) ?_
            first | refine V.aload_nR (pc := 50) d_R_oneDue_50 rfl ?_ | refine V.aload_n (pc := 50) d_R_oneDue_50 rfl ?_
            refine Vr.get (pc := 51) d_R_oneDue_51 g_R_103 hR rfl ?_
            refine V.iload (pc := 54) d_R_oneDue_54 rfl ?_
            refine Vr.ald (pc := 56) (n := 24) d_R_oneDue_56 hR (by decide) rfl (by first | assumption | decide | omega | (simp [up] <;> omega)) ?_
            refine V.istore_n (pc := 57) d_R_oneDue_57 (by decide) ?_
            refine Vi.iconst (pc := 58) d_R_oneDue_58 ?_
            refine V.istore_n (pc := 59) d_R_oneDue_59 (by decide) ?_
            refine V.lop (half (k) ((S 30 k)) (0) (by omega) ?_ (by first | exact hs' | exact t4 (by omega))) ⟨rfl, rfl, rfl, rfl, rfl, trivial⟩
            first | exact hx.skip (v := S 30 k) (fun z => by obtain ⟨rfl, hl1⟩ := hP k z; have := hd0 hl1; omega) | exact hx.take (by omega) (fun z => by obtain ⟨rfl, hl1⟩ := hP k z; exact ⟨(hd0 hl1).2.symm, hl1.symm, rfl⟩) (fun z => by rcases (hm k z1 (by omega)).1 (by omega) with ⟨e1, e3⟩ | z'; (exact absurd (by omega) z); exact z') (by omega)
theorem r_oneDue1 {c l : Int} (hR : RepR w mo ra S g b hs) (h : Iv S) (hB : Bd 100 S) (hD : DM S c l) : V jcl w m_R_oneDue (d + 2) 0 [(0, .ref mo)] [] hs (fun o hs' => o = .inl (some (.int (ii 1))) ∧ RepR w mo ra (z_fire S c l) g b hs') := by
  have hc := hD.1
  refine Vi.iconst (pc := 0) d_R_oneDue_0 ?_
  refine V.istore_n (pc := 1) d_R_oneDue_1 (by decide) ?_
  refine Vi.iconst (pc := 2) d_R_oneDue_2 ?_
  refine V.istore_n (pc := 3) d_R_oneDue_3 (by decide) ?_
  refine Vi.iconst (pc := 4) d_R_oneDue_4 ?_
  refine V.istore_n (pc := 5) d_R_oneDue_5 (by decide) ?_
  refine Vi.iconst (pc := 6) d_R_oneDue_6 ?_
  refine V.istore (pc := 7) d_R_oneDue_7 (by decide) ?_
  exact V.lop (r_od1 hR h hB hD 24 0 (-1) 0 0 (by omega) (by omega) (by omega) (Or.inl ⟨rfl, by have := hD.2.1; omega⟩) (by omega)) ⟨rfl, rfl, rfl, rfl, rfl, trivial⟩
def TDn : Nat → js → js → Prop
  | 0, S, T => (Iv S ∧ Bd 100 S ∧ DN S) ∧ T = S
  | n + 1, S, T => (Iv S ∧ Bd 100 S) ∧ ∃ c l, DM S c l ∧ TDn n (z_fire S c l) T
/-- the clock goes on, and all that is due then comes -/
def TG (S T : js) : Prop := (Iv S ∧ Bd 100 S) ∧ 0 ≤ z_earliest S ∧ ∃ n, TDn n (up S 2 0 (z_earliest S)) T
theorem r_td : ∀ (n : Nat) (S T : js) (hs : jh), TDn n S T → RepR w mo ra S g b hs → V jcl w m_R_timeGoesOn (d + 3) 22 [(0, .ref mo)] [] hs (fun o hs' => o = .inl (some (.int (ii 1))) ∧ RepR w mo ra T g b hs') := by
  intro n
  induction n with
  | zero =>
    intro S T hs hn hR
    obtain ⟨⟨h, hB, hD⟩, rfl⟩ := hn
    first | refine V.aload_nR (pc := 22) d_R_timeGoesOn_22 rfl ?_ | refine V.aload_n (pc := 22) d_R_timeGoesOn_22 rfl ?_
    refine V.callV (pc := 23) d_R_timeGoesOn_23 Y_R_oneDue l_R_217 wi_R_oneDue wv_R_oneDue (ci := 6) rfl rfl [] hR.o rfl rfl ⟨by repeat (first | exact trivial | refine ⟨(by first | rfl | exact vrf_cat _), ?_⟩), Nat.le_of_ble_eq_true rfl⟩ ⟨⟨rfl, trivial⟩, Nat.le_of_ble_eq_true rfl⟩ (r_oneDue0 hR h hB hD) (fun v hs ho => ?_) (fun E hs ho => by simp at ho)
    obtain ⟨ho, rfl⟩ := ho
    cases ho
    refine V.istore_n (pc := 26) d_R_timeGoesOn_26 (by decide) ?_
    refine V.goto (pc := 27) (tgt := 18) d_R_timeGoesOn_27 (by decide) ?_
    refine V.iload_n (pc := 18) d_R_timeGoesOn_18 rfl ?_
    refine Vi.if_eq (pc := 19) (tgt := 30) d_R_timeGoesOn_19 (by decide) (by first | assumption | decide | omega | (simp [up] <;> omega)) (fun c_19 => ?_) (fun c_19 => ?_)
    · refine Vi.iconst (pc := 30) d_R_timeGoesOn_30 ?_
      refine Vi.zreturn (pc := 31) d_R_timeGoesOn_31 rfl (by omega) ?_
      exact ⟨rfl, hR⟩
    · exact absurd rfl c_19
  | succ n ih =>
    intro S T hs hn hR
    obtain ⟨⟨h, hB⟩, c, l, hD, hn⟩ := hn
    first | refine V.aload_nR (pc := 22) d_R_timeGoesOn_22 rfl ?_ | refine V.aload_n (pc := 22) d_R_timeGoesOn_22 rfl ?_
    refine V.callV (pc := 23) d_R_timeGoesOn_23 Y_R_oneDue l_R_217 wi_R_oneDue wv_R_oneDue (ci := 6) rfl rfl [] hR.o rfl rfl ⟨by repeat (first | exact trivial | refine ⟨(by first | rfl | exact vrf_cat _), ?_⟩), Nat.le_of_ble_eq_true rfl⟩ ⟨⟨rfl, trivial⟩, Nat.le_of_ble_eq_true rfl⟩ (r_oneDue1 hR h hB hD) (fun v hs ho => ?_) (fun E hs ho => by simp at ho)
    obtain ⟨ho, hR⟩ := ho
    cases ho
    refine V.istore_n (pc := 26) d_R_timeGoesOn_26 (by decide) ?_
    refine V.goto (pc := 27) (tgt := 18) d_R_timeGoesOn_27 (by decide) ?_
    refine V.iload_n (pc := 18) d_R_timeGoesOn_18 rfl ?_
    refine Vi.if_eq (pc := 19) (tgt := 30) d_R_timeGoesOn_19 (by decide) (by first | assumption | decide | omega | (simp [up] <;> omega)) (fun c_19 => ?_) (fun c_19 => ?_)
    · exact absurd c_19 (by decide)
    · exact V.lop (ih _ T _ hn hR) ⟨rfl, trivial⟩
theorem zeL_ge {m : Int} (h : Iv S) : ∀ (n : Nat) (k t : Int), 0 ≤ k → -1 ≤ t → t ≤ S 2 0 + 50 → -1 ≤ zeL S n k t ∧ zeL S n k t ≤ S 2 0 + 50
  | 0, k, t, _, h1, h2 => ⟨h1, h2⟩
  | n + 1, k, t, h0, h1, h2 => by
    rw [zeL]
    split
    · rename_i hk
      have a := h.tm.2 k h0 hk
      unfold TJ at a
      refine zeL_ge (m := m) h n (k + 1) _ (by omega) ?_ ?_
      · unfold ze2 ze1; (repeat' split) <;> omega
      · unfold ze2 ze1; (repeat' split) <;> omega
    · exact ⟨h1, h2⟩
theorem r_timeGoesOn (hR : RepR w mo ra S g b hs) (hT : TG S T) : V jcl w m_R_timeGoesOn (d + 3) 0 [(0, .ref mo)] [] hs (fun o hs' => o = .inl (some (.int (ii 1))) ∧ RepR w mo ra T g b hs') := by
  obtain ⟨⟨h, hB⟩, he, n, hn⟩ := hT
  have hz := zeL_ge (m := 0) h 25 0 (-1) (by omega) (by omega) (by have := h.tm.1; omega)
  have hz2 : jr (z_earliest S) := by unfold z_earliest; unfold Bd at hB; omega
  first | refine V.aload_nR (pc := 0) d_R_timeGoesOn_0 rfl ?_ | refine V.aload_n (pc := 0) d_R_timeGoesOn_0 rfl ?_
  refine V.callV (pc := 1) d_R_timeGoesOn_1 Y_R_earliest l_R_213 wi_R_earliest wv_R_earliest (ci := 6) rfl rfl [] hR.o rfl rfl ⟨by repeat (first | exact trivial | refine ⟨(by first | rfl | exact vrf_cat _), ?_⟩), Nat.le_of_ble_eq_true rfl⟩ ⟨⟨rfl, trivial⟩, Nat.le_of_ble_eq_true rfl⟩ (r_earliest hR h.J (fun i z1 z2 => by have := h.tj hB (by omega) i z1 z2; exact ⟨this.1, this.2.1, this.2.2.1⟩)) (fun v hs ho => ?_) (fun E hs ho => by simp at ho)
  obtain ⟨ho, rfl⟩ := ho
  cases ho
  refine V.istore_n (pc := 4) d_R_timeGoesOn_4 (by decide) ?_
  refine V.iload_n (pc := 5) d_R_timeGoesOn_5 rfl ?_
  refine Vi.if_ge (pc := 6) (tgt := 11) d_R_timeGoesOn_6 (by decide) (by first | assumption | decide | omega | (simp [up] <;> omega)) (fun c_6 => ?_) (fun c_6 => ?_)
  · first | refine V.aload_nR (pc := 11) d_R_timeGoesOn_11 rfl ?_ | refine V.aload_n (pc := 11) d_R_timeGoesOn_11 rfl ?_
    refine V.iload_n (pc := 12) d_R_timeGoesOn_12 rfl ?_
    refine Vr.put2 (pc := 13) d_R_timeGoesOn_13 f_R_16 hR (fun hs hR => ?_)
    refine Vi.iconst (pc := 16) d_R_timeGoesOn_16 ?_
    refine V.istore_n (pc := 17) d_R_timeGoesOn_17 (by decide) ?_
    refine V.iload_n (pc := 18) d_R_timeGoesOn_18 rfl ?_
    refine Vi.if_eq (pc := 19) (tgt := 30) d_R_timeGoesOn_19 (by decide) (by first | assumption | decide | omega | (simp [up] <;> omega)) (fun c_19 => ?_) (fun c_19 => ?_)
    · exact absurd c_19 (by decide)
    · exact V.lop (r_td n _ T _ hn hR) ⟨rfl, trivial⟩
  · omega
theorem r_timeGoesOn0 (hR : RepR w mo ra S g b hs) (h : Iv S) (hB : Bd 100 S) (he : z_earliest S < 0) : V jcl w m_R_timeGoesOn (d + 3) 0 [(0, .ref mo)] [] hs (fun o hs' => o = .inl (some (.int (ii 0))) ∧ hs' = hs) := by
  have hz := zeL_ge (m := 0) h 25 0 (-1) (by omega) (by omega) (by have := h.tm.1; omega)
  have hz2 : jr (z_earliest S) := by unfold z_earliest; unfold Bd at hB; omega
  first | refine V.aload_nR (pc := 0) d_R_timeGoesOn_0 rfl ?_ | refine V.aload_n (pc := 0) d_R_timeGoesOn_0 rfl ?_
  refine V.callV (pc := 1) d_R_timeGoesOn_1 Y_R_earliest l_R_213 wi_R_earliest wv_R_earliest (ci := 6) rfl rfl [] hR.o rfl rfl ⟨by repeat (first | exact trivial | refine ⟨(by first | rfl | exact vrf_cat _), ?_⟩), Nat.le_of_ble_eq_true rfl⟩ ⟨⟨rfl, trivial⟩, Nat.le_of_ble_eq_true rfl⟩ (r_earliest hR h.J (fun i z1 z2 => by have := h.tj hB (by omega) i z1 z2; exact ⟨this.1, this.2.1, this.2.2.1⟩)) (fun v hs ho => ?_) (fun E hs ho => by simp at ho)
  obtain ⟨ho, rfl⟩ := ho
  cases ho
  refine V.istore_n (pc := 4) d_R_timeGoesOn_4 (by decide) ?_
  refine V.iload_n (pc := 5) d_R_timeGoesOn_5 rfl ?_
  refine Vi.if_ge (pc := 6) (tgt := 11) d_R_timeGoesOn_6 (by decide) (by first | assumption | decide | omega | (simp [up] <;> omega)) (fun c_6 => ?_) (fun c_6 => ?_)
  · omega
  · refine Vi.iconst (pc := 9) d_R_timeGoesOn_9 ?_
    refine Vi.zreturn (pc := 10) d_R_timeGoesOn_10 rfl (by omega) ?_
    exact ⟨rfl, rfl⟩
end RD
