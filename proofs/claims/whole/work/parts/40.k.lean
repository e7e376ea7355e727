/-! the class at the reference's state: finish, passFailureOn, finishUpwards -/
section KB
variable {w : jw} {d : Nat} {hs : jh} {am : Nat → Int → Nat} {C S T : js} {g : Nat → Option va_E} {b : Nat × Nat}
theorem c_mark2_o {j : Int} : ∀ f i, f ≠ 25 → f ≠ 54 → f ≠ 57 → f ≠ 56 → c_mark2 C j f i = C f i := fun f i z1 z2 z3 z4 => by
  unfold c_mark2 c_mark
  split <;> simp [up, z1, z2, z3, z4]
theorem A6.fin (h : A6 C) {j : Int} (hp : C 16 j < C 1 0) : A6 (c_fin C j) := by
  have h1 : A6 (c_mark2 C j) := h.cg fun f i hf => c_mark2_o f i (by omega) (by omega) (by omega) (by omega)
  have e1 : c_mark2 C j 1 0 = C 1 0 := c_mark2_o 1 0 (by omega) (by omega) (by omega) (by omega)
  unfold c_fin
  split
  · split
    · exact h1.ready (by omega)
    · unfold c_out
      split
      · exact A6.ready (h1.cg fun f i hf => up_f (by omega)) (by rw [up_f (by decide)]; omega)
      · exact h1.ready (by omega)
  · exact h1
theorem k_finish {j : Int} (hP : PR w am S g b hs) (hI : Iv S) (hj : 0 ≤ j ∧ j < S 1 0) (h0 : S 25 j = 0) : V jcl w m_J_finish (d + 2) 0 [(0, .ref (am 0 0)), (1, .ref (am 10 j))] [] hs (fun o hs' => o = .inl none ∧ PR w am (z_fin1 S j) g b hs') := by
  obtain ⟨C, hC, hA, h6⟩ := hP
  have hC1 := hA.j1
  have hF := hA.fin hI hj h0
  have h16 : C 16 j = S 16 j := hA.a1 16 j (by unfold cm; omega)
  have hg16 : -1 ≤ S 16 j ∧ S 16 j < j := (hI.gd.2.1 j hj.1 hj.2).1
  have h19 : C 19 j = S 19 j := hA.a1 19 j (by unfold cm; omega)
  have hg19 : -1 ≤ S 19 j ∧ S 19 j ≤ 99 := (hI.gd.2.1 j hj.1 hj.2).2.2.1
  have h6F := h6.fin (j := j) (by omega)
  have hJ := hI.J
  have key : ∀ hs, RepC w am (c_fin C j) g b hs → PR w am (z_fin1 S j) g b hs := fun hs hC => ⟨_, hC, hF, h6F⟩
  have hj1 : 0 ≤ j ∧ j < C 1 0 := by omega
  first | refine V.aload_nR (pc := 0) d_J_finish_0 rfl ?_ | refine V.aload_n (pc := 0) d_J_finish_0 rfl ?_
  refine Vi.iconst (pc := 1) d_J_finish_1 ?_
  refine Vc.put_B12 (pc := 2) d_J_finish_2 f_J_71 hC (by first | assumption | omega | (simp [up, up_f] <;> omega)) (by omega) (fun hs hC => ?_)
  first | refine V.aload_nR (pc := 5) d_J_finish_5 rfl ?_ | refine V.aload_n (pc := 5) d_J_finish_5 rfl ?_
  refine Vc.get_B (pc := 6) d_J_finish_6 g_J_236 hC (by first | assumption | omega | (simp [up, up_f] <;> omega)) rfl ?_
  refine V.callV (pc := 9) d_J_finish_9 Y_T_stop l_J_168 wi_T_stop wv_T_stop (ci := 5) rfl rfl [] (hC.oT (by first | assumption | exact ⟨Or.inl rfl, (by first | assumption | omega | (simp [up, up_f] <;> omega))⟩ | exact ⟨Or.inr rfl, (by first | assumption | omega | (simp [up, up_f] <;> omega))⟩ | (simp [up] <;> omega))) rfl rfl ⟨by repeat (first | exact trivial | refine ⟨(by first | rfl | exact vrf_cat _), ?_⟩), Nat.le_of_ble_eq_true rfl⟩ ⟨⟨rfl, trivial⟩, Nat.le_of_ble_eq_true rfl⟩ (c_stop hC ⟨Or.inr rfl, by simpa [up] using hj1⟩) (fun v hs ho => ?_) (fun E hs ho => by simp at ho)
  obtain ⟨ho, hC⟩ := ho
  cases ho
  first | refine V.aload_nR (pc := 12) d_J_finish_12 rfl ?_ | refine V.aload_n (pc := 12) d_J_finish_12 rfl ?_
  refine V.dup (pc := 13) d_J_finish_13 (by first | rfl | exact vrf_cat _) ?_
  refine Vc.get_J (pc := 14) d_J_finish_14 g_J_132 hC rfl ?_
  refine Vi.iconst (pc := 17) d_J_finish_17 ?_
  refine Vi.iadd (pc := 18) d_J_finish_18 ?_
  refine Vc.put_J5 (pc := 19) d_J_finish_19 f_J_132 hC (fun hs hC => ?_)
  have hC : RepC w am (c_mark C j) g b hs := by simpa [c_mark, up_f, tdu] using hC
  have m16 : c_mark C j 16 j = C 16 j := by simp [c_mark, up]
  have m1 : c_mark C j 1 0 = C 1 0 := by simp [c_mark, up]
  have m56 : ∀ i, c_mark C j 56 i = C 56 i := fun i => by simp [c_mark, up]
  have e2 : c_mark2 C j = if 0 ≤ C 16 j then up (c_mark C j) 56 (C 16 j) (C 56 (C 16 j) - 1) else c_mark C j := rfl
  generalize c_mark C j = D at hC m16 m1 m56 e2
  first | refine V.aload_nR (pc := 22) d_J_finish_22 rfl ?_ | refine V.aload_n (pc := 22) d_J_finish_22 rfl ?_
  refine Vc.get_B (pc := 23) d_J_finish_23 g_J_109 hC (by first | assumption | omega | (simp [up, up_f] <;> omega)) rfl ?_
  rw [m16]
  first | refine V.astore_nR (pc := 26) d_J_finish_26 (by decide) ?_ | refine V.astore_n (pc := 26) d_J_finish_26 (by decide) ?_
  first | refine V.aload_nR (pc := 27) d_J_finish_27 rfl ?_ | refine V.aload_n (pc := 27) d_J_finish_27 rfl ?_
  refine Vc.ifnull (pc := 28) (tgt := 71) d_J_finish_28 (by decide) (fun c_28 => ?_) (fun c_28 => ?_)
  · refine V.return_ (pc := 71) d_J_finish_71 rfl ?_
    refine ⟨rfl, key _ ?_⟩
    unfold c_fin
    rw [if_neg (by omega), e2, if_neg (by omega)]
    exact hC
  · rw [rj_pos c_28]
    have hp1 : 0 ≤ C 16 j ∧ C 16 j < D 1 0 := by omega
    have hj2 : 0 ≤ j ∧ j < D 1 0 := by omega
    first | refine V.aload_nR (pc := 31) d_J_finish_31 rfl ?_ | refine V.aload_n (pc := 31) d_J_finish_31 rfl ?_
    refine V.dup (pc := 32) d_J_finish_32 (by first | rfl | exact vrf_cat _) ?_
    refine Vc.get_B (pc := 33) d_J_finish_33 g_J_126 hC (by first | assumption | omega | (simp [up, up_f] <;> omega)) rfl ?_
    refine Vi.iconst (pc := 36) d_J_finish_36 ?_
    refine Vi.isub (pc := 37) d_J_finish_37 ?_
    refine Vc.put_B11 (pc := 38) d_J_finish_38 f_J_126 hC (by first | assumption | omega | (simp [up, up_f] <;> omega)) (fun hs hC => ?_)
    rw [m56] at hC
    rw [if_pos c_28] at e2
    rw [← e2] at hC
    have o := c_mark2_o (C := C) (j := j)
    have o1 := o 1 0 (by decide) (by decide) (by decide) (by decide)
    have o51 := o 51 (C 16 j) (by decide) (by decide) (by decide) (by decide)
    have o50 := o 50 (C 16 j) (by decide) (by decide) (by decide) (by decide)
    have o19 := o 19 j (by decide) (by decide) (by decide) (by decide)
    have hw := hA.a3 (S 16 j) (by omega) (by omega)
    have hwt := hI.wt (S 16 j) (by omega) (by omega)
    have h51 : C 51 (C 16 j) < C 1 0 := by
      have a := hw.2.1
      rw [← h16] at a
      have w1 := hwt.1
      have w3 := hwt.2.2.1
      rw [← h16] at w1 w3
      split at a <;> omega
    have h50 : jr (C 50 (C 16 j)) := by
      have a := hw.1
      rw [← h16] at a
      omega
    have hrj : rj am (C 51 (C 16 j)) = some (am 10 j) ↔ C 51 (C 16 j) = j := hC.rj_eq (by omega) (by omega)
    have hroom : C 51 (C 16 j) = j → 0 ≤ S 7 0 ∧ S 7 0 < 24 := fun z => by
      refine ⟨hI.gd.2.2.1.1, hI.gd.2.2.room hJ.2 (k := S 16 j) (by omega) (hI.gd.2.2.nr ?_)⟩
      intro e
      have a := hw.2.1
      rw [if_pos (Or.inl e), ← h16] at a
      omega
    have a51 : C 61 0 = S 7 0 := hA.a5.1
    have a52 : 0 ≤ C 60 0 ∧ C 60 0 < 24 := hA.a5.2.1
    have r60 := o 60 0 (by decide) (by decide) (by decide) (by decide)
    have r61 := o 61 0 (by decide) (by decide) (by decide) (by decide)
    have hp2 : 0 ≤ C 16 j ∧ C 16 j < c_mark2 C j 1 0 := by omega
    have hj3 : 0 ≤ j ∧ j < c_mark2 C j 1 0 := by omega
    clear hw hwt
    have hfin : c_fin C j = if 0 ≤ C 16 j ∧ C 51 (C 16 j) = j then (if C 50 (C 16 j) = 5 then c_ready (c_mark2 C j) (C 16 j) (-1) else c_ready (c_out (c_mark2 C j) (C 16 j) j) (C 16 j) (C 19 j)) else c_mark2 C j := rfl
    generalize c_mark2 C j = E at hC o1 o51 o50 o19 r60 r61 hp2 hj3 hfin hrj
    first | refine V.aload_nR (pc := 41) d_J_finish_41 rfl ?_ | refine V.aload_n (pc := 41) d_J_finish_41 rfl ?_
    refine Vc.get_B (pc := 42) d_J_finish_42 g_J_161 hC (by first | assumption | omega | (simp [up, up_f] <;> omega)) rfl ?_
    rw [o51]
    first | refine V.aload_nR (pc := 45) d_J_finish_45 rfl ?_ | refine V.aload_n (pc := 45) d_J_finish_45 rfl ?_
    first | refine Vc.acmp_ne1 (pc := 46) (tgt := 71) d_J_finish_46 (by decide) (fun c_46 => ?_) (fun c_46 => ?_) | refine Vc.acmp_ne2 (pc := 46) (tgt := 71) d_J_finish_46 (by decide) (fun c_46 => ?_) (fun c_46 => ?_)
    · refine V.return_ (pc := 71) d_J_finish_71 rfl ?_
      refine ⟨rfl, key _ ?_⟩
      rw [hfin, if_neg (fun z => c_46 (hrj.2 z.2))]
      exact hC
    · have hj5 := hrj.1 c_46
      have hq := hroom hj5
      rw [if_pos ⟨c_28, hj5⟩] at hfin
      first | refine V.aload_nR (pc := 49) d_J_finish_49 rfl ?_ | refine V.aload_n (pc := 49) d_J_finish_49 rfl ?_
      first | refine V.aload_nR (pc := 50) d_J_finish_50 rfl ?_ | refine V.aload_n (pc := 50) d_J_finish_50 rfl ?_
      first | refine V.aload_nR (pc := 51) d_J_finish_51 rfl ?_ | refine V.aload_n (pc := 51) d_J_finish_51 rfl ?_
      refine Vc.get_B (pc := 52) d_J_finish_52 g_J_158 hC (by first | assumption | omega | (simp [up, up_f] <;> omega)) rfl ?_
      rw [o50]
      refine Vi.iconst (pc := 55) d_J_finish_55 ?_
      refine Vi.icmp_ne (pc := 56) (tgt := 63) d_J_finish_56 (by decide) (h50) (by decide) (fun c_56 => ?_) (fun c_56 => ?_)
      · rw [if_neg c_56] at hfin
        first | refine V.aload_nR (pc := 63) d_J_finish_63 rfl ?_ | refine V.aload_n (pc := 63) d_J_finish_63 rfl ?_
        first | refine V.aload_nR (pc := 64) d_J_finish_64 rfl ?_ | refine V.aload_n (pc := 64) d_J_finish_64 rfl ?_
        refine V.callS (pc := 65) d_J_finish_65 Y_J_takeOutcome l_J_239 ws_J_takeOutcome wn_J_takeOutcome [_, _] rfl rfl ⟨by repeat (first | exact trivial | refine ⟨(by first | rfl | exact vrf_cat _), ?_⟩), Nat.le_of_ble_eq_true rfl⟩ ⟨⟨(by first | rfl | exact vrf_cat _), (by first | rfl | exact vrf_cat _), trivial⟩, Nat.le_of_ble_eq_true rfl⟩ (c_takeOutcome hC hp2 hj3 (by omega)) (fun v hs ho => ?_) (fun E hs ho => by simp at ho)
        obtain ⟨ho, hC⟩ := ho
        cases ho
        rw [o19]
        have q1 : c_out E (C 16 j) j 1 0 = E 1 0 := by unfold c_out; split <;> simp [up]
        have q2 : c_out E (C 16 j) j 60 0 = E 60 0 := by unfold c_out; split <;> simp [up]
        have q3 : c_out E (C 16 j) j 61 0 = E 61 0 := by unfold c_out; split <;> simp [up]
        refine V.callV (pc := 68) d_J_finish_68 Y_J_makeReady l_J_154 wi_J_makeReady wv_J_makeReady (ci := 0) rfl rfl [_, _] hC.oJ rfl rfl ⟨by repeat (first | exact trivial | refine ⟨(by first | rfl | exact vrf_cat _), ?_⟩), Nat.le_of_ble_eq_true rfl⟩ ⟨⟨rfl, (by first | rfl | exact vrf_cat _), (by first | rfl | exact vrf_cat _), trivial⟩, Nat.le_of_ble_eq_true rfl⟩ (c_makeReady hC (by omega) (by omega)) (fun v hs ho => ?_) (fun E hs ho => by simp at ho)
        obtain ⟨ho, hC⟩ := ho
        cases ho
        refine V.return_ (pc := 71) d_J_finish_71 rfl ?_
        exact ⟨rfl, key _ (by rw [hfin]; exact hC)⟩
      · rw [if_pos c_56] at hfin
        refine Vi.iconst (pc := 59) d_J_finish_59 ?_
        refine V.goto (pc := 60) (tgt := 68) d_J_finish_60 (by decide) ?_
        refine V.callV (pc := 68) d_J_finish_68 Y_J_makeReady l_J_154 wi_J_makeReady wv_J_makeReady (ci := 0) rfl rfl [_, _] hC.oJ rfl rfl ⟨by repeat (first | exact trivial | refine ⟨(by first | rfl | exact vrf_cat _), ?_⟩), Nat.le_of_ble_eq_true rfl⟩ ⟨⟨rfl, (by first | rfl | exact vrf_cat _), (by first | rfl | exact vrf_cat _), trivial⟩, Nat.le_of_ble_eq_true rfl⟩ (c_makeReady hC (by omega) (by omega)) (fun v hs ho => ?_) (fun E hs ho => by simp at ho)
        obtain ⟨ho, hC⟩ := ho
        cases ho
        refine V.return_ (pc := 71) d_J_finish_71 rfl ?_
        exact ⟨rfl, key _ (by rw [hfin]; exact hC)⟩
/-- what is passed on of a failure -/
def z_pf (U : js) (j : Int) : js := if 0 < U 19 j ∧ (U 17 j = 0 ∨ U 17 j = 1 ∧ U 17 (U 16 j) = 3) then z_write U (200 + U 19 j) else if 0 < U 19 j ∧ U 17 j = 1 then z_give U (U 16 j) (U 19 j) else U
theorem z_pf_2 {j : Int} : z_pf (z_fin1 S j) j = z_fin2 S j := by
  obtain ⟨e, e25⟩ := z_fin1_e (S := S) (j := j)
  unfold z_pf z_fin2
  simp only [e 19 _ (show (19 : Nat) ≠ 7 by decide) (by decide) (by decide) (by decide) (by decide) (by decide) (by decide), e 17 _ (show (17 : Nat) ≠ 7 by decide) (by decide) (by decide) (by decide) (by decide) (by decide) (by decide), e 16 _ (show (16 : Nat) ≠ 7 by decide) (by decide) (by decide) (by decide) (by decide) (by decide) (by decide)]
theorem k_pass {j : Int} (hP : PR w am S g b hs) (hI : Iv S) (hj : 0 ≤ j ∧ j < S 1 0) (h3 : S 3 0 < 2000000000) : V jcl w m_J_passFailureOn (d + 27) 0 [(0, .ref (am 0 0)), (1, .ref (am 10 j)), (2, va_rf (rj am (S 16 j)))] [] hs (fun o hs' => o = .inl none ∧ PR w am (z_pf S j) g b hs') := by
  have hP' := hP
  obtain ⟨C, hC, hA, h6⟩ := hP
  have hC1 := hA.j1
  have h16 : C 16 j = S 16 j := hA.a1 16 j (by unfold cm; omega)
  have h19 : C 19 j = S 19 j := hA.a1 19 j (by unfold cm; omega)
  have h17 : C 17 j = S 17 j := hA.a1 17 j (by unfold cm; omega)
  have h17p : C 17 (S 16 j) = S 17 (S 16 j) := hA.a1 17 (S 16 j) (by unfold cm; omega)
  have hg := hI.gd.2.1 j hj.1 hj.2
  have hg16 : -1 ≤ S 16 j ∧ S 16 j < j := hg.1
  have hg17 : 0 ≤ S 17 j ∧ S 17 j ≤ 4 := hg.2.1
  have hg19 : -1 ≤ S 19 j ∧ S 19 j ≤ 99 := hg.2.2.1
  have hw7 := (hI.wt j hj.1 hj.2).2.2.2.2.2.2.1
  have hgp : 0 ≤ S 16 j → 0 ≤ S 17 (S 16 j) ∧ S 17 (S 16 j) ≤ 4 := fun z => (hI.gd.2.1 (S 16 j) z (by omega)).2.1
  have h30 := hI.tm.1
  clear hg
  first | refine V.aload_nR (pc := 0) d_J_passFailureOn_0 rfl ?_ | refine V.aload_n (pc := 0) d_J_passFailureOn_0 rfl ?_
  refine Vc.get_B (pc := 1) d_J_passFailureOn_1 g_J_75 hC (by first | assumption | omega | (simp [up, up_f] <;> omega)) rfl ?_
  rw [h19]
  refine Vi.if_gt (pc := 4) (tgt := 8) d_J_passFailureOn_4 (by decide) (by first | assumption | decide | omega | (simp [up] <;> omega)) (fun c_4 => ?_) (fun c_4 => ?_)
  · first | refine V.aload_nR (pc := 8) d_J_passFailureOn_8 rfl ?_ | refine V.aload_n (pc := 8) d_J_passFailureOn_8 rfl ?_
    refine Vc.ifnull (pc := 9) (tgt := 28) d_J_passFailureOn_9 (by decide) (fun c_9 => ?_) (fun c_9 => ?_)
    · first | refine V.aload_nR (pc := 28) d_J_passFailureOn_28 rfl ?_ | refine V.aload_n (pc := 28) d_J_passFailureOn_28 rfl ?_
      refine Vi.sipush (pc := 29) d_J_passFailureOn_29 (by decide) ?_
      first | refine V.aload_nR (pc := 32) d_J_passFailureOn_32 rfl ?_ | refine V.aload_n (pc := 32) d_J_passFailureOn_32 rfl ?_
      refine Vc.get_B (pc := 33) d_J_passFailureOn_33 g_J_75 hC (by first | assumption | omega | (simp [up, up_f] <;> omega)) rfl ?_
      rw [h19]
      refine Vi.iadd (pc := 36) d_J_passFailureOn_36 ?_
      refine V.callV (pc := 37) d_J_passFailureOn_37 Y_J_note l_J_219 wi_J_note wv_J_note (ci := 0) rfl rfl [_] hC.oJ rfl rfl ⟨by repeat (first | exact trivial | refine ⟨(by first | rfl | exact vrf_cat _), ?_⟩), Nat.le_of_ble_eq_true rfl⟩ ⟨⟨rfl, (by first | rfl | exact vrf_cat _), trivial⟩, Nat.le_of_ble_eq_true rfl⟩ (k_note hP' (by omega)) (fun v hs ho => ?_) (fun E hs ho => by simp at ho)
      obtain ⟨ho, hP⟩ := ho
      cases ho
      refine V.goto (pc := 40) (tgt := 61) d_J_passFailureOn_40 (by decide) ?_
      refine V.return_ (pc := 61) d_J_passFailureOn_61 rfl ?_
      refine ⟨rfl, ?_⟩
      unfold z_pf
      first | (exfalso; omega) | (rw [if_pos (by omega)]; exact hP) | (rw [if_neg (by omega), if_pos (by omega)]; exact hP) | (rw [if_neg (by omega), if_neg (by omega)]; exact hP')
    · rw [rj_pos c_9]
      first | refine V.aload_nR (pc := 12) d_J_passFailureOn_12 rfl ?_ | refine V.aload_n (pc := 12) d_J_passFailureOn_12 rfl ?_
      refine Vc.get_B (pc := 13) d_J_passFailureOn_13 g_J_117 hC (by first | assumption | omega | (simp [up, up_f] <;> omega)) rfl ?_
      rw [h17]
      refine Vi.iconst (pc := 16) d_J_passFailureOn_16 ?_
      refine Vi.icmp_ne (pc := 17) (tgt := 43) d_J_passFailureOn_17 (by decide) (by first | assumption | decide | omega | (simp [up] <;> omega)) (by first | assumption | decide | omega | (simp [up] <;> omega)) (fun c_17 => ?_) (fun c_17 => ?_)
      · first | refine V.aload_nR (pc := 43) d_J_passFailureOn_43 rfl ?_ | refine V.aload_n (pc := 43) d_J_passFailureOn_43 rfl ?_
        refine Vc.get_B (pc := 44) d_J_passFailureOn_44 g_J_117 hC (by first | assumption | omega | (simp [up, up_f] <;> omega)) rfl ?_
        rw [h17]
        refine Vi.iconst (pc := 47) d_J_passFailureOn_47 ?_
        refine Vi.icmp_ne (pc := 48) (tgt := 61) d_J_passFailureOn_48 (by decide) (by first | assumption | decide | omega | (simp [up] <;> omega)) (by first | assumption | decide | omega | (simp [up] <;> omega)) (fun c_48 => ?_) (fun c_48 => ?_)
        · refine V.return_ (pc := 61) d_J_passFailureOn_61 rfl ?_
          refine ⟨rfl, ?_⟩
          unfold z_pf
          first | (exfalso; omega) | (rw [if_pos (by omega)]; exact hP) | (rw [if_neg (by omega), if_pos (by omega)]; exact hP) | (rw [if_neg (by omega), if_neg (by omega)]; exact hP')
        · first | refine V.aload_nR (pc := 51) d_J_passFailureOn_51 rfl ?_ | refine V.aload_n (pc := 51) d_J_passFailureOn_51 rfl ?_
          first | refine V.aload_nR (pc := 52) d_J_passFailureOn_52 rfl ?_ | refine V.aload_n (pc := 52) d_J_passFailureOn_52 rfl ?_
          first | refine V.aload_nR (pc := 53) d_J_passFailureOn_53 rfl ?_ | refine V.aload_n (pc := 53) d_J_passFailureOn_53 rfl ?_
          refine Vc.get_B (pc := 54) d_J_passFailureOn_54 g_J_75 hC (by first | assumption | omega | (simp [up, up_f] <;> omega)) rfl ?_
          rw [h19]
          refine Vi.iconst (pc := 57) d_J_passFailureOn_57 ?_
          refine V.callV (pc := 58) d_J_passFailureOn_58 Y_J_give l_J_78 wi_J_give wv_J_give (ci := 0) rfl rfl [_, _, _] hC.oJ rfl rfl ⟨by repeat (first | exact trivial | refine ⟨(by first | rfl | exact vrf_cat _), ?_⟩), Nat.le_of_ble_eq_true rfl⟩ ⟨⟨rfl, (by first | rfl | exact vrf_cat _), (by first | rfl | exact vrf_cat _), (by first | rfl | exact vrf_cat _), trivial⟩, Nat.le_of_ble_eq_true rfl⟩ (k_give0 (d := d) hP' hI (by omega) (by omega)) (fun v hs ho => ?_) (fun E hs ho => by simp at ho)
          obtain ⟨ho, hP⟩ := ho
          cases ho
          refine V.return_ (pc := 61) d_J_passFailureOn_61 rfl ?_
          refine ⟨rfl, ?_⟩
          unfold z_pf
          first | (exfalso; omega) | (rw [if_pos (by omega)]; exact hP) | (rw [if_neg (by omega), if_pos (by omega)]; exact hP) | (rw [if_neg (by omega), if_neg (by omega)]; exact hP')
      · first | refine V.aload_nR (pc := 20) d_J_passFailureOn_20 rfl ?_ | refine V.aload_n (pc := 20) d_J_passFailureOn_20 rfl ?_
        refine Vc.get_B (pc := 21) d_J_passFailureOn_21 g_J_117 hC (by first | assumption | omega | (simp [up, up_f] <;> omega)) rfl ?_
        rw [h17p]
        refine Vi.iconst (pc := 24) d_J_passFailureOn_24 ?_
        refine Vi.icmp_ne (pc := 25) (tgt := 43) d_J_passFailureOn_25 (by decide) (by first | assumption | decide | omega | (simp [up] <;> omega)) (by first | assumption | decide | omega | (simp [up] <;> omega)) (fun c_25 => ?_) (fun c_25 => ?_)
        · first | refine V.aload_nR (pc := 43) d_J_passFailureOn_43 rfl ?_ | refine V.aload_n (pc := 43) d_J_passFailureOn_43 rfl ?_
          refine Vc.get_B (pc := 44) d_J_passFailureOn_44 g_J_117 hC (by first | assumption | omega | (simp [up, up_f] <;> omega)) rfl ?_
          rw [h17]
          refine Vi.iconst (pc := 47) d_J_passFailureOn_47 ?_
          refine Vi.icmp_ne (pc := 48) (tgt := 61) d_J_passFailureOn_48 (by decide) (by first | assumption | decide | omega | (simp [up] <;> omega)) (by first | assumption | decide | omega | (simp [up] <;> omega)) (fun c_48 => ?_) (fun c_48 => ?_)
          · refine V.return_ (pc := 61) d_J_passFailureOn_61 rfl ?_
            refine ⟨rfl, ?_⟩
            unfold z_pf
            first | (exfalso; omega) | (rw [if_pos (by omega)]; exact hP) | (rw [if_neg (by omega), if_pos (by omega)]; exact hP) | (rw [if_neg (by omega), if_neg (by omega)]; exact hP')
          · first | refine V.aload_nR (pc := 51) d_J_passFailureOn_51 rfl ?_ | refine V.aload_n (pc := 51) d_J_passFailureOn_51 rfl ?_
            first | refine V.aload_nR (pc := 52) d_J_passFailureOn_52 rfl ?_ | refine V.aload_n (pc := 52) d_J_passFailureOn_52 rfl ?_
            first | refine V.aload_nR (pc := 53) d_J_passFailureOn_53 rfl ?_ | refine V.aload_n (pc := 53) d_J_passFailureOn_53 rfl ?_
            refine Vc.get_B (pc := 54) d_J_passFailureOn_54 g_J_75 hC (by first | assumption | omega | (simp [up, up_f] <;> omega)) rfl ?_
            rw [h19]
            refine Vi.iconst (pc := 57) d_J_passFailureOn_57 ?_
            refine V.callV (pc := 58) d_J_passFailureOn_58 Y_J_give l_J_78 wi_J_give wv_J_give (ci := 0) rfl rfl [_, _, _] hC.oJ rfl rfl ⟨by repeat (first | exact trivial | refine ⟨(by first | rfl | exact vrf_cat _), ?_⟩), Nat.le_of_ble_eq_true rfl⟩ ⟨⟨rfl, (by first | rfl | exact vrf_cat _), (by first | rfl | exact vrf_cat _), (by first | rfl | exact vrf_cat _), trivial⟩, Nat.le_of_ble_eq_true rfl⟩ (k_give0 (d := d) hP' hI (by omega) (by omega)) (fun v hs ho => ?_) (fun E hs ho => by simp at ho)
            obtain ⟨ho, hP⟩ := ho
            cases ho
            refine V.return_ (pc := 61) d_J_passFailureOn_61 rfl ?_
            refine ⟨rfl, ?_⟩
            unfold z_pf
            first | (exfalso; omega) | (rw [if_pos (by omega)]; exact hP) | (rw [if_neg (by omega), if_pos (by omega)]; exact hP) | (rw [if_neg (by omega), if_neg (by omega)]; exact hP')
        · first | refine V.aload_nR (pc := 28) d_J_passFailureOn_28 rfl ?_ | refine V.aload_n (pc := 28) d_J_passFailureOn_28 rfl ?_
          refine Vi.sipush (pc := 29) d_J_passFailureOn_29 (by decide) ?_
          first | refine V.aload_nR (pc := 32) d_J_passFailureOn_32 rfl ?_ | refine V.aload_n (pc := 32) d_J_passFailureOn_32 rfl ?_
          refine Vc.get_B (pc := 33) d_J_passFailureOn_33 g_J_75 hC (by first | assumption | omega | (simp [up, up_f] <;> omega)) rfl ?_
          rw [h19]
          refine Vi.iadd (pc := 36) d_J_passFailureOn_36 ?_
          refine V.callV (pc := 37) d_J_passFailureOn_37 Y_J_note l_J_219 wi_J_note wv_J_note (ci := 0) rfl rfl [_] hC.oJ rfl rfl ⟨by repeat (first | exact trivial | refine ⟨(by first | rfl | exact vrf_cat _), ?_⟩), Nat.le_of_ble_eq_true rfl⟩ ⟨⟨rfl, (by first | rfl | exact vrf_cat _), trivial⟩, Nat.le_of_ble_eq_true rfl⟩ (k_note hP' (by omega)) (fun v hs ho => ?_) (fun E hs ho => by simp at ho)
          obtain ⟨ho, hP⟩ := ho
          cases ho
          refine V.goto (pc := 40) (tgt := 61) d_J_passFailureOn_40 (by decide) ?_
          refine V.return_ (pc := 61) d_J_passFailureOn_61 rfl ?_
          refine ⟨rfl, ?_⟩
          unfold z_pf
          first | (exfalso; omega) | (rw [if_pos (by omega)]; exact hP) | (rw [if_neg (by omega), if_pos (by omega)]; exact hP) | (rw [if_neg (by omega), if_neg (by omega)]; exact hP')
  · refine V.return_ (pc := 7) d_J_passFailureOn_7 rfl ?_
    refine ⟨rfl, ?_⟩
    unfold z_pf
    first | (exfalso; omega) | (rw [if_pos (by omega)]; exact hP) | (rw [if_neg (by omega), if_pos (by omega)]; exact hP) | (rw [if_neg (by omega), if_neg (by omega)]; exact hP')
theorem k_up : ∀ (n : Nat) (S : js) (k l : Int) (hs : jh), PR w am S g b hs → Iv S → En (-1) S → Bd (n + 1) S → -1 ≤ k → k < S 1 0 → l + n = 24 → 0 ≤ l →
    V jcl w m_J_finishUpwards (d + 28) 4 [(0, .ref (am 0 0)), (2, va_rf (rj am k)), (3, .int (ii l))] [] hs (fun o hs' => o = .inl none ∧ PR w am (zfin n S k) g b hs') := by
  intro n
  induction n with
  | zero =>
    intro S k l hs hP hI hE hB k1 k2 hl hl0
    refine V.iload_n (pc := 4) d_J_finishUpwards_4 rfl ?_
    refine Vi.bipush (pc := 5) d_J_finishUpwards_5 (by decide) ?_
    refine Vi.icmp_ge (pc := 7) (tgt := 47) d_J_finishUpwards_7 (by decide) (by first | assumption | decide | omega | (simp [up] <;> omega)) (by first | assumption | decide | omega | (simp [up] <;> omega)) (fun c_7 => ?_) (fun c_7 => ?_)
    · refine V.return_ (pc := 47) d_J_finishUpwards_47 rfl ?_
      exact ⟨rfl, hP⟩
    · omega
  | succ n ih =>
    intro S k l hs hP hI hE hB k1 k2 hl hl0
    have hP' := hP
    obtain ⟨C, hC, hA, h6⟩ := hP
    have hC1 := hA.j1
    have hJ := hI.J
    refine V.iload_n (pc := 4) d_J_finishUpwards_4 rfl ?_
    refine Vi.bipush (pc := 5) d_J_finishUpwards_5 (by decide) ?_
    refine Vi.icmp_ge (pc := 7) (tgt := 47) d_J_finishUpwards_7 (by decide) (by first | assumption | decide | omega | (simp [up] <;> omega)) (by first | assumption | decide | omega | (simp [up] <;> omega)) (fun c_7 => ?_) (fun c_7 => ?_)
    · omega
    · first | refine V.aload_nR (pc := 10) d_J_finishUpwards_10 rfl ?_ | refine V.aload_n (pc := 10) d_J_finishUpwards_10 rfl ?_
      refine Vc.ifnull (pc := 11) (tgt := 21) d_J_finishUpwards_11 (by decide) (fun c_11 => ?_) (fun c_11 => ?_)
      · refine V.return_ (pc := 21) d_J_finishUpwards_21 rfl ?_
        refine ⟨rfl, ?_⟩
        rw [zfin, if_neg (by omega)]
        exact hP'
      · rw [rj_pos c_11]
        have h25 : C 25 k = S 25 k := hA.a1 25 k (by unfold cm; omega)
        have h21 : C 21 k = S 21 k := hA.a1 21 k (by unfold cm; omega)
        have h16 : C 16 k = S 16 k := hA.a1 16 k (by unfold cm; omega)
        have h56 := hA.a3o.1 k c_11 (by omega)
        have hop := z_cn_nn (S := S) (j := k) 25 0
        have hnc := z_open_nc (S := S) (j := k) hJ.2
        have hg := hI.gd.2.1 k c_11 k2
        have hg16 : -1 ≤ S 16 k ∧ S 16 k < k := hg.1
        have hg21 : 0 ≤ S 21 k ∧ S 21 k ≤ 6 := hg.2.2.2.1
        have hg25 : S 25 k = 0 ∨ S 25 k = 1 := hg.2.2.2.2.2.1
        have hen := hE k c_11 k2
        have hcond : (C 25 k = 0 ∧ C 21 k = 0 ∧ C 56 k = 0) ↔ (0 ≤ k ∧ S 25 k = 0 ∧ S 24 k = 1 ∧ z_nextChild S k 25 0 < 0) := by
          rw [h25, h21, h56, hnc]
          constructor
          · intro ⟨y1, y2, y3⟩
            exact ⟨c_11, y1, hen.2 (by omega) y2, y3⟩
          · intro ⟨_, y1, y2, y3⟩
            exact ⟨y1, hen.1 y2, y3⟩
        have hjr : jr (C 25 k) ∧ jr (C 21 k) ∧ jr (C 56 k) := by
          rw [h25, h21, h56]
          unfold z_open
          omega
        clear hg hop
        first | refine V.aload_nR (pc := 14) d_J_finishUpwards_14 rfl ?_ | refine V.aload_n (pc := 14) d_J_finishUpwards_14 rfl ?_
        refine V.callV (pc := 15) d_J_finishUpwards_15 Y_B_isAtItsEnd l_J_226 wi_B_isAtItsEnd wv_B_isAtItsEnd (ci := 3) rfl rfl [] (hC.oB (by first | assumption | omega | (simp [up, up_f] <;> omega))) rfl rfl ⟨by repeat (first | exact trivial | refine ⟨(by first | rfl | exact vrf_cat _), ?_⟩), Nat.le_of_ble_eq_true rfl⟩ ⟨⟨rfl, trivial⟩, Nat.le_of_ble_eq_true rfl⟩ (c_isAtItsEnd hC (by omega) hjr) (fun v hs ho => ?_) (fun E hs ho => by simp at ho)
        obtain ⟨r_15, ho, hr_15, rfl⟩ := ho
        cases ho
        refine Vi.if_ne (pc := 18) (tgt := 22) d_J_finishUpwards_18 (by decide) (by omega) (fun c_18 => ?_) (fun c_18 => ?_)
        · have hc : C 25 k = 0 ∧ C 21 k = 0 ∧ C 56 k = 0 := by omega
          have hc2 := hcond.1 hc
          have h1 := hI.fin1 ⟨c_11, k2⟩ hc2.2.1 (hen.1 hc2.2.2.1)
          have F := hI.fin2 (j := k) (m := n + 1) (hB.le (by omega)) ⟨c_11, k2⟩ hc2.2.1 (hen.1 hc2.2.2.1)
          obtain ⟨e, e25⟩ := z_fin1_e (S := S) (j := k)
          have e1 := e 1 0 (by decide) (by decide) (by decide) (by decide) (by decide) (by decide) (by decide)
          have e3 := e 3 0 (by decide) (by decide) (by decide) (by decide) (by decide) (by decide) (by decide)
          have e16 := e 16 k (by decide) (by decide) (by decide) (by decide) (by decide) (by decide) (by decide)
          rw [zfin, if_pos hc2]
          clear hcond hc hjr hr_15 hnc
          first | refine V.aload_nR (pc := 22) d_J_finishUpwards_22 rfl ?_ | refine V.aload_n (pc := 22) d_J_finishUpwards_22 rfl ?_
          first | refine V.aload_nR (pc := 23) d_J_finishUpwards_23 rfl ?_ | refine V.aload_n (pc := 23) d_J_finishUpwards_23 rfl ?_
          refine V.callV (pc := 24) d_J_finishUpwards_24 Y_J_finish l_J_229 wi_J_finish wv_J_finish (ci := 0) rfl rfl [_] hC.oJ rfl rfl ⟨by repeat (first | exact trivial | refine ⟨(by first | rfl | exact vrf_cat _), ?_⟩), Nat.le_of_ble_eq_true rfl⟩ ⟨⟨rfl, (by first | rfl | exact vrf_cat _), trivial⟩, Nat.le_of_ble_eq_true rfl⟩ (k_finish hP' hI (by omega) hc2.2.1) (fun v hs ho => ?_) (fun E hs ho => by simp at ho)
          obtain ⟨ho, hP1⟩ := ho
          cases ho
          have hP1' := hP1
          obtain ⟨D, hC, hA1, h61⟩ := hP1
          have hD1 := hA1.j1
          have d16 : D 16 k = S 16 k := by rw [← e16]; exact hA1.a1 16 k (by unfold cm; omega)
          first | refine V.aload_nR (pc := 27) d_J_finishUpwards_27 rfl ?_ | refine V.aload_n (pc := 27) d_J_finishUpwards_27 rfl ?_
          first | refine V.aload_nR (pc := 28) d_J_finishUpwards_28 rfl ?_ | refine V.aload_n (pc := 28) d_J_finishUpwards_28 rfl ?_
          first | refine V.aload_nR (pc := 29) d_J_finishUpwards_29 rfl ?_ | refine V.aload_n (pc := 29) d_J_finishUpwards_29 rfl ?_
          refine Vc.get_B (pc := 30) d_J_finishUpwards_30 g_J_109 hC (by first | assumption | omega | (simp [up, up_f] <;> omega)) rfl ?_
          rw [d16]
          have kp := k_pass (d := d) hP1' h1 (j := k) (by omega) (by unfold Bd at hB; omega)
          rw [e16] at kp
          refine V.callV (pc := 33) d_J_finishUpwards_33 Y_J_passFailureOn l_J_232 wi_J_passFailureOn wv_J_passFailureOn (ci := 0) rfl rfl [_, _] hC.oJ rfl rfl ⟨by repeat (first | exact trivial | refine ⟨(by first | rfl | exact vrf_cat _), ?_⟩), Nat.le_of_ble_eq_true rfl⟩ ⟨⟨rfl, (by first | rfl | exact vrf_cat _), (by first | rfl | exact vrf_cat _), trivial⟩, Nat.le_of_ble_eq_true rfl⟩ (kp) (fun v hs ho => ?_) (fun E hs ho => by simp at ho)
          obtain ⟨ho, hP2⟩ := ho
          cases ho
          rw [z_pf_2] at hP2
          have hP2' := hP2
          obtain ⟨E, hC, hA2, h62⟩ := hP2
          have hE1 := hA2.j1
          have f1 := F.2.2.1
          have f16 : E 16 k = S 16 k := by rw [← F.2.2.2.1 k]; exact hA2.a1 16 k (by unfold cm; omega)
          first | refine V.aload_nR (pc := 36) d_J_finishUpwards_36 rfl ?_ | refine V.aload_n (pc := 36) d_J_finishUpwards_36 rfl ?_
          refine Vc.get_B (pc := 37) d_J_finishUpwards_37 g_J_109 hC (by first | assumption | omega | (simp [up, up_f] <;> omega)) rfl ?_
          rw [f16]
          first | refine V.astore_nR (pc := 40) d_J_finishUpwards_40 (by decide) ?_ | refine V.astore_n (pc := 40) d_J_finishUpwards_40 (by decide) ?_
          refine Vi.iinc (pc := 41) d_J_finishUpwards_41 rfl (by decide) ?_
          refine V.goto (pc := 44) (tgt := 4) d_J_finishUpwards_44 (by decide) ?_
          refine V.lop (ih (z_fin2 S k) (S 16 k) (l + 1) _ hP2' F.1 (hE.cg fun f i hf => ?_) F.2.1 (by omega) (by omega) (by omega) (by omega)) ⟨rfl, rfl, rfl, trivial⟩
          rcases hf with rfl | rfl | rfl
          · exact z_fin2_o hI ⟨c_11, k2⟩ hc2.2.1 (hen.1 hc2.2.2.1) 1 i (by decide) (by decide) (by decide) (by decide) (by decide) (by decide) (by decide) (by decide) (by decide) (by decide) (by decide)
          · exact F.2.2.2.2.1 i
          · exact F.2.2.2.2.2 i
        · refine V.return_ (pc := 21) d_J_finishUpwards_21 rfl ?_
          refine ⟨rfl, ?_⟩
          rw [zfin, if_neg (fun z => by have := hcond.2 z; omega)]
          exact hP'
theorem k_finishUpwards {j : Int} (hP : PR w am S g b hs) (hI : Iv S) (hE : En (-1) S) (hB : Bd 25 S) (hj : 0 ≤ j ∧ j < S 1 0) : V jcl w m_J_finishUpwards (d + 28) 0 [(0, .ref (am 0 0)), (1, .ref (am 10 j))] [] hs (fun o hs' => o = .inl none ∧ PR w am (zfin 24 S j) g b hs') := by
  first | refine V.aload_nR (pc := 0) d_J_finishUpwards_0 rfl ?_ | refine V.aload_n (pc := 0) d_J_finishUpwards_0 rfl ?_
  first | refine V.astore_nR (pc := 1) d_J_finishUpwards_1 (by decide) ?_ | refine V.astore_n (pc := 1) d_J_finishUpwards_1 (by decide) ?_
  refine Vi.iconst (pc := 2) d_J_finishUpwards_2 ?_
  refine V.istore_n (pc := 3) d_J_finishUpwards_3 (by decide) ?_
  refine V.lop (k_up (d := d) 24 S j 0 hs hP hI hE hB (by omega) hj.2 (by omega) (by omega)) ⟨rfl, ?_, rfl, trivial⟩
  rw [rj_pos hj.1]
  rfl
end KB
