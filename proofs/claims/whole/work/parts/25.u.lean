/-! the reference: run, cancel -/
section RE
variable {w : jw} {d : Nat} {hs : jh} {mo : Nat} {ra : Nat → Nat} {S T : js} {g : Nat → Option va_E} {b : Nat × Nat} {Q : jo → jh → Prop}
def z_shift (S : js) (i : Int) : js := fun f k => if f = 38 ∧ 0 ≤ k ∧ k < i then S 38 (k + 1) else S f k
theorem z_shift_s {i : Int} (hi : 0 ≤ i) : up (z_shift S i) 38 i (z_shift S i 38 (i + 1)) = z_shift S (i + 1) := by
  funext f k
  simp only [z_shift, up]
  by_cases hf : f = 38
  · subst hf
    by_cases hk : k = i
    · subst hk
      simp
      omega
    · by_cases h2 : 0 ≤ k ∧ k < i
      · have h3 : k < i + 1 := by omega
        simp [hk, h2, h3]
      · have h3 : ¬ (0 ≤ k ∧ k < i + 1) := by omega
        simp [hk, h2, h3]
  · simp [hf]
theorem z_shift_0 : z_shift S 0 = S := by
  funext f k
  simp only [z_shift]
  rw [if_neg (by omega)]
/-- the first of the row is taken out -/
def z_take (S : js) : js := up (z_shift (up S 7 0 (S 7 0 - 1)) (S 7 0 - 1)) 4 0 (S 4 0 + 1)
theorem r_shift {n k j q y : Int} (h7 : 0 ≤ S 7 0 ∧ S 7 0 < 24) (kk : ∀ hs, RepR w mo ra (z_shift S (S 7 0)) g b hs → V jcl w m_R_run d 97 [(0, .ref mo), (1, .int (ii n)), (2, .int (ii k)), (3, .int (ii y)), (4, .int (ii j))] [] hs Q) : ∀ (m : Nat) (i : Int) (hs : jh), 0 ≤ i → i ≤ S 7 0 → S 7 0 ≤ i + m → RepR w mo ra (z_shift S i) g b hs →
    V jcl w m_R_run d 66 [(0, .ref mo), (1, .int (ii n)), (2, .int (ii k)), (3, .int (ii y)), (4, .int (ii j)), (5, .int (ii i))] [] hs Q := by
  intro m
  induction m with
  | zero =>
    intro i hs z1 z2 z3 hR
    have e7 : z_shift S i 7 0 = S 7 0 := by simp [z_shift]
    have hi : i = S 7 0 := by omega
    refine V.iload (pc := 66) d_R_run_66 rfl ?_
    first | refine V.aload_nR (pc := 68) d_R_run_68 rfl ?_ | refine V.aload_n (pc := 68) d_R_run_68 rfl ?_
    refine Vr.get (pc := 69) d_R_run_69 g_R_31 hR rfl ?_
    rw [e7]
    refine Vi.icmp_ge (pc := 72) (tgt := 97) d_R_run_72 (by decide) (by first | assumption | decide | omega | (simp [up] <;> omega)) (by first | assumption | decide | omega | (simp [up] <;> omega)) (fun c_72 => ?_) (fun c_72 => ?_)
    · rw [hi] at hR
      exact V.lop (kk _ hR) ⟨rfl, rfl, rfl, rfl, rfl, trivial⟩
    · omega
  | succ m ih =>
    intro i hs z1 z2 z3 hR
    have e7 : z_shift S i 7 0 = S 7 0 := by simp [z_shift]
    refine V.iload (pc := 66) d_R_run_66 rfl ?_
    first | refine V.aload_nR (pc := 68) d_R_run_68 rfl ?_ | refine V.aload_n (pc := 68) d_R_run_68 rfl ?_
    refine Vr.get (pc := 69) d_R_run_69 g_R_31 hR rfl ?_
    rw [e7]
    refine Vi.icmp_ge (pc := 72) (tgt := 97) d_R_run_72 (by decide) (by first | assumption | decide | omega | (simp [up] <;> omega)) (by first | assumption | decide | omega | (simp [up] <;> omega)) (fun c_72 => ?_) (fun c_72 => ?_)
    · have hi : i = S 7 0 := (by omega)
      rw [hi] at hR
      exact V.lop (kk _ hR) ⟨rfl, rfl, rfl, rfl, rfl, trivial⟩
    · first | refine V.aload_nR (pc := 75) d_R_run_75 rfl ?_ | refine V.aload_n (pc := 75) d_R_run_75 rfl ?_
      refine Vr.get (pc := 76) d_R_run_76 g_R_127 hR rfl ?_
      refine V.iload (pc := 79) d_R_run_79 rfl ?_
      first | refine V.aload_nR (pc := 81) d_R_run_81 rfl ?_ | refine V.aload_n (pc := 81) d_R_run_81 rfl ?_
      refine Vr.get (pc := 82) d_R_run_82 g_R_127 hR rfl ?_
      refine V.iload (pc := 85) d_R_run_85 rfl ?_
      refine Vi.iconst (pc := 87) d_R_run_87 ?_
      refine Vi.iadd (pc := 88) d_R_run_88 ?_
      refine Vr.ald (pc := 89) (n := 24) d_R_run_89 hR (by decide) rfl (by first | assumption | decide | omega | (simp [up] <;> omega)) ?_
      refine Vr.ast (pc := 90) (n := 24) d_R_run_90 hR (by decide) rfl (by first | assumption | decide | omega | (simp [up] <;> omega)) (fun hs hR => ?_)
      rw [z_shift_s z1] at hR
      refine Vi.iinc (pc := 91) d_R_run_91 rfl (by decide) ?_
      refine V.goto (pc := 94) (tgt := 66) d_R_run_94 (by decide) ?_
      exact V.lop (ih (i + 1) _ (by omega) (by omega) (by omega) hR) ⟨rfl, rfl, rfl, rfl, rfl, rfl, trivial⟩
def URn (n : Int) : Nat → Int → js → Int → js → Prop
  | 0, k, S, kk, T => (n ≤ k ∨ Iv S ∧ Bd 100 S ∧ S 7 0 = 0 ∧ z_earliest S < 0) ∧ kk = k ∧ T = S
  | m + 1, k, S, kk, T => k < n ∧ (S 7 0 = 0 ∧ (∃ S1, TG S S1 ∧ URn n m k S1 kk T) ∨ ((0 < S 7 0 ∧ S 7 0 ≤ 24) ∧ 0 ≤ S 38 0 ∧ S 38 0 < 24) ∧ ∃ S1, RS (S 38 0) (z_res0 (z_take S) (S 38 0)) S1 ∧ URn n m (k + 1) S1 kk T)
/-- run goes from S to T, in kk turns -/
def UR (n : Int) (S : js) (kk : Int) (T : js) : Prop := ∃ m, URn n m 0 S kk T
theorem r_ur {n kk : Int} (hn : 0 ≤ n ∧ n ≤ 100) : ∀ (m : Nat) (k : Int) (S T : js) (hs : jh), URn n m k S kk T → 0 ≤ k → k ≤ 100 → RepR w mo ra S g b hs →
    V jcl w m_R_run (d + 6) 21 [(0, .ref mo), (1, .int (ii n)), (2, .int (ii k)), (3, .int (ii 1))] [] hs (fun o hs' => o = .inl (some (.int (ii kk))) ∧ RepR w mo ra (up T 0 0 0) g b hs') := by
  intro m
  induction m with
  | zero =>
    intro k S T hs hu k1 k2 hR
    obtain ⟨hu, rfl, rfl⟩ := hu
    rcases hu with hu | ⟨h, hB, hq, he⟩
    · refine V.iload_n (pc := 21) d_R_run_21 rfl ?_
      refine V.iload_n (pc := 22) d_R_run_22 rfl ?_
      refine Vi.icmp_ge (pc := 23) (tgt := 119) d_R_run_23 (by decide) (by first | assumption | decide | omega | (simp [up] <;> omega)) (by first | assumption | decide | omega | (simp [up] <;> omega)) (fun c_23 => ?_) (fun c_23 => ?_)
      · first | refine V.aload_nR (pc := 119) d_R_run_119 rfl ?_ | refine V.aload_n (pc := 119) d_R_run_119 rfl ?_
        refine V.iload_n (pc := 120) d_R_run_120 rfl ?_
        refine V.callV (pc := 121) d_R_run_121 Y_R_fine l_R_147 wi_R_fine wv_R_fine (ci := 6) rfl rfl [_] hR.o rfl rfl ⟨by repeat (first | exact trivial | refine ⟨(by first | rfl | exact vrf_cat _), ?_⟩), Nat.le_of_ble_eq_true rfl⟩ ⟨⟨rfl, (by first | rfl | exact vrf_cat _), trivial⟩, Nat.le_of_ble_eq_true rfl⟩ (r_fine hR) (fun v hs ho => ?_) (fun E hs ho => by simp at ho)
        obtain ⟨ho, hR⟩ := ho
        cases ho
        refine Vi.ireturn (pc := 124) d_R_run_124 rfl ?_
        exact ⟨rfl, hR⟩
      · omega
    · refine V.iload_n (pc := 21) d_R_run_21 rfl ?_
      refine V.iload_n (pc := 22) d_R_run_22 rfl ?_
      refine Vi.icmp_ge (pc := 23) (tgt := 119) d_R_run_23 (by decide) (by first | assumption | decide | omega | (simp [up] <;> omega)) (by first | assumption | decide | omega | (simp [up] <;> omega)) (fun c_23 => ?_) (fun c_23 => ?_)
      · first | refine V.aload_nR (pc := 119) d_R_run_119 rfl ?_ | refine V.aload_n (pc := 119) d_R_run_119 rfl ?_
        refine V.iload_n (pc := 120) d_R_run_120 rfl ?_
        refine V.callV (pc := 121) d_R_run_121 Y_R_fine l_R_147 wi_R_fine wv_R_fine (ci := 6) rfl rfl [_] hR.o rfl rfl ⟨by repeat (first | exact trivial | refine ⟨(by first | rfl | exact vrf_cat _), ?_⟩), Nat.le_of_ble_eq_true rfl⟩ ⟨⟨rfl, (by first | rfl | exact vrf_cat _), trivial⟩, Nat.le_of_ble_eq_true rfl⟩ (r_fine hR) (fun v hs ho => ?_) (fun E hs ho => by simp at ho)
        obtain ⟨ho, hR⟩ := ho
        cases ho
        refine Vi.ireturn (pc := 124) d_R_run_124 rfl ?_
        exact ⟨rfl, hR⟩
      · refine V.iload_n (pc := 26) d_R_run_26 rfl ?_
        refine Vi.if_eq (pc := 27) (tgt := 119) d_R_run_27 (by decide) (by decide) (fun c_27 => ?_) (fun c_27 => ?_)
        · first | refine V.aload_nR (pc := 119) d_R_run_119 rfl ?_ | refine V.aload_n (pc := 119) d_R_run_119 rfl ?_
          refine V.iload_n (pc := 120) d_R_run_120 rfl ?_
          refine V.callV (pc := 121) d_R_run_121 Y_R_fine l_R_147 wi_R_fine wv_R_fine (ci := 6) rfl rfl [_] hR.o rfl rfl ⟨by repeat (first | exact trivial | refine ⟨(by first | rfl | exact vrf_cat _), ?_⟩), Nat.le_of_ble_eq_true rfl⟩ ⟨⟨rfl, (by first | rfl | exact vrf_cat _), trivial⟩, Nat.le_of_ble_eq_true rfl⟩ (r_fine hR) (fun v hs ho => ?_) (fun E hs ho => by simp at ho)
          obtain ⟨ho, hR⟩ := ho
          cases ho
          refine Vi.ireturn (pc := 124) d_R_run_124 rfl ?_
          exact ⟨rfl, hR⟩
        · first | refine V.aload_nR (pc := 30) d_R_run_30 rfl ?_ | refine V.aload_n (pc := 30) d_R_run_30 rfl ?_
          refine Vr.get (pc := 31) d_R_run_31 g_R_31 hR rfl ?_
          refine Vi.if_ne (pc := 34) (tgt := 45) d_R_run_34 (by decide) (by first | assumption | decide | omega | (simp [up] <;> omega)) (fun c_34 => ?_) (fun c_34 => ?_)
          · omega
          · first | refine V.aload_nR (pc := 37) d_R_run_37 rfl ?_ | refine V.aload_n (pc := 37) d_R_run_37 rfl ?_
            refine V.callV (pc := 38) d_R_run_38 Y_R_timeGoesOn l_R_221 wi_R_timeGoesOn wv_R_timeGoesOn (ci := 6) rfl rfl [] hR.o rfl rfl ⟨by repeat (first | exact trivial | refine ⟨(by first | rfl | exact vrf_cat _), ?_⟩), Nat.le_of_ble_eq_true rfl⟩ ⟨⟨rfl, trivial⟩, Nat.le_of_ble_eq_true rfl⟩ (r_timeGoesOn0 hR h hB he) (fun v hs ho => ?_) (fun E hs ho => by simp at ho)
            obtain ⟨ho, rfl⟩ := ho
            cases ho
            refine V.istore_n (pc := 41) d_R_run_41 (by decide) ?_
            refine V.goto (pc := 42) (tgt := 21) d_R_run_42 (by decide) ?_
            refine V.iload_n (pc := 21) d_R_run_21 rfl ?_
            refine V.iload_n (pc := 22) d_R_run_22 rfl ?_
            refine Vi.icmp_ge (pc := 23) (tgt := 119) d_R_run_23 (by decide) (by first | assumption | decide | omega | (simp [up] <;> omega)) (by first | assumption | decide | omega | (simp [up] <;> omega)) (fun c_23 => ?_) (fun c_23 => ?_)
            · first | refine V.aload_nR (pc := 119) d_R_run_119 rfl ?_ | refine V.aload_n (pc := 119) d_R_run_119 rfl ?_
              refine V.iload_n (pc := 120) d_R_run_120 rfl ?_
              refine V.callV (pc := 121) d_R_run_121 Y_R_fine l_R_147 wi_R_fine wv_R_fine (ci := 6) rfl rfl [_] hR.o rfl rfl ⟨by repeat (first | exact trivial | refine ⟨(by first | rfl | exact vrf_cat _), ?_⟩), Nat.le_of_ble_eq_true rfl⟩ ⟨⟨rfl, (by first | rfl | exact vrf_cat _), trivial⟩, Nat.le_of_ble_eq_true rfl⟩ (r_fine hR) (fun v hs ho => ?_) (fun E hs ho => by simp at ho)
              obtain ⟨ho, hR⟩ := ho
              cases ho
              refine Vi.ireturn (pc := 124) d_R_run_124 rfl ?_
              exact ⟨rfl, hR⟩
            · refine V.iload_n (pc := 26) d_R_run_26 rfl ?_
              refine Vi.if_eq (pc := 27) (tgt := 119) d_R_run_27 (by decide) (by decide) (fun c_27 => ?_) (fun c_27 => ?_)
              · first | refine V.aload_nR (pc := 119) d_R_run_119 rfl ?_ | refine V.aload_n (pc := 119) d_R_run_119 rfl ?_
                refine V.iload_n (pc := 120) d_R_run_120 rfl ?_
                refine V.callV (pc := 121) d_R_run_121 Y_R_fine l_R_147 wi_R_fine wv_R_fine (ci := 6) rfl rfl [_] hR.o rfl rfl ⟨by repeat (first | exact trivial | refine ⟨(by first | rfl | exact vrf_cat _), ?_⟩), Nat.le_of_ble_eq_true rfl⟩ ⟨⟨rfl, (by first | rfl | exact vrf_cat _), trivial⟩, Nat.le_of_ble_eq_true rfl⟩ (r_fine hR) (fun v hs ho => ?_) (fun E hs ho => by simp at ho)
                obtain ⟨ho, hR⟩ := ho
                cases ho
                refine Vi.ireturn (pc := 124) d_R_run_124 rfl ?_
                exact ⟨rfl, hR⟩
              · exact absurd rfl c_27
  | succ m ih =>
    intro k S T hs hu k1 k2 hR
    obtain ⟨hk, hu⟩ := hu
    refine V.iload_n (pc := 21) d_R_run_21 rfl ?_
    refine V.iload_n (pc := 22) d_R_run_22 rfl ?_
    refine Vi.icmp_ge (pc := 23) (tgt := 119) d_R_run_23 (by decide) (by first | assumption | decide | omega | (simp [up] <;> omega)) (by first | assumption | decide | omega | (simp [up] <;> omega)) (fun c_23 => ?_) (fun c_23 => ?_)
    · omega
    · refine V.iload_n (pc := 26) d_R_run_26 rfl ?_
      refine Vi.if_eq (pc := 27) (tgt := 119) d_R_run_27 (by decide) (by decide) (fun c_27 => ?_) (fun c_27 => ?_)
      · exact absurd c_27 (by decide)
      · first | refine V.aload_nR (pc := 30) d_R_run_30 rfl ?_ | refine V.aload_n (pc := 30) d_R_run_30 rfl ?_
        refine Vr.get (pc := 31) d_R_run_31 g_R_31 hR rfl ?_
        rcases hu with ⟨hq, S1, hT, hu⟩ | ⟨hq, S1, hS, hu⟩
        · refine Vi.if_ne (pc := 34) (tgt := 45) d_R_run_34 (by decide) (by first | assumption | decide | omega | (simp [up] <;> omega)) (fun c_34 => ?_) (fun c_34 => ?_)
          · omega
          · first | refine V.aload_nR (pc := 37) d_R_run_37 rfl ?_ | refine V.aload_n (pc := 37) d_R_run_37 rfl ?_
            refine V.callV (pc := 38) d_R_run_38 Y_R_timeGoesOn l_R_221 wi_R_timeGoesOn wv_R_timeGoesOn (ci := 6) rfl rfl [] hR.o rfl rfl ⟨by repeat (first | exact trivial | refine ⟨(by first | rfl | exact vrf_cat _), ?_⟩), Nat.le_of_ble_eq_true rfl⟩ ⟨⟨rfl, trivial⟩, Nat.le_of_ble_eq_true rfl⟩ (r_timeGoesOn hR hT) (fun v hs ho => ?_) (fun E hs ho => by simp at ho)
            obtain ⟨ho, hR⟩ := ho
            cases ho
            refine V.istore_n (pc := 41) d_R_run_41 (by decide) ?_
            refine V.goto (pc := 42) (tgt := 21) d_R_run_42 (by decide) ?_
            exact V.lop (ih k S1 T _ hu k1 k2 hR) ⟨rfl, rfl, rfl, rfl, trivial⟩
        · refine Vi.if_ne (pc := 34) (tgt := 45) d_R_run_34 (by decide) (by first | assumption | decide | omega | (simp [up] <;> omega)) (fun c_34 => ?_) (fun c_34 => ?_)
          · first | refine V.aload_nR (pc := 45) d_R_run_45 rfl ?_ | refine V.aload_n (pc := 45) d_R_run_45 rfl ?_
            refine Vr.get (pc := 46) d_R_run_46 g_R_127 hR rfl ?_
            refine Vi.iconst (pc := 49) d_R_run_49 ?_
            refine Vr.ald (pc := 50) (n := 24) d_R_run_50 hR (by decide) rfl (by first | assumption | decide | omega | (simp [up] <;> omega)) ?_
            refine V.istore (pc := 51) d_R_run_51 (by decide) ?_
            first | refine V.aload_nR (pc := 53) d_R_run_53 rfl ?_ | refine V.aload_n (pc := 53) d_R_run_53 rfl ?_
            refine V.dup (pc := 54) d_R_run_54 (by first | rfl | exact vrf_cat _) ?_
            refine Vr.get (pc := 55) d_R_run_55 g_R_31 hR rfl ?_
            refine Vi.iconst (pc := 58) d_R_run_58 ?_
            refine Vi.isub (pc := 59) d_R_run_59 ?_
            refine Vr.put7 (pc := 60) d_R_run_60 f_R_31 hR (fun hs hR => ?_)
            refine Vi.iconst (pc := 63) d_R_run_63 ?_
            refine V.istore (pc := 64) d_R_run_64 (by decide) ?_
            refine V.lop (r_shift (S := up S 7 0 (S 7 0 - 1)) (q := 0) (by rw [up_s]; omega) (fun hs hR => ?_) 24 0 _ (by omega) (by rw [up_s]; omega) (by rw [up_s]; omega) (by rw [z_shift_0]; exact hR)) ⟨rfl, rfl, rfl, rfl, rfl, rfl, trivial⟩
            rw [up_s] at hR
            have e4 : z_shift (up S 7 0 (S 7 0 - 1)) (S 7 0 - 1) 4 0 = S 4 0 := by simp [z_shift, up]
            refine Vi.iinc (pc := 97) d_R_run_97 rfl (by decide) ?_
            first | refine V.aload_nR (pc := 100) d_R_run_100 rfl ?_ | refine V.aload_n (pc := 100) d_R_run_100 rfl ?_
            refine V.dup (pc := 101) d_R_run_101 (by first | rfl | exact vrf_cat _) ?_
            refine Vr.get (pc := 102) d_R_run_102 g_R_22 hR rfl ?_
            refine Vi.iconst (pc := 105) d_R_run_105 ?_
            refine Vi.iadd (pc := 106) d_R_run_106 ?_
            refine Vr.put4 (pc := 107) d_R_run_107 f_R_22 hR (fun hs hR => ?_)
            rw [e4] at hR
            first | refine V.aload_nR (pc := 110) d_R_run_110 rfl ?_ | refine V.aload_n (pc := 110) d_R_run_110 rfl ?_
            refine V.iload (pc := 111) d_R_run_111 rfl ?_
            refine V.callV (pc := 113) d_R_run_113 Y_R_resume l_R_224 wi_R_resume wv_R_resume (ci := 6) rfl rfl [_] hR.o rfl rfl ⟨by repeat (first | exact trivial | refine ⟨(by first | rfl | exact vrf_cat _), ?_⟩), Nat.le_of_ble_eq_true rfl⟩ ⟨⟨rfl, (by first | rfl | exact vrf_cat _), trivial⟩, Nat.le_of_ble_eq_true rfl⟩ (r_resume (S := z_take S) hR (by omega) hS) (fun v hs ho => ?_) (fun E hs ho => by simp at ho)
            obtain ⟨ho, hR⟩ := ho
            cases ho
            refine V.goto (pc := 116) (tgt := 21) d_R_run_116 (by decide) ?_
            exact V.lop (ih (k + 1) S1 T _ hu (by omega) (by omega) hR) ⟨rfl, rfl, rfl, rfl, trivial⟩
          · omega
theorem r_run {n kk : Int} (hR : RepR w mo ra S g b hs) (hj : jr n) (hu : UR n S kk T) (hn : 0 ≤ n ∧ n ≤ 100) : V jcl w m_R_run (d + 6) 0 [(0, .ref mo), (1, .int (ii n))] [] hs (fun o hs' => o = .inl (some (.int (ii kk))) ∧ RepR w mo ra (up T 0 0 0) g b hs') := by
  obtain ⟨m, hu⟩ := hu
  first | refine V.aload_nR (pc := 0) d_R_run_0 rfl ?_ | refine V.aload_n (pc := 0) d_R_run_0 rfl ?_
  refine V.iload_n (pc := 1) d_R_run_1 rfl ?_
  refine Vi.iconst (pc := 2) d_R_run_2 ?_
  refine Vi.bipush (pc := 3) d_R_run_3 (by decide) ?_
  refine V.callV (pc := 5) d_R_run_5 Y_R_out l_R_136 wi_R_out wv_R_out (ci := 6) rfl rfl [_, _, _] hR.o rfl rfl ⟨by repeat (first | exact trivial | refine ⟨(by first | rfl | exact vrf_cat _), ?_⟩), Nat.le_of_ble_eq_true rfl⟩ ⟨⟨rfl, (by first | rfl | exact vrf_cat _), (by first | rfl | exact vrf_cat _), (by first | rfl | exact vrf_cat _), trivial⟩, Nat.le_of_ble_eq_true rfl⟩ (r_out hj (by decide) (by decide)) (fun v hs ho => ?_) (fun E hs ho => by simp at ho)
  obtain ⟨r_5, ho, hr_5, rfl⟩ := ho
  cases ho
  refine Vi.if_eq (pc := 8) (tgt := 17) d_R_run_8 (by decide) (by first | assumption | decide | omega | (simp [up] <;> omega)) (fun c_8 => ?_) (fun c_8 => ?_)
  · refine Vi.iconst (pc := 17) d_R_run_17 ?_
    refine V.istore_n (pc := 18) d_R_run_18 (by decide) ?_
    refine Vi.iconst (pc := 19) d_R_run_19 ?_
    refine V.istore_n (pc := 20) d_R_run_20 (by decide) ?_
    exact V.lop (r_ur hn m 0 S T _ hu (by omega) (by omega) hR) ⟨rfl, rfl, rfl, rfl, trivial⟩
  · omega
theorem r_run1 {n : Int} (hR : RepR w mo ra S g b hs) (hj : jr n) (hn : n < 0 ∨ 100 < n) : V jcl w m_R_run (d + 6) 0 [(0, .ref mo), (1, .int (ii n))] [] hs (fun o hs' => o = .inl (some (.int (ii 0))) ∧ RepR w mo ra (up S 0 0 1) g b hs') := by
  first | refine V.aload_nR (pc := 0) d_R_run_0 rfl ?_ | refine V.aload_n (pc := 0) d_R_run_0 rfl ?_
  refine V.iload_n (pc := 1) d_R_run_1 rfl ?_
  refine Vi.iconst (pc := 2) d_R_run_2 ?_
  refine Vi.bipush (pc := 3) d_R_run_3 (by decide) ?_
  refine V.callV (pc := 5) d_R_run_5 Y_R_out l_R_136 wi_R_out wv_R_out (ci := 6) rfl rfl [_, _, _] hR.o rfl rfl ⟨by repeat (first | exact trivial | refine ⟨(by first | rfl | exact vrf_cat _), ?_⟩), Nat.le_of_ble_eq_true rfl⟩ ⟨⟨rfl, (by first | rfl | exact vrf_cat _), (by first | rfl | exact vrf_cat _), (by first | rfl | exact vrf_cat _), trivial⟩, Nat.le_of_ble_eq_true rfl⟩ (r_out hj (by decide) (by decide)) (fun v hs ho => ?_) (fun E hs ho => by simp at ho)
  obtain ⟨r_5, ho, hr_5, rfl⟩ := ho
  cases ho
  refine Vi.if_eq (pc := 8) (tgt := 17) d_R_run_8 (by decide) (by first | assumption | decide | omega | (simp [up] <;> omega)) (fun c_8 => ?_) (fun c_8 => ?_)
  · omega
  · first | refine V.aload_nR (pc := 11) d_R_run_11 rfl ?_ | refine V.aload_n (pc := 11) d_R_run_11 rfl ?_
    refine Vi.iconst (pc := 12) d_R_run_12 ?_
    refine V.callV (pc := 13) d_R_run_13 Y_R_refuse l_R_143 wi_R_refuse wv_R_refuse (ci := 6) rfl rfl [_] hR.o rfl rfl ⟨by repeat (first | exact trivial | refine ⟨(by first | rfl | exact vrf_cat _), ?_⟩), Nat.le_of_ble_eq_true rfl⟩ ⟨⟨rfl, (by first | rfl | exact vrf_cat _), trivial⟩, Nat.le_of_ble_eq_true rfl⟩ (r_refuse hR) (fun v hs ho => ?_) (fun E hs ho => by simp at ho)
    obtain ⟨ho, hR⟩ := ho
    cases ho
    refine Vi.ireturn (pc := 16) d_R_run_16 rfl ?_
    exact ⟨rfl, hR⟩
def z_cancel (S : js) (j : Int) : Int × Int × js := if j < 0 ∨ S 1 0 ≤ j then (1, 0, S) else (0, if S 25 j = 0 ∧ S 19 j < 0 then 1 else 0, z_give S j 0)
theorem r_cancel {j : Int} (hR : RepR w mo ra S g b hs) (hj : jr j) (h : Iv S) : V jcl w m_R_cancel (d + 2) 0 [(0, .ref mo), (1, .int (ii j))] [] hs (fun o hs' => o = .inl (some (.int (ii (z_cancel S j).2.1))) ∧ RepR w mo ra (up (z_cancel S j).2.2 0 0 (z_cancel S j).1) g b hs') := by
  have hJ := h.J
  refine V.iload_n (pc := 0) d_R_cancel_0 rfl ?_
  refine Vi.if_lt (pc := 1) (tgt := 12) d_R_cancel_1 (by decide) (by first | assumption | decide | omega | (simp [up] <;> omega)) (fun c_1 => ?_) (fun c_1 => ?_)
  · first | refine V.aload_nR (pc := 12) d_R_cancel_12 rfl ?_ | refine V.aload_n (pc := 12) d_R_cancel_12 rfl ?_
    refine Vi.iconst (pc := 13) d_R_cancel_13 ?_
    refine V.callV (pc := 14) d_R_cancel_14 Y_R_refuse l_R_143 wi_R_refuse wv_R_refuse (ci := 6) rfl rfl [_] hR.o rfl rfl ⟨by repeat (first | exact trivial | refine ⟨(by first | rfl | exact vrf_cat _), ?_⟩), Nat.le_of_ble_eq_true rfl⟩ ⟨⟨rfl, (by first | rfl | exact vrf_cat _), trivial⟩, Nat.le_of_ble_eq_true rfl⟩ (r_refuse hR) (fun v hs ho => ?_) (fun E hs ho => by simp at ho)
    obtain ⟨ho, hR⟩ := ho
    cases ho
    refine Vi.ireturn (pc := 17) d_R_cancel_17 rfl ?_
    unfold z_cancel
    (repeat' split) <;> first | exact ⟨rfl, hR⟩ | (exfalso; omega)
  · refine V.iload_n (pc := 4) d_R_cancel_4 rfl ?_
    first | refine V.aload_nR (pc := 5) d_R_cancel_5 rfl ?_ | refine V.aload_n (pc := 5) d_R_cancel_5 rfl ?_
    refine Vr.get (pc := 6) d_R_cancel_6 g_R_13 hR rfl ?_
    refine Vi.icmp_lt (pc := 9) (tgt := 18) d_R_cancel_9 (by decide) (by first | assumption | decide | omega | (simp [up] <;> omega)) (by first | assumption | decide | omega | (simp [up] <;> omega)) (fun c_9 => ?_) (fun c_9 => ?_)
    · first | refine V.aload_nR (pc := 18) d_R_cancel_18 rfl ?_ | refine V.aload_n (pc := 18) d_R_cancel_18 rfl ?_
      first | refine V.aload_nR (pc := 19) d_R_cancel_19 rfl ?_ | refine V.aload_n (pc := 19) d_R_cancel_19 rfl ?_
      refine V.iload_n (pc := 20) d_R_cancel_20 rfl ?_
      refine Vi.iconst (pc := 21) d_R_cancel_21 ?_
      refine V.callV (pc := 22) d_R_cancel_22 Y_R_give l_R_170 wi_R_give wv_R_give (ci := 6) rfl rfl [_, _] hR.o rfl rfl ⟨by repeat (first | exact trivial | refine ⟨(by first | rfl | exact vrf_cat _), ?_⟩), Nat.le_of_ble_eq_true rfl⟩ ⟨⟨rfl, (by first | rfl | exact vrf_cat _), (by first | rfl | exact vrf_cat _), trivial⟩, Nat.le_of_ble_eq_true rfl⟩ (r_give hR h.gd (by omega) (by omega)) (fun v hs ho => ?_) (fun E hs ho => by simp at ho)
      obtain ⟨r_22, ho, hr_22, hR⟩ := ho
      cases ho
      refine Vi.if_eq (pc := 25) (tgt := 32) d_R_cancel_25 (by decide) (by first | assumption | decide | omega | (simp [up] <;> omega)) (fun c_25 => ?_) (fun c_25 => ?_)
      · refine Vi.iconst (pc := 32) d_R_cancel_32 ?_
        refine V.callV (pc := 33) d_R_cancel_33 Y_R_fine l_R_147 wi_R_fine wv_R_fine (ci := 6) rfl rfl [_] hR.o rfl rfl ⟨by repeat (first | exact trivial | refine ⟨(by first | rfl | exact vrf_cat _), ?_⟩), Nat.le_of_ble_eq_true rfl⟩ ⟨⟨rfl, (by first | rfl | exact vrf_cat _), trivial⟩, Nat.le_of_ble_eq_true rfl⟩ (r_fine hR) (fun v hs ho => ?_) (fun E hs ho => by simp at ho)
        obtain ⟨ho, hR⟩ := ho
        cases ho
        refine Vi.ireturn (pc := 36) d_R_cancel_36 rfl ?_
        unfold z_cancel
        (repeat' split) <;> first | exact ⟨rfl, hR⟩ | (exfalso; omega)
      · refine Vi.iconst (pc := 28) d_R_cancel_28 ?_
        refine V.goto (pc := 29) (tgt := 33) d_R_cancel_29 (by decide) ?_
        refine V.callV (pc := 33) d_R_cancel_33 Y_R_fine l_R_147 wi_R_fine wv_R_fine (ci := 6) rfl rfl [_] hR.o rfl rfl ⟨by repeat (first | exact trivial | refine ⟨(by first | rfl | exact vrf_cat _), ?_⟩), Nat.le_of_ble_eq_true rfl⟩ ⟨⟨rfl, (by first | rfl | exact vrf_cat _), trivial⟩, Nat.le_of_ble_eq_true rfl⟩ (r_fine hR) (fun v hs ho => ?_) (fun E hs ho => by simp at ho)
        obtain ⟨ho, hR⟩ := ho
        cases ho
        refine Vi.ireturn (pc := 36) d_R_cancel_36 rfl ?_
        unfold z_cancel
        (repeat' split) <;> first | exact ⟨rfl, hR⟩ | (exfalso; omega)
    · first | refine V.aload_nR (pc := 12) d_R_cancel_12 rfl ?_ | refine V.aload_n (pc := 12) d_R_cancel_12 rfl ?_
      refine Vi.iconst (pc := 13) d_R_cancel_13 ?_
      refine V.callV (pc := 14) d_R_cancel_14 Y_R_refuse l_R_143 wi_R_refuse wv_R_refuse (ci := 6) rfl rfl [_] hR.o rfl rfl ⟨by repeat (first | exact trivial | refine ⟨(by first | rfl | exact vrf_cat _), ?_⟩), Nat.le_of_ble_eq_true rfl⟩ ⟨⟨rfl, (by first | rfl | exact vrf_cat _), trivial⟩, Nat.le_of_ble_eq_true rfl⟩ (r_refuse hR) (fun v hs ho => ?_) (fun E hs ho => by simp at ho)
      obtain ⟨ho, hR⟩ := ho
      cases ho
      refine Vi.ireturn (pc := 17) d_R_cancel_17 rfl ?_
      unfold z_cancel
      (repeat' split) <;> first | exact ⟨rfl, hR⟩ | (exfalso; omega)
end RE
