/-! the face of the class: count, run -/
section KL
variable {w : jw} {d : Nat} {hs : jh} {am : Nat → Int → Nat} {C S T U : js} {g : Nat → Option va_E} {b : Nat × Nat} {j m x a c p n : Int}
theorem c_timers (hC : RepC w am C g b hs) (hA : Ag C S) (hI : Iv S) (hB : Bd 100 S) : ∀ (q : Nat) (k r : Int), 0 ≤ k → k ≤ S 1 0 → S 1 0 ≤ k + q →
    V jcl w m_J_runningTimers (d + 1) 4 [(0, .ref (am 0 0)), (1, .int (ii r)), (2, .int (ii k))] [] hs (fun o hs' => o = .inl (some (.int (ii (r + zcT S (q + 1) k)))) ∧ hs' = hs) := by
  have hC1 := hA.j1
  have hJ := hI.J
  intro q
  induction q with
  | zero =>
    intro k r k1 k2 k3
    refine V.iload_n (pc := 4) d_J_runningTimers_4 rfl ?_
    first | refine V.aload_nR (pc := 5) d_J_runningTimers_5 rfl ?_ | refine V.aload_n (pc := 5) d_J_runningTimers_5 rfl ?_
    refine Vc.get_J (pc := 6) d_J_runningTimers_6 g_J_57 hC rfl ?_
    refine Vi.icmp_ge (pc := 9) (tgt := 64) d_J_runningTimers_9 (by decide) (by first | assumption | decide | omega | (simp [up] <;> omega)) (by first | assumption | decide | omega | (simp [up] <;> omega)) (fun c_9 => ?_) (fun c_9 => ?_)
    · refine V.iload_n (pc := 64) d_J_runningTimers_64 rfl ?_
      refine Vi.ireturn (pc := 65) d_J_runningTimers_65 rfl ?_
      exact ⟨by rw [zcT, if_neg (by omega), Int.add_zero], rfl⟩
    · omega
  | succ q ih =>
    intro k r k1 k2 k3
    have tm : k < S 1 0 → _ := fun z => hA.tm hI hB (k := k) ⟨k1, z⟩
    refine V.iload_n (pc := 4) d_J_runningTimers_4 rfl ?_
    first | refine V.aload_nR (pc := 5) d_J_runningTimers_5 rfl ?_ | refine V.aload_n (pc := 5) d_J_runningTimers_5 rfl ?_
    refine Vc.get_J (pc := 6) d_J_runningTimers_6 g_J_57 hC rfl ?_
    refine Vi.icmp_ge (pc := 9) (tgt := 64) d_J_runningTimers_9 (by decide) (by first | assumption | decide | omega | (simp [up] <;> omega)) (by first | assumption | decide | omega | (simp [up] <;> omega)) (fun c_9 => ?_) (fun c_9 => ?_)
    · refine V.iload_n (pc := 64) d_J_runningTimers_64 rfl ?_
      refine Vi.ireturn (pc := 65) d_J_runningTimers_65 rfl ?_
      exact ⟨by rw [zcT, if_neg (by omega), Int.add_zero], rfl⟩
    · have t := tm (by omega)
      have hk : 0 ≤ k ∧ k < C 1 0 := by omega
      have hj1 : jr (C (tdu 13) k) := by show jr (C 52 k); omega
      have hj2 : jr (C (tdu 14) k) := by show jr (C 54 k); omega
      have e1 : C (tdu 13) k = C 52 k := rfl
      have e2 : C (tdu 14) k = C 54 k := rfl
      have half : ∀ r' : Int, V jcl w m_J_runningTimers (d + 1) 35 [(0, .ref (am 0 0)), (1, .int (ii r')), (2, .int (ii k))] [] hs (fun o hs' => o = .inl (some (.int (ii (r' + (if S 31 k < 0 ∨ S 25 k ≠ 0 then 0 else 1) + zcT S (q + 1) (k + 1))))) ∧ hs' = hs) := by
        intro r'
        refine V.iload_n (pc := 35) d_J_runningTimers_35 rfl ?_
        first | refine V.aload_nR (pc := 36) d_J_runningTimers_36 rfl ?_ | refine V.aload_n (pc := 36) d_J_runningTimers_36 rfl ?_
        refine Vc.get_J (pc := 37) d_J_runningTimers_37 g_J_18 hC rfl ?_
        refine V.iload_n (pc := 40) d_J_runningTimers_40 rfl ?_
        refine Vc.ald_jobs (pc := 41) d_J_runningTimers_41 hC (by first | assumption | omega | (simp [up, up_f] <;> omega)) (by first | assumption | omega | (simp [up, up_f] <;> omega)) ?_
        refine Vc.get_B (pc := 42) d_J_runningTimers_42 g_J_236 hC (by first | assumption | omega | (simp [up, up_f] <;> omega)) rfl ?_
        refine V.callV (pc := 45) d_J_runningTimers_45 Y_T_isRunning l_J_301 wi_T_isRunning wv_T_isRunning (ci := 5) rfl rfl [] (hC.oT (by first | assumption | exact ⟨Or.inl rfl, (by first | assumption | omega | (simp [up, up_f] <;> omega))⟩ | exact ⟨Or.inr rfl, (by first | assumption | omega | (simp [up, up_f] <;> omega))⟩ | (simp [up] <;> omega))) rfl rfl ⟨by repeat (first | exact trivial | refine ⟨(by first | rfl | exact vrf_cat _), ?_⟩), Nat.le_of_ble_eq_true rfl⟩ ⟨⟨rfl, trivial⟩, Nat.le_of_ble_eq_true rfl⟩ (c_isRunning hC ⟨Or.inr rfl, hk⟩ hj2) (fun v hs ho => ?_) (fun E hs ho => by first | (simp at ho; done) | (obtain ⟨_, _, ho, _⟩ := ho; cases ho))
        obtain ⟨r_45, ho, hr_45, rfl⟩ := ho
        cases ho
        refine Vi.if_eq (pc := 48) (tgt := 55) d_J_runningTimers_48 (by decide) (by omega) (fun c_48 => ?_) (fun c_48 => ?_)
        · refine Vi.iconst (pc := 55) d_J_runningTimers_55 ?_
          refine Vi.iadd (pc := 56) d_J_runningTimers_56 ?_
          refine V.istore_n (pc := 57) d_J_runningTimers_57 (by decide) ?_
          refine Vi.iinc (pc := 58) d_J_runningTimers_58 rfl (by decide) ?_
          refine V.goto (pc := 61) (tgt := 4) d_J_runningTimers_61 (by decide) ?_
          rw [if_pos (by omega)]
          exact V.lop (ih (k + 1) (r' + 0) (by omega) (by omega) (by omega)) ⟨rfl, rfl, rfl, trivial⟩
        · refine Vi.iconst (pc := 51) d_J_runningTimers_51 ?_
          refine V.goto (pc := 52) (tgt := 56) d_J_runningTimers_52 (by decide) ?_
          refine Vi.iadd (pc := 56) d_J_runningTimers_56 ?_
          refine V.istore_n (pc := 57) d_J_runningTimers_57 (by decide) ?_
          refine Vi.iinc (pc := 58) d_J_runningTimers_58 rfl (by decide) ?_
          refine V.goto (pc := 61) (tgt := 4) d_J_runningTimers_61 (by decide) ?_
          rw [if_neg (by omega)]
          exact V.lop (ih (k + 1) (r' + 1) (by omega) (by omega) (by omega)) ⟨rfl, rfl, rfl, trivial⟩
      refine V.iload_n (pc := 12) d_J_runningTimers_12 rfl ?_
      first | refine V.aload_nR (pc := 13) d_J_runningTimers_13 rfl ?_ | refine V.aload_n (pc := 13) d_J_runningTimers_13 rfl ?_
      refine Vc.get_J (pc := 14) d_J_runningTimers_14 g_J_18 hC rfl ?_
      refine V.iload_n (pc := 17) d_J_runningTimers_17 rfl ?_
      refine Vc.ald_jobs (pc := 18) d_J_runningTimers_18 hC (by first | assumption | omega | (simp [up, up_f] <;> omega)) (by first | assumption | omega | (simp [up, up_f] <;> omega)) ?_
      refine Vc.get_B (pc := 19) d_J_runningTimers_19 g_J_164 hC (by first | assumption | omega | (simp [up, up_f] <;> omega)) rfl ?_
      refine V.callV (pc := 22) d_J_runningTimers_22 Y_T_isRunning l_J_301 wi_T_isRunning wv_T_isRunning (ci := 5) rfl rfl [] (hC.oT (by first | assumption | exact ⟨Or.inl rfl, (by first | assumption | omega | (simp [up, up_f] <;> omega))⟩ | exact ⟨Or.inr rfl, (by first | assumption | omega | (simp [up, up_f] <;> omega))⟩ | (simp [up] <;> omega))) rfl rfl ⟨by repeat (first | exact trivial | refine ⟨(by first | rfl | exact vrf_cat _), ?_⟩), Nat.le_of_ble_eq_true rfl⟩ ⟨⟨rfl, trivial⟩, Nat.le_of_ble_eq_true rfl⟩ (c_isRunning hC ⟨Or.inl rfl, hk⟩ hj1) (fun v hs ho => ?_) (fun E hs ho => by first | (simp at ho; done) | (obtain ⟨_, _, ho, _⟩ := ho; cases ho))
      obtain ⟨r_22, ho, hr_22, rfl⟩ := ho
      cases ho
      rw [zcT, if_pos (by omega), ← Int.add_assoc, ← Int.add_assoc]
      refine Vi.if_eq (pc := 25) (tgt := 32) d_J_runningTimers_25 (by decide) (by omega) (fun c_25 => ?_) (fun c_25 => ?_)
      · refine Vi.iconst (pc := 32) d_J_runningTimers_32 ?_
        refine Vi.iadd (pc := 33) d_J_runningTimers_33 ?_
        refine V.istore_n (pc := 34) d_J_runningTimers_34 (by decide) ?_
        rw [if_pos (c := S 29 k < 0) (by omega)]
        exact V.lop (half (r + 0)) ⟨rfl, rfl, rfl, trivial⟩
      · refine Vi.iconst (pc := 28) d_J_runningTimers_28 ?_
        refine V.goto (pc := 29) (tgt := 33) d_J_runningTimers_29 (by decide) ?_
        refine Vi.iadd (pc := 33) d_J_runningTimers_33 ?_
        refine V.istore_n (pc := 34) d_J_runningTimers_34 (by decide) ?_
        rw [if_neg (c := S 29 k < 0) (by omega)]
        exact V.lop (half (r + 1)) ⟨rfl, rfl, rfl, trivial⟩
theorem f_count (hP : PR w am S g b hs) (hI : Iv S) (hB : Bd 100 S) (hx : jr x) : V jcl w m_J_count (d + 2) 0 [(0, .ref (am 0 0)), (1, .int (ii x))] [] hs (fun o hs' => o = .inl (some (.int (ii (z_count S x)))) ∧ PR w am S g b hs') := by
  have hP' := hP
  obtain ⟨C, hC, hA, h6⟩ := hP
  have hC1 := hA.j1
  have hJ := hI.J
  have hc : ∀ f i, cm f → C f i = S f i := hA.a1
  have h3 := hc 3 0 (by unfold cm; omega)
  have h2 := hc 2 0 (by unfold cm; omega)
  have h4 := hc 4 0 (by unfold cm; omega)
  have h5 := hc 5 0 (by unfold cm; omega)
  have h57 := hA.a3o.2
  have h61 : C 61 0 = S 7 0 := hA.a5.1
  have rt : V jcl w m_J_runningTimers (d + 1) 0 [(0, .ref (am 0 0))] [] hs (fun o hs' => o = .inl (some (.int (ii (zcT S 25 0)))) ∧ hs' = hs) := by
    have h := c_timers (d := d) hC hA hI hB 24 0 0 (by omega) hJ.1 (by omega)
    rw [Int.zero_add] at h
    refine Vi.iconst (pc := 0) d_J_runningTimers_0 ?_
    refine V.istore_n (pc := 1) d_J_runningTimers_1 (by decide) ?_
    refine Vi.iconst (pc := 2) d_J_runningTimers_2 ?_
    refine V.istore_n (pc := 3) d_J_runningTimers_3 (by decide) ?_
    exact V.lop h ⟨rfl, rfl, rfl, trivial⟩
  have fin : ∀ v : Int, v = z_count S x → (Sum.inl (some (Value.int (ii v))) : jo) = .inl (some (.int (ii (z_count S x)))) ∧ PR w am S g b hs := fun v hv => ⟨by rw [hv], hP'⟩
  refine V.iload_n (pc := 0) d_J_count_0 rfl ?_
  refine Vi.tsw (pc := 1) (tgt := 91) d_J_count_1 (by first | assumption | omega | (simp [up, up_f] <;> omega)) (by decide) (fun s_1 => ?_) (fun n_1 s_1 z_1 => ?_)
  · refine Vi.iconst (pc := 91) d_J_count_91 ?_
    refine Vi.ireturn (pc := 92) d_J_count_92 rfl ?_
    refine fin _ ?_
    unfold z_count zsel
    first | (simp only [s_1]; simp <;> omega) | (rw [if_neg (by omega), if_neg (by omega), if_neg (by omega), if_neg (by omega), if_neg (by omega), if_neg (by omega), if_neg (by omega), if_neg (by omega)])
  · have z_1 : n_1 < 8 := z_1
    have q_1 : n_1 = 0 ∨ n_1 = 1 ∨ n_1 = 2 ∨ n_1 = 3 ∨ n_1 = 4 ∨ n_1 = 5 ∨ n_1 = 6 ∨ n_1 = 7 := by omega
    rcases q_1 with rfl | rfl | rfl | rfl | rfl | rfl | rfl | rfl
    · refine Vi.atpc (pc := 48) (by rfl) ?_
      simp at s_1
      first | refine V.aload_nR (pc := 48) d_J_count_48 rfl ?_ | refine V.aload_n (pc := 48) d_J_count_48 rfl ?_
      refine Vc.get_J (pc := 49) d_J_count_49 g_J_57 hC rfl ?_
      refine Vi.ireturn (pc := 52) d_J_count_52 rfl ?_
      refine fin _ ?_
      unfold z_count zsel
      first | (simp only [s_1]; simp <;> omega) | (rw [if_neg (by omega), if_neg (by omega), if_neg (by omega), if_neg (by omega), if_neg (by omega), if_neg (by omega), if_neg (by omega), if_neg (by omega)])
    · refine Vi.atpc (pc := 53) (by rfl) ?_
      simp at s_1
      first | refine V.aload_nR (pc := 53) d_J_count_53 rfl ?_ | refine V.aload_n (pc := 53) d_J_count_53 rfl ?_
      refine Vc.get_J (pc := 54) d_J_count_54 g_J_132 hC rfl ?_
      refine Vi.ireturn (pc := 57) d_J_count_57 rfl ?_
      refine fin _ ?_
      unfold z_count zsel
      first | (simp only [s_1]; simp <;> omega) | (rw [if_neg (by omega), if_neg (by omega), if_neg (by omega), if_neg (by omega), if_neg (by omega), if_neg (by omega), if_neg (by omega), if_neg (by omega)])
    · refine Vi.atpc (pc := 58) (by rfl) ?_
      simp at s_1
      first | refine V.aload_nR (pc := 58) d_J_count_58 rfl ?_ | refine V.aload_n (pc := 58) d_J_count_58 rfl ?_
      refine Vc.get_J (pc := 59) d_J_count_59 g_J_129 hC rfl ?_
      refine Vi.ireturn (pc := 62) d_J_count_62 rfl ?_
      refine fin _ ?_
      unfold z_count zsel
      first | (simp only [s_1]; simp <;> omega) | (rw [if_neg (by omega), if_neg (by omega), if_neg (by omega), if_neg (by omega), if_neg (by omega), if_neg (by omega), if_neg (by omega), if_neg (by omega)])
    · refine Vi.atpc (pc := 63) (by rfl) ?_
      simp at s_1
      first | refine V.aload_nR (pc := 63) d_J_count_63 rfl ?_ | refine V.aload_n (pc := 63) d_J_count_63 rfl ?_
      refine Vc.get_J (pc := 64) d_J_count_64 g_J_135 hC rfl ?_
      refine Vi.ireturn (pc := 67) d_J_count_67 rfl ?_
      refine fin _ ?_
      unfold z_count zsel
      first | (simp only [s_1]; simp <;> omega) | (rw [if_neg (by omega), if_neg (by omega), if_neg (by omega), if_neg (by omega), if_neg (by omega), if_neg (by omega), if_neg (by omega), if_neg (by omega)])
    · refine Vi.atpc (pc := 68) (by rfl) ?_
      simp at s_1
      first | refine V.aload_nR (pc := 68) d_J_count_68 rfl ?_ | refine V.aload_n (pc := 68) d_J_count_68 rfl ?_
      refine Vc.get_J (pc := 69) d_J_count_69 g_J_25 hC rfl ?_
      refine Vc.get_Q (pc := 72) d_J_count_72 g_J_138 hC rfl ?_
      refine Vi.ireturn (pc := 75) d_J_count_75 rfl ?_
      refine fin _ ?_
      unfold z_count zsel
      first | (simp only [s_1]; simp <;> omega) | (rw [if_neg (by omega), if_neg (by omega), if_neg (by omega), if_neg (by omega), if_neg (by omega), if_neg (by omega), if_neg (by omega), if_neg (by omega)])
    · refine Vi.atpc (pc := 76) (by rfl) ?_
      simp at s_1
      first | refine V.aload_nR (pc := 76) d_J_count_76 rfl ?_ | refine V.aload_n (pc := 76) d_J_count_76 rfl ?_
      refine Vc.get_J (pc := 77) d_J_count_77 g_J_141 hC rfl ?_
      refine Vi.ireturn (pc := 80) d_J_count_80 rfl ?_
      refine fin _ ?_
      unfold z_count zsel
      first | (simp only [s_1]; simp <;> omega) | (rw [if_neg (by omega), if_neg (by omega), if_neg (by omega), if_neg (by omega), if_neg (by omega), if_neg (by omega), if_neg (by omega), if_neg (by omega)])
    · refine Vi.atpc (pc := 81) (by rfl) ?_
      simp at s_1
      first | refine V.aload_nR (pc := 81) d_J_count_81 rfl ?_ | refine V.aload_n (pc := 81) d_J_count_81 rfl ?_
      refine V.callV (pc := 82) d_J_count_82 Y_J_runningTimers l_J_144 wi_J_runningTimers wv_J_runningTimers (ci := 0) rfl rfl [] hC.oJ rfl rfl ⟨by repeat (first | exact trivial | refine ⟨(by first | rfl | exact vrf_cat _), ?_⟩), Nat.le_of_ble_eq_true rfl⟩ ⟨⟨rfl, trivial⟩, Nat.le_of_ble_eq_true rfl⟩ (rt) (fun v hs ho => ?_) (fun E hs ho => by first | (simp at ho; done) | (obtain ⟨_, _, ho, _⟩ := ho; cases ho))
      obtain ⟨ho, rfl⟩ := ho
      cases ho
      refine Vi.ireturn (pc := 85) d_J_count_85 rfl ?_
      refine fin _ ?_
      unfold z_count zsel
      first | (simp only [s_1]; simp <;> omega) | (rw [if_neg (by omega), if_neg (by omega), if_neg (by omega), if_neg (by omega), if_neg (by omega), if_neg (by omega), if_neg (by omega), if_neg (by omega)])
    · refine Vi.atpc (pc := 86) (by rfl) ?_
      simp at s_1
      first | refine V.aload_nR (pc := 86) d_J_count_86 rfl ?_ | refine V.aload_n (pc := 86) d_J_count_86 rfl ?_
      refine Vc.get_J (pc := 87) d_J_count_87 g_J_148 hC rfl ?_
      refine Vi.ireturn (pc := 90) d_J_count_90 rfl ?_
      refine fin _ ?_
      unfold z_count zsel
      first | (simp only [s_1]; simp <;> omega) | (rw [if_neg (by omega), if_neg (by omega), if_neg (by omega), if_neg (by omega), if_neg (by omega), if_neg (by omega), if_neg (by omega), if_neg (by omega)])
theorem Ag.ring0 (h : Ag C S) (hI : Iv S) : (0 ≤ C 60 0 ∧ C 60 0 < 24) ∧ 0 ≤ C 61 0 ∧ C 61 0 ≤ 24 := by
  have a := h.a5
  have q := hI.gd.2.2.1
  exact ⟨a.2.1, by have := a.1; omega, by have := a.1; omega⟩
/-- run's loop -/
theorem k_ur (hm : 100 ≤ m) (hn : 0 ≤ n ∧ n ≤ 100) : ∀ (q : Nat) (am : Nat → Int → Nat) (S : js) (k y : Int) (hs : jh), PR w am S g b hs → Rt (m + 1000 * (1000 - y)) S → zcT S 25 0 + 2 * (n - k) + 1 ≤ q → 0 ≤ k → k ≤ n → 0 ≤ y → y + q ≤ 300 →
    V jcl w m_J_run (d + 32) 22 [(0, .ref (am 0 0)), (1, .int (ii n)), (2, .int (ii k)), (3, .int (ii y))] [] hs (fun o hs' => ∃ (am' : Nat → Int → Nat) (kk : Int) (T : js), o = .inl (some (.int (ii kk))) ∧ am' 0 0 = am 0 0 ∧ PR w am' T g b hs' ∧ (∃ mm, URn n mm k S kk T) ∧ Rt m T) := by
  intro q
  induction q with
  | zero =>
    intro am S k y hs hP hR hq k1 k2 y1 y2
    have := (zcT_b (S := S) 25 0).1
    omega
  | succ q ih =>
    intro am S k y hs hP hR hq k1 k2 y1 y2
    have hP' := hP
    have hz := (zcT_b (S := S) 25 0).1
    obtain ⟨C, hC, hA, h6⟩ := hP
    have hC1 := hA.j1
    have hI := hR.1
    have hJ := hI.J
    have hB := hR.2.2
    have hring := hA.ring0 hI
    have a5 := hA.a5
    have hq7 := hI.gd.2.2.1
    have h61 : C 61 0 = S 7 0 := a5.1
    have fin : (n ≤ k ∨ Iv S ∧ Bd 100 S ∧ S 7 0 = 0 ∧ z_earliest S < 0) → ∀ hs, PR w am S g b hs → V jcl w m_J_run (d + 32) 76 [(2, .int (ii k))] [] hs (fun o hs' => ∃ (am' : Nat → Int → Nat) (kk : Int) (T : js), o = .inl (some (.int (ii kk))) ∧ am' 0 0 = am 0 0 ∧ PR w am' T g b hs' ∧ (∃ mm, URn n mm k S kk T) ∧ Rt m T) := by
      intro hc hs hPs
      refine V.iload_n (pc := 76) d_J_run_76 rfl ?_
      refine Vi.ireturn (pc := 77) d_J_run_77 rfl ?_
      exact ⟨am, k, S, rfl, rfl, hPs, ⟨0, hc, rfl, rfl⟩, hR.1, hR.2.1, hR.2.2.le (by omega)⟩
    refine V.iload_n (pc := 22) d_J_run_22 rfl ?_
    refine Vi.sipush (pc := 23) d_J_run_23 (by decide) ?_
    refine Vi.icmp_ge (pc := 26) (tgt := 76) d_J_run_26 (by decide) (by first | assumption | decide | omega | (simp [up] <;> omega)) (by first | assumption | decide | omega | (simp [up] <;> omega)) (fun c_26 => ?_) (fun c_26 => ?_)
    · omega
    · refine V.iload_n (pc := 29) d_J_run_29 rfl ?_
      refine V.iload_n (pc := 30) d_J_run_30 rfl ?_
      refine Vi.icmp_ge (pc := 31) (tgt := 76) d_J_run_31 (by decide) (by first | assumption | decide | omega | (simp [up] <;> omega)) (by first | assumption | decide | omega | (simp [up] <;> omega)) (fun c_31 => ?_) (fun c_31 => ?_)
      · exact V.lop (fin (Or.inl c_31) _ hP') ⟨rfl, trivial⟩
      · first | refine V.aload_nR (pc := 34) d_J_run_34 rfl ?_ | refine V.aload_n (pc := 34) d_J_run_34 rfl ?_
        refine Vc.get_J (pc := 35) d_J_run_35 g_J_25 hC rfl ?_
        refine V.callV (pc := 38) d_J_run_38 Y_Q_takeFirst l_J_85 wi_Q_takeFirst wv_Q_takeFirst (ci := 2) rfl rfl [] hC.oQ rfl rfl ⟨by repeat (first | exact trivial | refine ⟨(by first | rfl | exact vrf_cat _), ?_⟩), Nat.le_of_ble_eq_true rfl⟩ ⟨⟨rfl, trivial⟩, Nat.le_of_ble_eq_true rfl⟩ (c_takeFirst hC hring) (fun v hs ho => ?_) (fun E hs ho => by first | (simp at ho; done) | (obtain ⟨_, _, ho, _⟩ := ho; cases ho))
        rcases ho with ⟨hz0, ho, rfl⟩ | ⟨hz0, ho, hC2⟩
        · cases ho
          first | refine V.astoreR (pc := 41) d_J_run_41 (by decide) ?_ | refine V.astore (pc := 41) d_J_run_41 (by decide) ?_
          first | refine V.aloadR (pc := 43) d_J_run_43 rfl ?_ | refine V.aload (pc := 43) d_J_run_43 rfl ?_
          refine Vc.ifnull (pc := 45) (tgt := 60) d_J_run_45 (by decide) (fun c_45 => ?_) (fun c_45 => ?_)
          · first | refine V.aload_nR (pc := 60) d_J_run_60 rfl ?_ | refine V.aload_n (pc := 60) d_J_run_60 rfl ?_
            refine V.callV (pc := 61) d_J_run_61 Y_J_letTimePass l_J_93 wi_J_letTimePass wv_J_letTimePass (ci := 0) rfl rfl [] hC.oJ rfl rfl ⟨by repeat (first | exact trivial | refine ⟨(by first | rfl | exact vrf_cat _), ?_⟩), Nat.le_of_ble_eq_true rfl⟩ ⟨⟨rfl, trivial⟩, Nat.le_of_ble_eq_true rfl⟩ (k_time (d := d + 3) (m := m + 1000 * (1000 - (y + 1))) (by omega) hP' ⟨hR.1, hR.2.1, hR.2.2.le (by omega)⟩) (fun v hs ho => ?_) (fun E hs ho => by first | (simp at ho; done) | (obtain ⟨_, _, ho, _⟩ := ho; cases ho))
            rcases ho with ⟨ho, hP2, he⟩ | ⟨T, ho, hP2, hT, hRT, hzT⟩
            · cases ho
              refine Vi.if_ne (pc := 64) (tgt := 70) d_J_run_64 (by decide) (by decide) (fun c_64 => ?_) (fun c_64 => ?_)
              · exact absurd rfl c_64
              · refine V.goto (pc := 67) (tgt := 76) d_J_run_67 (by decide) ?_
                exact V.lop (fin (Or.inr ⟨hI, hB.le (by omega), by omega, he⟩) _ hP2) ⟨rfl, trivial⟩
            · cases ho
              refine Vi.if_ne (pc := 64) (tgt := 70) d_J_run_64 (by decide) (by decide) (fun c_64 => ?_) (fun c_64 => ?_)
              · refine Vi.iinc (pc := 70) d_J_run_70 rfl (by decide) ?_
                refine V.goto (pc := 73) (tgt := 22) d_J_run_73 (by decide) ?_
                refine (V.lop (ih am T k (y + 1) _ hP2 hRT (by omega) k1 k2 (by omega) (by omega)) ⟨rfl, rfl, rfl, rfl, trivial⟩).post (fun o hs' ho => ?_)
                obtain ⟨am', kk, U, q1, q2, q3, ⟨mm, q4⟩, q5⟩ := ho
                exact ⟨am', kk, U, q1, q2, q3, ⟨mm + 1, by omega, Or.inl ⟨by omega, T, hT, q4⟩⟩, q5⟩
              · exact absurd c_64 (by decide)
          · omega
        · cases ho
          have e38 : C 59 (C 60 0) = S 38 0 := by
            have := a5.2.2 0 (by omega) (by omega)
            rw [← this]
            congr 1
            have := a5.2.1
            omega
          rw [e38]
          obtain ⟨t1, t2, t3⟩ := hI.take (by omega)
          have hj := hI.gd.2.2.2.1 0 (by omega) (by omega)
          have hAt := hA.take (by omega)
          have c4 : c_take C 4 0 = C 4 0 := by simp [c_take, up]
          have c1 : c_take C 1 0 = C 1 0 := by simp [c_take, up]
          have eo : ∀ f i, f ≠ 7 → f ≠ 38 → f ≠ 4 → z_take S f i = S f i := fun f i z1 z2 z3 => by simp [z_take, z_shift, up, z1, z2, z3]
          have tq0 : Tq S (z_res0 (z_take S) (S 38 0)) := Tq.cg fun f i hf => by
            have : z_res0 (z_take S) (S 38 0) f i = z_take S f i := by
              unfold z_res0
              rw [up_f (by omega), up_f (by omega), up_f (by omega)]
            rw [this]
            exact eo f i (by omega) (by omega) (by omega)
          rw [← c4] at hAt
          have h62 : A6 (c_take C) := h6.cg fun f i hf => by rcases hf with rfl | rfl <;> simp [c_take, up]
          have kr := k_resume (d := d) (j := S 38 0) (m := m + 1000 * (1000 - (y + 1))) (by omega) hC2 hAt h62 t1 t2 (hR.2.1.cg fun f i hf => eo f i (by omega) (by omega) (by omega)) t3 ((hR.2.2.cg fun f i hf => eo f i (by omega) (by omega) (by omega)).le (by omega))
          have hC := hC2
          have h59 : 0 ≤ S 38 0 := hj.1
          first | refine V.astoreR (pc := 41) d_J_run_41 (by decide) ?_ | refine V.astore (pc := 41) d_J_run_41 (by decide) ?_
          first | refine V.aloadR (pc := 43) d_J_run_43 rfl ?_ | refine V.aload (pc := 43) d_J_run_43 rfl ?_
          refine Vc.ifnull (pc := 45) (tgt := 60) d_J_run_45 (by decide) (fun c_45 => ?_) (fun c_45 => ?_)
          · omega
          · rw [rj_pos c_45]
            first | refine V.aload_nR (pc := 48) d_J_run_48 rfl ?_ | refine V.aload_n (pc := 48) d_J_run_48 rfl ?_
            first | refine V.aloadR (pc := 49) d_J_run_49 rfl ?_ | refine V.aload (pc := 49) d_J_run_49 rfl ?_
            refine V.callV (pc := 51) d_J_run_51 Y_J_resume l_J_89 wi_J_resume wv_J_resume (ci := 0) rfl rfl [_] hC.oJ rfl rfl ⟨by repeat (first | exact trivial | refine ⟨(by first | rfl | exact vrf_cat _), ?_⟩), Nat.le_of_ble_eq_true rfl⟩ ⟨⟨rfl, (by first | rfl | exact vrf_cat _), trivial⟩, Nat.le_of_ble_eq_true rfl⟩ (kr) (fun v hs ho => ?_) (fun E hs ho => by first | (simp at ho; done) | (obtain ⟨_, _, ho, _⟩ := ho; cases ho))
            obtain ⟨am', T, ho, e0, hP2, hRS, hRT, hW⟩ := ho
            cases ho
            have hw2 := tq0.w.tr hW
            unfold Tw at hw2
            refine Vi.iinc (pc := 54) d_J_run_54 rfl (by decide) ?_
            refine V.goto (pc := 57) (tgt := 70) d_J_run_57 (by decide) ?_
            refine Vi.iinc (pc := 70) d_J_run_70 rfl (by decide) ?_
            refine V.goto (pc := 73) (tgt := 22) d_J_run_73 (by decide) ?_
            rw [← e0]
            refine (V.lop (ih am' T (k + 1) (y + 1) _ hP2 hRT (by omega) (by omega) (by omega) (by omega) (by omega)) ⟨rfl, rfl, rfl, rfl, trivial⟩).post (fun o hs' ho => ?_)
            obtain ⟨am2, kk, U, q1, q2, q3, ⟨mm, q4⟩, q5⟩ := ho
            exact ⟨am2, kk, U, q1, q2, q3, ⟨mm + 1, by omega, Or.inr ⟨⟨by omega, by omega, by omega⟩, T, hRS, q4⟩⟩, q5⟩
theorem f_run1 (hP : PR w am S g b hs) (hb : 1 ≤ b.1 ∧ 6 ≤ b.2) (hn : jr n) (hn1 : n < 0 ∨ 100 < n) : V jcl w m_J_run (d + 32) 0 [(0, .ref (am 0 0)), (1, .int (ii n))] [] hs (Fz w (am 0 0) g b S xA (1, 0)) := by
  have hrm := hP.room
  refine V.iload_n (pc := 0) d_J_run_0 rfl ?_
  refine Vi.iconst (pc := 1) d_J_run_1 ?_
  refine Vi.bipush (pc := 2) d_J_run_2 (by decide) ?_
  refine V.callS (pc := 4) d_J_run_4 Y_J_isWithin l_J_82 ws_J_isWithin wn_J_isWithin [_, _, _] rfl rfl ⟨by repeat (first | exact trivial | refine ⟨(by first | rfl | exact vrf_cat _), ?_⟩), Nat.le_of_ble_eq_true rfl⟩ ⟨⟨(by first | rfl | exact vrf_cat _), (by first | rfl | exact vrf_cat _), (by first | rfl | exact vrf_cat _), trivial⟩, Nat.le_of_ble_eq_true rfl⟩ (c_isWithin hn (by decide) (by decide)) (fun v hs ho => ?_) (fun E hs ho => by first | (simp at ho; done) | (obtain ⟨_, _, ho, _⟩ := ho; cases ho))
  obtain ⟨r_4, ho, hr_4, rfl⟩ := ho
  cases ho
  refine Vi.if_ne (pc := 7) (tgt := 18) d_J_run_7 (by decide) (by first | assumption | decide | omega | (simp [up] <;> omega)) (fun c_7 => ?_) (fun c_7 => ?_)
  · omega
  · refine V.throw0 (pc := 10) d_J_run_10 d_J_run_13 d_J_run_14 d_J_run_17 x_J_43 rfl (by omega) (by omega) (by omega) (Nat.le_of_ble_eq_true rfl) ?_
    exact Fz.no (k := 1) hP hb.1 hb.2 (by omega)
theorem f_run (hm : 100 ≤ m) (hP : PR w am S g b hs) (hR : Rt (m + 1000000) S) (hn : 0 ≤ n ∧ n ≤ 100) : V jcl w m_J_run (d + 32) 0 [(0, .ref (am 0 0)), (1, .int (ii n))] [] hs (fun o hs' => ∃ (kk : Int) (T : js), Fz w (am 0 0) g b T xA (0, kk) o hs' ∧ UR n S kk T ∧ Rt m T) := by
  have hz := zcT_b (S := S) 25 0
  refine V.iload_n (pc := 0) d_J_run_0 rfl ?_
  refine Vi.iconst (pc := 1) d_J_run_1 ?_
  refine Vi.bipush (pc := 2) d_J_run_2 (by decide) ?_
  refine V.callS (pc := 4) d_J_run_4 Y_J_isWithin l_J_82 ws_J_isWithin wn_J_isWithin [_, _, _] rfl rfl ⟨by repeat (first | exact trivial | refine ⟨(by first | rfl | exact vrf_cat _), ?_⟩), Nat.le_of_ble_eq_true rfl⟩ ⟨⟨(by first | rfl | exact vrf_cat _), (by first | rfl | exact vrf_cat _), (by first | rfl | exact vrf_cat _), trivial⟩, Nat.le_of_ble_eq_true rfl⟩ (c_isWithin (by omega) (by decide) (by decide)) (fun v hs ho => ?_) (fun E hs ho => by first | (simp at ho; done) | (obtain ⟨_, _, ho, _⟩ := ho; cases ho))
  obtain ⟨r_4, ho, hr_4, rfl⟩ := ho
  cases ho
  refine Vi.if_ne (pc := 7) (tgt := 18) d_J_run_7 (by decide) (by first | assumption | decide | omega | (simp [up] <;> omega)) (fun c_7 => ?_) (fun c_7 => ?_)
  · refine Vi.iconst (pc := 18) d_J_run_18 ?_
    refine V.istore_n (pc := 19) d_J_run_19 (by decide) ?_
    refine Vi.iconst (pc := 20) d_J_run_20 ?_
    refine V.istore_n (pc := 21) d_J_run_21 (by decide) ?_
    refine (V.lop (k_ur (d := d) hm hn 251 am S 0 0 _ hP ⟨hR.1, hR.2.1, hR.2.2.le (by omega)⟩ (by omega) (by omega) (by omega) (by omega) (by omega)) ⟨rfl, rfl, rfl, rfl, trivial⟩).post (fun o hs' ho => ?_)
    obtain ⟨am', kk, T, q1, q2, q3, q4, q5⟩ := ho
    exact ⟨kk, T, ⟨am', q2, q3.le ⟨by show b.1 - 1 ≤ _; omega, by show b.2 - 6 ≤ _; omega⟩, Or.inl ⟨rfl, q1⟩⟩, q4, q5⟩
  · omega
end KL
