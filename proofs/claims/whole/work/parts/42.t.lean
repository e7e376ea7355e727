/-! the class at the reference's state: the clock -/
section KD
variable {w : jw} {d : Nat} {hs : jh} {am : Nat → Int → Nat} {C S T : js} {g : Nat → Option va_E} {b : Nat × Nat}
theorem c_nd (hC : RepC w am C g b hs) (hT : Tj C) (hJ : 0 ≤ C 1 0 ∧ C 1 0 ≤ 24) : ∀ (n : Nat) (k r : Int), 0 ≤ k → k ≤ C 1 0 → C 1 0 ≤ k + n → NDi C k r →
    V jcl w m_J_nextDueJob (d + 2) 4 [(0, .ref (am 0 0)), (1, .int (ii r)), (2, .int (ii k))] [] hs (fun o hs' => ∃ r : Int, o = .inl (some (.int (ii r))) ∧ NDi C (C 1 0) r ∧ hs' = hs) := by
  intro n
  induction n with
  | zero =>
    intro k r k1 k2 k3 hN
    have hk : k = C 1 0 := by omega
    refine V.iload_n (pc := 4) d_J_nextDueJob_4 rfl ?_
    first | refine V.aload_nR (pc := 5) d_J_nextDueJob_5 rfl ?_ | refine V.aload_n (pc := 5) d_J_nextDueJob_5 rfl ?_
    refine Vc.get_J (pc := 6) d_J_nextDueJob_6 g_J_57 hC rfl ?_
    refine Vi.icmp_ge (pc := 9) (tgt := 57) d_J_nextDueJob_9 (by decide) (by first | assumption | decide | omega | (simp [up] <;> omega)) (by first | assumption | decide | omega | (simp [up] <;> omega)) (fun c_9 => ?_) (fun c_9 => ?_)
    · refine V.iload_n (pc := 57) d_J_nextDueJob_57 rfl ?_
      refine Vi.ireturn (pc := 58) d_J_nextDueJob_58 rfl ?_
      exact ⟨r, rfl, hk ▸ hN, rfl⟩
    · omega
  | succ n ih =>
    intro k r k1 k2 k3 hN
    have hr := hN.rng
    have nk : k < C 1 0 → (nx C k = 13 ∨ nx C k = 14) ∧ 0 ≤ k ∧ k < C 1 0 := fun z => ⟨nx_or C k, k1, z⟩
    have nr : 0 ≤ r → k < C 1 0 → (nx C r = 13 ∨ nx C r = 14) ∧ 0 ≤ r ∧ r < C 1 0 := fun z z2 => ⟨nx_or C r, z, by omega⟩
    have tk : ∀ i, 0 ≤ i → i < C 1 0 → jr (C (tdu (nx C i)) i) ∧ jr (C (ttu (nx C i)) i) := fun i z1 z2 => by
      have := hT i z1 z2
      rcases nx_or C i with e | e <;> rw [e] <;> simp only [tdu, ttu] <;> simp <;> omega
    refine V.iload_n (pc := 4) d_J_nextDueJob_4 rfl ?_
    first | refine V.aload_nR (pc := 5) d_J_nextDueJob_5 rfl ?_ | refine V.aload_n (pc := 5) d_J_nextDueJob_5 rfl ?_
    refine Vc.get_J (pc := 6) d_J_nextDueJob_6 g_J_57 hC rfl ?_
    refine Vi.icmp_ge (pc := 9) (tgt := 57) d_J_nextDueJob_9 (by decide) (by first | assumption | decide | omega | (simp [up] <;> omega)) (by first | assumption | decide | omega | (simp [up] <;> omega)) (fun c_9 => ?_) (fun c_9 => ?_)
    · refine V.iload_n (pc := 57) d_J_nextDueJob_57 rfl ?_
      refine Vi.ireturn (pc := 58) d_J_nextDueJob_58 rfl ?_
      exact ⟨r, rfl, (by omega : k = C 1 0) ▸ hN, rfl⟩
    · have hk := nk c_9
      have hk1 := tk k k1 c_9
      have nxt : ∀ r', NDi C (k + 1) r' → V jcl w m_J_nextDueJob (d + 2) 51 [(0, .ref (am 0 0)), (1, .int (ii r')), (2, .int (ii k))] [] hs (fun o hs' => ∃ r : Int, o = .inl (some (.int (ii r))) ∧ NDi C (C 1 0) r ∧ hs' = hs) := by
        intro r' hr'
        refine Vi.iinc (pc := 51) d_J_nextDueJob_51 rfl (by decide) ?_
        refine V.goto (pc := 54) (tgt := 4) d_J_nextDueJob_54 (by decide) ?_
        exact V.lop (ih (k + 1) r' (by omega) (by omega) (by omega) hr') ⟨rfl, rfl, rfl, trivial⟩
      first | refine V.aload_nR (pc := 12) d_J_nextDueJob_12 rfl ?_ | refine V.aload_n (pc := 12) d_J_nextDueJob_12 rfl ?_
      refine Vc.get_J (pc := 13) d_J_nextDueJob_13 g_J_18 hC rfl ?_
      refine V.iload_n (pc := 16) d_J_nextDueJob_16 rfl ?_
      refine Vc.ald_jobs (pc := 17) d_J_nextDueJob_17 hC (by first | assumption | omega | (simp [up, up_f] <;> omega)) (by first | assumption | omega | (simp [up, up_f] <;> omega)) ?_
      refine V.callV (pc := 18) d_J_nextDueJob_18 Y_B_nextTimer l_J_294 wi_B_nextTimer wv_B_nextTimer (ci := 3) rfl rfl [] (hC.oB (by first | assumption | omega | (simp [up, up_f] <;> omega))) rfl rfl ⟨by repeat (first | exact trivial | refine ⟨(by first | rfl | exact vrf_cat _), ?_⟩), Nat.le_of_ble_eq_true rfl⟩ ⟨⟨rfl, trivial⟩, Nat.le_of_ble_eq_true rfl⟩ (c_nextTimer hC hk.2 hT) (fun v hs ho => ?_) (fun E hs ho => by simp at ho)
      obtain ⟨ho, rfl⟩ := ho
      cases ho
      first | refine V.astore_nR (pc := 21) d_J_nextDueJob_21 (by decide) ?_ | refine V.astore_n (pc := 21) d_J_nextDueJob_21 (by decide) ?_
      first | refine V.aload_nR (pc := 22) d_J_nextDueJob_22 rfl ?_ | refine V.aload_n (pc := 22) d_J_nextDueJob_22 rfl ?_
      refine V.callV (pc := 23) d_J_nextDueJob_23 Y_T_isRunning l_J_301 wi_T_isRunning wv_T_isRunning (ci := 5) rfl rfl [] (hC.oT (by first | assumption | exact ⟨Or.inl rfl, (by first | assumption | omega | (simp [up, up_f] <;> omega))⟩ | exact ⟨Or.inr rfl, (by first | assumption | omega | (simp [up, up_f] <;> omega))⟩ | (simp [up] <;> omega))) rfl rfl ⟨by repeat (first | exact trivial | refine ⟨(by first | rfl | exact vrf_cat _), ?_⟩), Nat.le_of_ble_eq_true rfl⟩ ⟨⟨rfl, trivial⟩, Nat.le_of_ble_eq_true rfl⟩ (c_isRunning hC hk hk1.1) (fun v hs ho => ?_) (fun E hs ho => by simp at ho)
      obtain ⟨r_23, ho, hr_23, rfl⟩ := ho
      cases ho
      refine Vi.if_eq (pc := 26) (tgt := 51) d_J_nextDueJob_26 (by decide) (by omega) (fun c_26 => ?_) (fun c_26 => ?_)
      · exact V.lop (nxt r (hN.off (by unfold due; omega))) ⟨rfl, rfl, rfl, trivial⟩
      · have hrun : due C k ≠ 2147483647 := by unfold due; omega
        refine V.iload_n (pc := 29) d_J_nextDueJob_29 rfl ?_
        refine Vi.if_lt (pc := 30) (tgt := 49) d_J_nextDueJob_30 (by decide) (by first | assumption | decide | omega | (simp [up] <;> omega)) (fun c_30 => ?_) (fun c_30 => ?_)
        · refine V.iload_n (pc := 49) d_J_nextDueJob_49 rfl ?_
          refine V.istore_n (pc := 50) d_J_nextDueJob_50 (by decide) ?_
          exact V.lop (nxt k (hN.take k1 hrun (Or.inl c_30))) ⟨rfl, rfl, rfl, trivial⟩
        · have hr0 := nr c_30 c_9
          have hr1 := tk r c_30 hr0.2.2
          first | refine V.aload_nR (pc := 33) d_J_nextDueJob_33 rfl ?_ | refine V.aload_n (pc := 33) d_J_nextDueJob_33 rfl ?_
          first | refine V.aload_nR (pc := 34) d_J_nextDueJob_34 rfl ?_ | refine V.aload_n (pc := 34) d_J_nextDueJob_34 rfl ?_
          refine Vc.get_J (pc := 35) d_J_nextDueJob_35 g_J_18 hC rfl ?_
          refine V.iload_n (pc := 38) d_J_nextDueJob_38 rfl ?_
          refine Vc.ald_jobs (pc := 39) d_J_nextDueJob_39 hC (by first | assumption | omega | (simp [up, up_f] <;> omega)) (by first | assumption | omega | (simp [up, up_f] <;> omega)) ?_
          refine V.callV (pc := 40) d_J_nextDueJob_40 Y_B_nextTimer l_J_294 wi_B_nextTimer wv_B_nextTimer (ci := 3) rfl rfl [] (hC.oB (by first | assumption | omega | (simp [up, up_f] <;> omega))) rfl rfl ⟨by repeat (first | exact trivial | refine ⟨(by first | rfl | exact vrf_cat _), ?_⟩), Nat.le_of_ble_eq_true rfl⟩ ⟨⟨rfl, trivial⟩, Nat.le_of_ble_eq_true rfl⟩ (c_nextTimer hC hr0.2 hT) (fun v hs ho => ?_) (fun E hs ho => by simp at ho)
          obtain ⟨ho, rfl⟩ := ho
          cases ho
          refine V.callV (pc := 43) d_J_nextDueJob_43 Y_T_comesBefore l_J_304 wi_T_comesBefore wv_T_comesBefore (ci := 5) rfl rfl [_] (hC.oT (by first | assumption | exact ⟨Or.inl rfl, (by first | assumption | omega | (simp [up, up_f] <;> omega))⟩ | exact ⟨Or.inr rfl, (by first | assumption | omega | (simp [up, up_f] <;> omega))⟩ | (simp [up] <;> omega))) rfl rfl ⟨by repeat (first | exact trivial | refine ⟨(by first | rfl | exact vrf_cat _), ?_⟩), Nat.le_of_ble_eq_true rfl⟩ ⟨⟨rfl, (by first | rfl | exact vrf_cat _), trivial⟩, Nat.le_of_ble_eq_true rfl⟩ (c_comesBefore hC hk hr0 hk1.1 hr1.1 hk1.2 hr1.2) (fun v hs ho => ?_) (fun E hs ho => by simp at ho)
          obtain ⟨r_43, ho, hr_43, rfl⟩ := ho
          cases ho
          refine Vi.if_eq (pc := 46) (tgt := 51) d_J_nextDueJob_46 (by decide) (by omega) (fun c_46 => ?_) (fun c_46 => ?_)
          · exact V.lop (nxt r (hN.skip c_30 (by unfold due tur; omega))) ⟨rfl, rfl, rfl, trivial⟩
          · refine V.iload_n (pc := 49) d_J_nextDueJob_49 rfl ?_
            refine V.istore_n (pc := 50) d_J_nextDueJob_50 (by decide) ?_
            exact V.lop (nxt k (hN.take k1 hrun (Or.inr (by unfold due tur; omega)))) ⟨rfl, rfl, rfl, trivial⟩
theorem c_nextDue (hC : RepC w am C g b hs) (hT : Tj C) (hJ : 0 ≤ C 1 0 ∧ C 1 0 ≤ 24) : V jcl w m_J_nextDueJob (d + 2) 0 [(0, .ref (am 0 0))] [] hs (fun o hs' => ∃ r : Int, o = .inl (some (.int (ii r))) ∧ NDi C (C 1 0) r ∧ hs' = hs) := by
  refine Vi.iconst (pc := 0) d_J_nextDueJob_0 ?_
  refine V.istore_n (pc := 1) d_J_nextDueJob_1 (by decide) ?_
  refine Vi.iconst (pc := 2) d_J_nextDueJob_2 ?_
  refine V.istore_n (pc := 3) d_J_nextDueJob_3 (by decide) ?_
  exact V.lop (c_nd hC hT hJ 24 0 (-1) (by omega) (by omega) (by omega) NDi.zero) ⟨rfl, rfl, rfl, trivial⟩
theorem k_due {c : Int} (hC : RepC w am C g b hs) (hA : Ag C S) (h6 : A6 C) (hI : Iv S) (hT : Tj C) (hD : DM S c (lof C c)) : V jcl w m_J_comeDue (d + 27) 0 [(0, .ref (am 0 0)), (1, .ref (am 10 c))] [] hs (fun o hs' => o = .inl none ∧ PR w am (z_fire S c (lof C c)) g b hs') := by
  have hC1 := hA.j1
  have hJ := hI.J
  have hc := hD.1
  have hc1 : 0 ≤ c ∧ c < C 1 0 := by omega
  have hP : PR w am S g b hs := ⟨C, hC, hA, h6⟩
  have hP2 : ∀ hs, RepC w am (up C 54 c 2147483647) g b hs → PR w am (up S 31 c (-1)) g b hs := fun hs hC => ⟨_, hC, hA.stop, h6.cg fun f i hf => up_f (by omega)⟩
  have h19 : C 19 c = S 19 c := hA.a1 19 c (by unfold cm; omega)
  have hg19 : -1 ≤ S 19 c ∧ S 19 c ≤ 99 := (hI.gd.2.1 c hc.1 hc.2).2.2.1
  have hb := (nx_min C c).2.2.2
  have hinj : am (nx C c) c = am 13 c ↔ nx C c = 13 := by
    constructor
    · intro e
      have hv : vd (C 1 0) (nx C c) c := by
        rcases nx_or C c with z | z <;> rw [z] <;> exact vdB (by decide) hc1
      exact (hC.2.2.1 (nx C c) c 13 c hv (vdB (by decide) hc1) e).1
    · intro e; rw [e]
  have hw := (hI.wt c hc.1 hc.2).2.2.2.2.2.2.2.2.2
  have h2 := hI.tm.1
  have hrm : lof C c = 0 → 0 ≤ S 7 0 ∧ S 7 0 < 24 := fun z => by
    have := hD.2.1
    exact ⟨hI.gd.2.2.1.1, hI.gd.2.2.room hJ.2 (k := c) (by omega) (hI.gd.2.2.nr (by omega))⟩
  have hIl : Iv (up S 31 c (-1)) := hI.limit
  first | refine V.aload_nR (pc := 0) d_J_comeDue_0 rfl ?_ | refine V.aload_n (pc := 0) d_J_comeDue_0 rfl ?_
  refine V.callV (pc := 1) d_J_comeDue_1 Y_B_nextTimer l_J_294 wi_B_nextTimer wv_B_nextTimer (ci := 3) rfl rfl [] (hC.oB (by first | assumption | omega | (simp [up, up_f] <;> omega))) rfl rfl ⟨by repeat (first | exact trivial | refine ⟨(by first | rfl | exact vrf_cat _), ?_⟩), Nat.le_of_ble_eq_true rfl⟩ ⟨⟨rfl, trivial⟩, Nat.le_of_ble_eq_true rfl⟩ (c_nextTimer hC hc1 hT) (fun v hs ho => ?_) (fun E hs ho => by simp at ho)
  obtain ⟨ho, rfl⟩ := ho
  cases ho
  first | refine V.aload_nR (pc := 4) d_J_comeDue_4 rfl ?_ | refine V.aload_n (pc := 4) d_J_comeDue_4 rfl ?_
  refine Vc.get_B (pc := 5) d_J_comeDue_5 g_J_164 hC (by first | assumption | omega | (simp [up, up_f] <;> omega)) rfl ?_
  first | refine Vc.acmp_ne1 (pc := 8) (tgt := 18) d_J_comeDue_8 (by decide) (fun c_8 => ?_) (fun c_8 => ?_) | refine Vc.acmp_ne2 (pc := 8) (tgt := 18) d_J_comeDue_8 (by decide) (fun c_8 => ?_) (fun c_8 => ?_)
  · have hl : lof C c = 1 := by
      have : ¬ nx C c = 13 := fun z => c_8 (hinj.2 z)
      omega
    first | refine V.aload_nR (pc := 18) d_J_comeDue_18 rfl ?_ | refine V.aload_n (pc := 18) d_J_comeDue_18 rfl ?_
    refine Vc.get_B (pc := 19) d_J_comeDue_19 g_J_236 hC (by first | assumption | omega | (simp [up, up_f] <;> omega)) rfl ?_
    refine V.callV (pc := 22) d_J_comeDue_22 Y_T_stop l_J_168 wi_T_stop wv_T_stop (ci := 5) rfl rfl [] (hC.oT (by first | assumption | exact ⟨Or.inl rfl, (by first | assumption | omega | (simp [up, up_f] <;> omega))⟩ | exact ⟨Or.inr rfl, (by first | assumption | omega | (simp [up, up_f] <;> omega))⟩ | (simp [up] <;> omega))) rfl rfl ⟨by repeat (first | exact trivial | refine ⟨(by first | rfl | exact vrf_cat _), ?_⟩), Nat.le_of_ble_eq_true rfl⟩ ⟨⟨rfl, trivial⟩, Nat.le_of_ble_eq_true rfl⟩ (c_stop hC ⟨Or.inr rfl, hc1⟩) (fun v hs ho => ?_) (fun E hs ho => by simp at ho)
    obtain ⟨ho, hC⟩ := ho
    cases ho
    have hC : RepC w am (up C 54 c 2147483647) g b hs := hC
    have hP3 := hP2 _ hC
    have o19 : up C 54 c 2147483647 19 c = S 19 c := by rw [up_f (by decide)]; exact h19
    have o1 : up C 54 c 2147483647 1 0 = C 1 0 := up_f (by decide)
    generalize up C 54 c 2147483647 = D at hC o19 o1
    first | refine V.aload_nR (pc := 25) d_J_comeDue_25 rfl ?_ | refine V.aload_n (pc := 25) d_J_comeDue_25 rfl ?_
    refine Vc.get_B (pc := 26) d_J_comeDue_26 g_J_75 hC (by first | assumption | omega | (simp [up, up_f] <;> omega)) rfl ?_
    rw [o19]
    refine Vi.iconst (pc := 29) d_J_comeDue_29 ?_
    refine Vi.icmp_ne (pc := 30) (tgt := 41) d_J_comeDue_30 (by decide) (by omega) (by decide) (fun c_30 => ?_) (fun c_30 => ?_)
    · refine V.return_ (pc := 41) d_J_comeDue_41 rfl ?_
      refine ⟨rfl, ?_⟩
      unfold z_fire
      rw [if_neg (by omega), if_neg (by omega)]
      exact hP3
    · first | refine V.aload_nR (pc := 33) d_J_comeDue_33 rfl ?_ | refine V.aload_n (pc := 33) d_J_comeDue_33 rfl ?_
      first | refine V.aload_nR (pc := 34) d_J_comeDue_34 rfl ?_ | refine V.aload_n (pc := 34) d_J_comeDue_34 rfl ?_
      refine Vi.bipush (pc := 35) d_J_comeDue_35 (by decide) ?_
      refine Vi.iconst (pc := 37) d_J_comeDue_37 ?_
      refine V.callV (pc := 38) d_J_comeDue_38 Y_J_give l_J_78 wi_J_give wv_J_give (ci := 0) rfl rfl [_, _, _] hC.oJ rfl rfl ⟨by repeat (first | exact trivial | refine ⟨(by first | rfl | exact vrf_cat _), ?_⟩), Nat.le_of_ble_eq_true rfl⟩ ⟨⟨rfl, (by first | rfl | exact vrf_cat _), (by first | rfl | exact vrf_cat _), (by first | rfl | exact vrf_cat _), trivial⟩, Nat.le_of_ble_eq_true rfl⟩ (k_give0 (d := d) hP3 hIl (by rw [up_f (by decide)]; exact hc) (by omega)) (fun v hs ho => ?_) (fun E hs ho => by simp at ho)
      obtain ⟨ho, hP4⟩ := ho
      cases ho
      refine V.return_ (pc := 41) d_J_comeDue_41 rfl ?_
      refine ⟨rfl, ?_⟩
      unfold z_fire
      rw [if_neg (by omega), if_pos (by omega)]
      exact hP4
  · have hl : lof C c = 0 := by
      have := hinj.1 c_8
      omega
    first | refine V.aload_nR (pc := 11) d_J_comeDue_11 rfl ?_ | refine V.aload_n (pc := 11) d_J_comeDue_11 rfl ?_
    first | refine V.aload_nR (pc := 12) d_J_comeDue_12 rfl ?_ | refine V.aload_n (pc := 12) d_J_comeDue_12 rfl ?_
    refine Vi.iconst (pc := 13) d_J_comeDue_13 ?_
    refine V.callV (pc := 14) d_J_comeDue_14 Y_J_makeReady l_J_154 wi_J_makeReady wv_J_makeReady (ci := 0) rfl rfl [_, _] hC.oJ rfl rfl ⟨by repeat (first | exact trivial | refine ⟨(by first | rfl | exact vrf_cat _), ?_⟩), Nat.le_of_ble_eq_true rfl⟩ ⟨⟨rfl, (by first | rfl | exact vrf_cat _), (by first | rfl | exact vrf_cat _), trivial⟩, Nat.le_of_ble_eq_true rfl⟩ (k_ready hP hc (hrm hl)) (fun v hs ho => ?_) (fun E hs ho => by simp at ho)
    obtain ⟨ho, hP4⟩ := ho
    cases ho
    refine V.return_ (pc := 17) d_J_comeDue_17 rfl ?_
    refine ⟨rfl, ?_⟩
    unfold z_fire
    rw [if_pos hl]
    exact hP4
theorem k_lt {m : Int} (hm : 100 ≤ m) : ∀ (q : Nat) (S C : js) (r y : Int) (hs : jh), RepC w am C g b hs → Ag C S → A6 C → Rt m S → NDi C (C 1 0) r → zcT S 25 0 ≤ q → 0 ≤ y → y + q ≤ 60 →
    V jcl w m_J_letTimePass (d + 28) 29 [(0, .ref (am 0 0)), (1, .int (ii r)), (2, .int (ii y))] [] hs (fun o hs' => ∃ (T : js) (n : Nat), o = .inl (some (.int (ii 1))) ∧ PR w am T g b hs' ∧ TDn n S T ∧ Rt m T ∧ zcT T 25 0 ≤ zcT S 25 0 ∧ (0 ≤ r → due C r = S 2 0 → zcT T 25 0 + 1 ≤ zcT S 25 0)) := by
  intro q
  induction q with
  | zero =>
    intro S C r y hs hC hA h6 hR hN hq y1 y2
    have hC1 := hA.j1
    have hI := hR.1
    have hB := hR.2.2.le hm
    have hJ := hI.J
    have hT := hA.tj hI hB
    have hN' : NDi C (S 1 0) r := hC1 ▸ hN
    have hrr := hN.rng
    have hnot : r < 0 ∨ due C r ≠ S 2 0 := by
      by_cases h : r < 0 ∨ due C r ≠ S 2 0
      · exact h
      · exfalso
        have hD := ND.dm hA hI hB hN' (t := S 2 0) (T := S) (by omega) (by omega) (fun _ _ _ => rfl) rfl
        have := (z_fire_ok hR hD).2.2.2
        have := (zcT_b (S := z_fire S r (lof C r)) 25 0).1
        omega
    have fin : V jcl w m_J_letTimePass (d + 28) 83 [(0, .ref (am 0 0))] [] hs (fun o hs' => ∃ (T : js) (n : Nat), o = .inl (some (.int (ii 1))) ∧ PR w am T g b hs' ∧ TDn n S T ∧ Rt m T ∧ zcT T 25 0 ≤ zcT S 25 0 ∧ (0 ≤ r → due C r = S 2 0 → zcT T 25 0 + 1 ≤ zcT S 25 0)) := by
      refine Vi.iconst (pc := 83) d_J_letTimePass_83 ?_
      refine Vi.zreturn (pc := 84) d_J_letTimePass_84 rfl (by omega) ?_
      exact ⟨S, 0, rfl, ⟨C, hC, hA, h6⟩, ⟨⟨hI, hB, ND.dn hA hI hB hN' hnot⟩, rfl⟩, hR, Int.le_refl _, fun z1 z2 => by omega⟩
    have h2 : C 2 0 = S 2 0 := hA.a1 2 0 (by unfold cm; omega)
    have ht2 := hI.tm.1
    have hb2 : jr (S 2 0) := by unfold Bd at hB; omega
    refine V.iload_n (pc := 29) d_J_letTimePass_29 rfl ?_
    refine Vi.sipush (pc := 30) d_J_letTimePass_30 (by decide) ?_
    refine Vi.icmp_ge (pc := 33) (tgt := 83) d_J_letTimePass_33 (by decide) (by first | assumption | decide | omega | (simp [up] <;> omega)) (by first | assumption | decide | omega | (simp [up] <;> omega)) (fun c_33 => ?_) (fun c_33 => ?_)
    · exact V.lop fin ⟨rfl, trivial⟩
    · refine V.iload_n (pc := 36) d_J_letTimePass_36 rfl ?_
      refine Vi.if_lt (pc := 37) (tgt := 83) d_J_letTimePass_37 (by decide) (by first | assumption | decide | omega | (simp [up] <;> omega)) (fun c_37 => ?_) (fun c_37 => ?_)
      · exact V.lop fin ⟨rfl, trivial⟩
      · have hr1 : 0 ≤ r ∧ r < C 1 0 := by omega
        have hrt := hT r hr1.1 hr1.2
        have nk : (nx C r = 13 ∨ nx C r = 14) ∧ 0 ≤ r ∧ r < C 1 0 := ⟨nx_or C r, hr1⟩
        have hdj : jr (C (tdu (nx C r)) r) := by rcases nx_or C r with e | e <;> rw [e] <;> simp only [tdu] <;> simp <;> omega
        first | refine V.aload_nR (pc := 40) d_J_letTimePass_40 rfl ?_ | refine V.aload_n (pc := 40) d_J_letTimePass_40 rfl ?_
        refine Vc.get_J (pc := 41) d_J_letTimePass_41 g_J_18 hC rfl ?_
        refine V.iload_n (pc := 44) d_J_letTimePass_44 rfl ?_
        refine Vc.ald_jobs (pc := 45) d_J_letTimePass_45 hC (by first | assumption | omega | (simp [up, up_f] <;> omega)) (by first | assumption | omega | (simp [up, up_f] <;> omega)) ?_
        refine V.callV (pc := 46) d_J_letTimePass_46 Y_B_nextTimer l_J_294 wi_B_nextTimer wv_B_nextTimer (ci := 3) rfl rfl [] (hC.oB (by first | assumption | omega | (simp [up, up_f] <;> omega))) rfl rfl ⟨by repeat (first | exact trivial | refine ⟨(by first | rfl | exact vrf_cat _), ?_⟩), Nat.le_of_ble_eq_true rfl⟩ ⟨⟨rfl, trivial⟩, Nat.le_of_ble_eq_true rfl⟩ (c_nextTimer hC hr1 hT) (fun v hs ho => ?_) (fun E hs ho => by simp at ho)
        obtain ⟨ho, rfl⟩ := ho
        cases ho
        refine Vc.get_T (pc := 49) d_J_letTimePass_49 g_J_282 hC (by first | assumption | exact ⟨Or.inl rfl, (by first | assumption | omega | (simp [up, up_f] <;> omega))⟩ | exact ⟨Or.inr rfl, (by first | assumption | omega | (simp [up, up_f] <;> omega))⟩ | (simp [up] <;> omega)) rfl ?_
        first | refine V.aload_nR (pc := 52) d_J_letTimePass_52 rfl ?_ | refine V.aload_n (pc := 52) d_J_letTimePass_52 rfl ?_
        refine Vc.get_J (pc := 53) d_J_letTimePass_53 g_J_135 hC rfl ?_
        rw [h2]
        refine Vi.icmp_eq (pc := 56) (tgt := 62) d_J_letTimePass_56 (by decide) (hdj) (hb2) (fun c_56 => ?_) (fun c_56 => ?_)
        · exfalso
          unfold due at hnot
          omega
        · refine V.goto (pc := 59) (tgt := 83) d_J_letTimePass_59 (by decide) ?_
          exact V.lop fin ⟨rfl, trivial⟩
  | succ q ih =>
    intro S C r y hs hC hA h6 hR hN hq y1 y2
    have hC1 := hA.j1
    have hI := hR.1
    have hB := hR.2.2.le hm
    have hJ := hI.J
    have hT := hA.tj hI hB
    have hN' : NDi C (S 1 0) r := hC1 ▸ hN
    have hrr := hN.rng
    have fin : (r < 0 ∨ due C r ≠ S 2 0) → V jcl w m_J_letTimePass (d + 28) 83 [(0, .ref (am 0 0))] [] hs (fun o hs' => ∃ (T : js) (n : Nat), o = .inl (some (.int (ii 1))) ∧ PR w am T g b hs' ∧ TDn n S T ∧ Rt m T ∧ zcT T 25 0 ≤ zcT S 25 0 ∧ (0 ≤ r → due C r = S 2 0 → zcT T 25 0 + 1 ≤ zcT S 25 0)) := by
      intro hnot
      refine Vi.iconst (pc := 83) d_J_letTimePass_83 ?_
      refine Vi.zreturn (pc := 84) d_J_letTimePass_84 rfl (by omega) ?_
      exact ⟨S, 0, rfl, ⟨C, hC, hA, h6⟩, ⟨⟨hI, hB, ND.dn hA hI hB hN' hnot⟩, rfl⟩, hR, Int.le_refl _, fun z1 z2 => by omega⟩
    have h2 : C 2 0 = S 2 0 := hA.a1 2 0 (by unfold cm; omega)
    have ht2 := hI.tm.1
    have hb2 : jr (S 2 0) := by unfold Bd at hB; omega
    refine V.iload_n (pc := 29) d_J_letTimePass_29 rfl ?_
    refine Vi.sipush (pc := 30) d_J_letTimePass_30 (by decide) ?_
    refine Vi.icmp_ge (pc := 33) (tgt := 83) d_J_letTimePass_33 (by decide) (by first | assumption | decide | omega | (simp [up] <;> omega)) (by first | assumption | decide | omega | (simp [up] <;> omega)) (fun c_33 => ?_) (fun c_33 => ?_)
    · omega
    · refine V.iload_n (pc := 36) d_J_letTimePass_36 rfl ?_
      refine Vi.if_lt (pc := 37) (tgt := 83) d_J_letTimePass_37 (by decide) (by first | assumption | decide | omega | (simp [up] <;> omega)) (fun c_37 => ?_) (fun c_37 => ?_)
      · exact V.lop (fin (by omega)) ⟨rfl, trivial⟩
      · have hr1 : 0 ≤ r ∧ r < C 1 0 := by omega
        have hrt := hT r hr1.1 hr1.2
        have nk : (nx C r = 13 ∨ nx C r = 14) ∧ 0 ≤ r ∧ r < C 1 0 := ⟨nx_or C r, hr1⟩
        have hdj : jr (C (tdu (nx C r)) r) := by rcases nx_or C r with e | e <;> rw [e] <;> simp only [tdu] <;> simp <;> omega
        first | refine V.aload_nR (pc := 40) d_J_letTimePass_40 rfl ?_ | refine V.aload_n (pc := 40) d_J_letTimePass_40 rfl ?_
        refine Vc.get_J (pc := 41) d_J_letTimePass_41 g_J_18 hC rfl ?_
        refine V.iload_n (pc := 44) d_J_letTimePass_44 rfl ?_
        refine Vc.ald_jobs (pc := 45) d_J_letTimePass_45 hC (by first | assumption | omega | (simp [up, up_f] <;> omega)) (by first | assumption | omega | (simp [up, up_f] <;> omega)) ?_
        refine V.callV (pc := 46) d_J_letTimePass_46 Y_B_nextTimer l_J_294 wi_B_nextTimer wv_B_nextTimer (ci := 3) rfl rfl [] (hC.oB (by first | assumption | omega | (simp [up, up_f] <;> omega))) rfl rfl ⟨by repeat (first | exact trivial | refine ⟨(by first | rfl | exact vrf_cat _), ?_⟩), Nat.le_of_ble_eq_true rfl⟩ ⟨⟨rfl, trivial⟩, Nat.le_of_ble_eq_true rfl⟩ (c_nextTimer hC hr1 hT) (fun v hs ho => ?_) (fun E hs ho => by simp at ho)
        obtain ⟨ho, rfl⟩ := ho
        cases ho
        refine Vc.get_T (pc := 49) d_J_letTimePass_49 g_J_282 hC (by first | assumption | exact ⟨Or.inl rfl, (by first | assumption | omega | (simp [up, up_f] <;> omega))⟩ | exact ⟨Or.inr rfl, (by first | assumption | omega | (simp [up, up_f] <;> omega))⟩ | (simp [up] <;> omega)) rfl ?_
        first | refine V.aload_nR (pc := 52) d_J_letTimePass_52 rfl ?_ | refine V.aload_n (pc := 52) d_J_letTimePass_52 rfl ?_
        refine Vc.get_J (pc := 53) d_J_letTimePass_53 g_J_135 hC rfl ?_
        rw [h2]
        refine Vi.icmp_eq (pc := 56) (tgt := 62) d_J_letTimePass_56 (by decide) (hdj) (hb2) (fun c_56 => ?_) (fun c_56 => ?_)
        · have hdue : due C r = S 2 0 := by unfold due; exact c_56
          have hD := ND.dm hA hI hB hN' (t := S 2 0) (T := S) (by omega) hdue (fun _ _ _ => rfl) rfl
          have hF := z_fire_ok hR hD
          first | refine V.aload_nR (pc := 62) d_J_letTimePass_62 rfl ?_ | refine V.aload_n (pc := 62) d_J_letTimePass_62 rfl ?_
          first | refine V.aload_nR (pc := 63) d_J_letTimePass_63 rfl ?_ | refine V.aload_n (pc := 63) d_J_letTimePass_63 rfl ?_
          refine Vc.get_J (pc := 64) d_J_letTimePass_64 g_J_18 hC rfl ?_
          refine V.iload_n (pc := 67) d_J_letTimePass_67 rfl ?_
          refine Vc.ald_jobs (pc := 68) d_J_letTimePass_68 hC (by first | assumption | omega | (simp [up, up_f] <;> omega)) (by first | assumption | omega | (simp [up, up_f] <;> omega)) ?_
          refine V.callV (pc := 69) d_J_letTimePass_69 Y_J_comeDue l_J_298 wi_J_comeDue wv_J_comeDue (ci := 0) rfl rfl [_] hC.oJ rfl rfl ⟨by repeat (first | exact trivial | refine ⟨(by first | rfl | exact vrf_cat _), ?_⟩), Nat.le_of_ble_eq_true rfl⟩ ⟨⟨rfl, (by first | rfl | exact vrf_cat _), trivial⟩, Nat.le_of_ble_eq_true rfl⟩ (k_due (d := d) hC hA h6 hI hT hD) (fun v hs ho => ?_) (fun E hs ho => by simp at ho)
          obtain ⟨ho, D, hC, hA2, h62⟩ := ho
          cases ho
          have hD1 := hA2.j1
          have hJ2 := hF.1.1.J
          have hT2 := hA2.tj hF.1.1 (hF.1.2.2.le hm)
          first | refine V.aload_nR (pc := 72) d_J_letTimePass_72 rfl ?_ | refine V.aload_n (pc := 72) d_J_letTimePass_72 rfl ?_
          refine V.callV (pc := 73) d_J_letTimePass_73 Y_J_nextDueJob l_J_291 wi_J_nextDueJob wv_J_nextDueJob (ci := 0) rfl rfl [] hC.oJ rfl rfl ⟨by repeat (first | exact trivial | refine ⟨(by first | rfl | exact vrf_cat _), ?_⟩), Nat.le_of_ble_eq_true rfl⟩ ⟨⟨rfl, trivial⟩, Nat.le_of_ble_eq_true rfl⟩ (c_nextDue (d := d + 25) hC hT2 (by omega)) (fun v hs ho => ?_) (fun E hs ho => by simp at ho)
          obtain ⟨r2, ho, hN2, rfl⟩ := ho
          cases ho
          refine V.istore_n (pc := 76) d_J_letTimePass_76 (by decide) ?_
          refine Vi.iinc (pc := 77) d_J_letTimePass_77 rfl (by decide) ?_
          refine V.goto (pc := 80) (tgt := 29) d_J_letTimePass_80 (by decide) ?_
          refine (V.lop (ih (z_fire S r (lof C r)) D r2 (y + 1) _ hC hA2 h62 hF.1 hN2 (by omega) (by omega) (by omega)) ⟨rfl, rfl, rfl, trivial⟩).post (fun o hs' ho => ?_)
          obtain ⟨T, n, ho, hPT, hTD, hRT, hz, _⟩ := ho
          exact ⟨T, n + 1, ho, hPT, ⟨⟨hI, hB⟩, r, lof C r, hD, hTD⟩, hRT, by omega, fun _ _ => by omega⟩
        · refine V.goto (pc := 59) (tgt := 83) d_J_letTimePass_59 (by decide) ?_
          exact V.lop (fin (Or.inr (by unfold due; exact c_56))) ⟨rfl, trivial⟩
theorem NDi.cg {D : js} {i r : Int} (h : NDi C i r) (e : ∀ f i, (f = 52 ∨ f = 53 ∨ f = 54 ∨ f = 55) → D f i = C f i) : NDi D i r := by
  have en : ∀ k, nx D k = nx C k := fun k => by unfold nx; rw [e 52 k (by omega), e 53 k (by omega), e 54 k (by omega), e 55 k (by omega)]
  have ed : ∀ k, due D k = due C k := fun k => by
    unfold due
    rw [en]
    rcases nx_or C k with z | z <;> rw [z] <;> simp only [tdu] <;> simp
    · exact e 52 k (by omega)
    · exact e 54 k (by omega)
  have et : ∀ k, tur D k = tur C k := fun k => by
    unfold tur
    rw [en]
    rcases nx_or C k with z | z <;> rw [z] <;> simp only [ttu] <;> simp
    · exact e 53 k (by omega)
    · exact e 55 k (by omega)
  unfold NDi at h ⊢
  simp only [ed, et]
  exact h
/-- time passes, or no timer runs -/
theorem k_time {m : Int} (hm : 100 ≤ m) (hP : PR w am S g b hs) (hR : Rt (m + 50) S) : V jcl w m_J_letTimePass (d + 28) 0 [(0, .ref (am 0 0))] [] hs (fun o hs' => (o = .inl (some (.int (ii 0))) ∧ PR w am S g b hs' ∧ z_earliest S < 0) ∨ ∃ T : js, o = .inl (some (.int (ii 1))) ∧ PR w am T g b hs' ∧ TG S T ∧ Rt m T ∧ zcT T 25 0 + 1 ≤ zcT S 25 0) := by
  have hP' := hP
  obtain ⟨C, hC, hA, h6⟩ := hP
  have hC1 := hA.j1
  have hI := hR.1
  have hB := hR.2.2.le (n := 100) (by omega)
  have hJ := hI.J
  have hT := hA.tj hI hB
  first | refine V.aload_nR (pc := 0) d_J_letTimePass_0 rfl ?_ | refine V.aload_n (pc := 0) d_J_letTimePass_0 rfl ?_
  refine V.callV (pc := 1) d_J_letTimePass_1 Y_J_nextDueJob l_J_291 wi_J_nextDueJob wv_J_nextDueJob (ci := 0) rfl rfl [] hC.oJ rfl rfl ⟨by repeat (first | exact trivial | refine ⟨(by first | rfl | exact vrf_cat _), ?_⟩), Nat.le_of_ble_eq_true rfl⟩ ⟨⟨rfl, trivial⟩, Nat.le_of_ble_eq_true rfl⟩ (c_nextDue (d := d + 25) hC hT (by omega)) (fun v hs ho => ?_) (fun E hs ho => by simp at ho)
  obtain ⟨r, ho, hN, rfl⟩ := ho
  cases ho
  have hrr := hN.rng
  have hN' : NDi C (S 1 0) r := hC1 ▸ hN
  refine V.istore_n (pc := 4) d_J_letTimePass_4 (by decide) ?_
  refine V.iload_n (pc := 5) d_J_letTimePass_5 rfl ?_
  refine Vi.if_ge (pc := 6) (tgt := 11) d_J_letTimePass_6 (by decide) (by first | assumption | decide | omega | (simp [up] <;> omega)) (fun c_6 => ?_) (fun c_6 => ?_)
  · have hr1 : 0 ≤ r ∧ r < C 1 0 := by omega
    have E := ND.early hA hI hB hN' c_6
    have K := Rt.clock hA hR hm hN' c_6
    have nk : (nx C r = 13 ∨ nx C r = 14) ∧ 0 ≤ r ∧ r < C 1 0 := ⟨nx_or C r, hr1⟩
    have hd0 : C (tdu (nx C r)) r = z_earliest S := E.2.1
    first | refine V.aload_nR (pc := 11) d_J_letTimePass_11 rfl ?_ | refine V.aload_n (pc := 11) d_J_letTimePass_11 rfl ?_
    first | refine V.aload_nR (pc := 12) d_J_letTimePass_12 rfl ?_ | refine V.aload_n (pc := 12) d_J_letTimePass_12 rfl ?_
    refine Vc.get_J (pc := 13) d_J_letTimePass_13 g_J_18 hC rfl ?_
    refine V.iload_n (pc := 16) d_J_letTimePass_16 rfl ?_
    refine Vc.ald_jobs (pc := 17) d_J_letTimePass_17 hC (by first | assumption | omega | (simp [up, up_f] <;> omega)) (by first | assumption | omega | (simp [up, up_f] <;> omega)) ?_
    refine V.callV (pc := 18) d_J_letTimePass_18 Y_B_nextTimer l_J_294 wi_B_nextTimer wv_B_nextTimer (ci := 3) rfl rfl [] (hC.oB (by first | assumption | omega | (simp [up, up_f] <;> omega))) rfl rfl ⟨by repeat (first | exact trivial | refine ⟨(by first | rfl | exact vrf_cat _), ?_⟩), Nat.le_of_ble_eq_true rfl⟩ ⟨⟨rfl, trivial⟩, Nat.le_of_ble_eq_true rfl⟩ (c_nextTimer hC hr1 hT) (fun v hs ho => ?_) (fun E hs ho => by simp at ho)
    obtain ⟨ho, rfl⟩ := ho
    cases ho
    refine Vc.get_T (pc := 21) d_J_letTimePass_21 g_J_282 hC (by first | assumption | exact ⟨Or.inl rfl, (by first | assumption | omega | (simp [up, up_f] <;> omega))⟩ | exact ⟨Or.inr rfl, (by first | assumption | omega | (simp [up, up_f] <;> omega))⟩ | (simp [up] <;> omega)) rfl ?_
    rw [hd0]
    refine Vc.put_J7 (pc := 24) d_J_letTimePass_24 f_J_135 hC (fun hs hC => ?_)
    refine Vi.iconst (pc := 27) d_J_letTimePass_27 ?_
    refine V.istore_n (pc := 28) d_J_letTimePass_28 (by decide) ?_
    have hA2 : Ag (up C 2 0 (z_earliest S)) (up S 2 0 (z_earliest S)) := hA.cm1 (by omega)
    have hN2 : NDi (up C 2 0 (z_earliest S)) (up C 2 0 (z_earliest S) 1 0) r := by
      rw [up_f (by decide)]
      exact hN.cg fun f i hf => up_f (by omega)
    have hz := zcT_b (S := up S 2 0 (z_earliest S)) 25 0
    have hz2 := zcT_le K.2 25 0
    refine (V.lop (k_lt (d := d) hm 50 (up S 2 0 (z_earliest S)) (up C 2 0 (z_earliest S)) r 0 _ hC hA2 (h6.cg fun f i hf => up_f (by omega)) K.1 hN2 (by omega) (by omega) (by omega)) ⟨rfl, rfl, rfl, trivial⟩).post (fun o hs' ho => ?_)
    obtain ⟨T, n, ho, hPT, hTD, hRT, hz3, hz4⟩ := ho
    refine Or.inr ⟨T, ho, hPT, ⟨⟨hI, hB⟩, by have := hI.tm.1; omega, n, hTD⟩, hRT, ?_⟩
    have hnx : nx (up C 2 0 (z_earliest S)) r = nx C r := by
      unfold nx
      rw [up_f (by decide), up_f (by decide), up_f (by decide), up_f (by decide)]
    have := hz4 c_6 (by
      unfold due
      rw [hnx, up_s]
      rcases nx_or C r with z | z <;> rw [z] at hd0 ⊢ <;> simp only [tdu] at hd0 ⊢ <;> rw [up_f (by simp)] <;> exact hd0)
    omega
  · refine Vi.iconst (pc := 9) d_J_letTimePass_9 ?_
    refine Vi.zreturn (pc := 10) d_J_letTimePass_10 rfl (by omega) ?_
    exact Or.inl ⟨rfl, hP', ND.none hA hI hB hN' c_6⟩
end KD
