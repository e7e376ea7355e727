/-! the class at the reference's state: perform -/
section KI
variable {w : jw} {d : Nat} {hs : jh} {am : Nat → Int → Nat} {C S T U : js} {g : Nat → Option va_E} {b : Nat × Nat} {j m f x a c : Int}
theorem PR.so (h : PR w am S g b hs) {f : Nat} {i v : Int} (hf : f = 0 ∨ f = 8 ∨ f = 9 ∨ f = 10 ∨ f = 28 ∨ f = 39 ∨ f = 40) : PR w am (up S f i v) g b hs := by
  obtain ⟨C, hC, hA, h6⟩ := h
  exact ⟨C, hC, hA.so hf, h6⟩
theorem PR.a2 (h : PR w am S g b hs) : A2 S := by
  obtain ⟨C, hC, hA, h6⟩ := h
  exact hA.a2
/-- what an ACTION leads to -/
def Pz (w : jw) (am : Nat → Int → Nat) (g : Nat → Option va_E) (b : Nat × Nat) (j m : Int) (T U : js) (o : jo) (hs' : jh) : Prop := ∃ (r : Int) (am' : Nat → Int → Nat), o = .inl (some (.int (ii r))) ∧ (am' 0 0 = am 0 0 ∧ am' 10 j = am 10 j) ∧ PR w am' U g b hs' ∧ Pq j m (T 9 0) U r ∧ Tw (if r = -2 then 1 else 0) T U
theorem Ex.two {am' : Nat → Int → Nat} {J : Int} (h : Ex am am' J) (hj : 0 ≤ j ∧ j < J) : am' 0 0 = am 0 0 ∧ am' 10 j = am 10 j := ⟨h 0 0 (vdJ (by decide)), h 10 j (vdB (by decide) hj)⟩
theorem k_launch (hP : PR w am T g b hs) (hK : Kk j (m + 1) T) (h8 : T 8 0 = -1) (ha : 0 ≤ a ∧ a ≤ 9) (hc : 0 ≤ c ∧ c ≤ 2) : V jcl w m_J_launch (d + 4) 0 [(0, .ref (am 0 0)), (1, .ref (am 10 j)), (2, .ref (am 6 a)), (3, .int (ii c))] [] hs (Pz w am g b j m T (if T 1 0 = 24 then up T 8 0 96 else up (z_begin T a j 1) 22 (j * 3 + c) (T 1 0))) := by
  have hP' := hP
  have h2 := hP.a2
  obtain ⟨C, hC, hA, h6⟩ := hP
  have hC1 := hA.j1
  have hJ := hK.1.J
  have hj := hK.2.1.1
  have hrm := Ok.room hK.1 hK.2.1
  first | refine V.aload_nR (pc := 0) d_J_launch_0 rfl ?_ | refine V.aload_n (pc := 0) d_J_launch_0 rfl ?_
  refine Vc.get_J (pc := 1) d_J_launch_1 g_J_57 hC rfl ?_
  refine Vi.bipush (pc := 4) d_J_launch_4 (by decide) ?_
  refine Vi.icmp_lt (pc := 6) (tgt := 12) d_J_launch_6 (by decide) (by first | assumption | decide | omega | (simp [up] <;> omega)) (by first | assumption | decide | omega | (simp [up] <;> omega)) (fun c_6 => ?_) (fun c_6 => ?_)
  · rw [if_neg (by omega)]
    have kb := k_begin (d := d) (p := j) (s := 1) (pr := a) hP' hK.1 (by omega) hrm (by omega)
    rw [rj_pos hj.1] at kb
    first | refine V.aload_nR (pc := 12) d_J_launch_12 rfl ?_ | refine V.aload_n (pc := 12) d_J_launch_12 rfl ?_
    refine Vc.get_B (pc := 13) d_J_launch_13 g_J_123 hC (by first | assumption | omega | (simp [up, up_f] <;> omega)) rfl ?_
    refine V.iload_n (pc := 16) d_J_launch_16 rfl ?_
    first | refine V.aload_nR (pc := 17) d_J_launch_17 rfl ?_ | refine V.aload_n (pc := 17) d_J_launch_17 rfl ?_
    first | refine V.aload_nR (pc := 18) d_J_launch_18 rfl ?_ | refine V.aload_n (pc := 18) d_J_launch_18 rfl ?_
    refine Vi.iconst (pc := 19) d_J_launch_19 ?_
    first | refine V.aload_nR (pc := 20) d_J_launch_20 rfl ?_ | refine V.aload_n (pc := 20) d_J_launch_20 rfl ?_
    refine V.callV (pc := 21) d_J_launch_21 Y_J_begin l_J_60 wi_J_begin wv_J_begin (ci := 0) rfl rfl [_, _, _] hC.oJ rfl rfl ⟨by repeat (first | exact trivial | refine ⟨(by first | rfl | exact vrf_cat _), ?_⟩), Nat.le_of_ble_eq_true rfl⟩ ⟨⟨rfl, (by first | rfl | exact vrf_cat _), (by first | rfl | exact vrf_cat _), (by first | rfl | exact vrf_cat _), trivial⟩, Nat.le_of_ble_eq_true rfl⟩ (kb) (fun v hs ho => ?_) (fun E hs ho => by simp at ho)
    obtain ⟨am', ho, hE, D, hC, hA2, h62⟩ := ho
    cases ho
    have hD1 := hA2.j1
    have e1 := (z_begin_f (S := T) (pr := a) (p := j) (s := 1)).1
    rw [← hE 11 j (vdB (by decide) (by omega))]
    refine Vc.ast_slots (pc := 24) d_J_launch_24 hC (by first | assumption | omega | (simp [up, up_f] <;> omega)) (by first | assumption | omega | (simp [up, up_f] <;> omega)) (by first | assumption | omega | (simp [up, up_f] <;> omega)) (fun hs hC => ?_)
    refine Vi.iconst (pc := 25) d_J_launch_25 ?_
    refine Vi.ireturn (pc := 26) d_J_launch_26 rfl ?_
    refine ⟨-1, am', rfl, hE.two (by omega), ⟨_, hC, hA2.cm1 (by omega), h62.cg fun f i hf => up_f (by omega)⟩, pq_launch hK h8 h2 (by omega) ha hc, ?_⟩
    rw [if_neg (by omega)]
    exact ((Tw.begin (S := T) (pr := a) (p := j) (s := 1) (by omega)).tr (Tq.cg fun f i hf => up_f (by omega)).w).le (by omega)
  · rw [if_pos (by omega)]
    refine Vi.bipush (pc := 9) d_J_launch_9 (by decide) ?_
    refine Vi.ireturn (pc := 11) d_J_launch_11 rfl ?_
    refine ⟨96, am, rfl, ⟨rfl, rfl⟩, hP'.so (by omega), pq_throw hK (by omega), ?_⟩
    rw [if_neg (by omega)]
    exact (Tq.cg fun f i hf => up_f (by omega)).w
theorem k_slot {o : Int} (hP : PR w am T g b hs) (hK : Kk j (m + 1) T) (h8 : T 8 0 = -1) (hx : x = 4 ∨ x = 5) (ho1 : o = -1 ∨ (0 ≤ o ∧ o < T 1 0) ∧ T 16 o = j ∧ T 17 o = 1) : V jcl w m_J_waitForSlot (d + 1) 0 [(0, .ref (am 10 j)), (1, .int (ii x)), (2, va_rf (rj am o))] [] hs (Pz w am g b j m T (z_awaits T j x o)) := by
  have hP' := hP
  obtain ⟨C, hC, hA, h6⟩ := hP
  have hC1 := hA.j1
  have hJ := hK.1.J
  have hj := hK.2.1.1
  first | refine V.aload_nR (pc := 0) d_J_waitForSlot_0 rfl ?_ | refine V.aload_n (pc := 0) d_J_waitForSlot_0 rfl ?_
  refine Vc.ifnonnull (pc := 1) (tgt := 6) d_J_waitForSlot_1 (by decide) (fun c_1 => ?_) (fun c_1 => ?_)
  · have ho := ho1.resolve_left (by omega)
    have h25 : C 25 o = T 25 o := hA.a1 25 o (by unfold cm; omega)
    have h19 : C 19 o = T 19 o := hA.a1 19 o (by unfold cm; omega)
    have h18 : ∀ i, C 18 i = T 18 i := fun i => hA.a1 18 i (by unfold cm; omega)
    have hg := hK.1.gd.2.1 o ho.1.1 ho.1.2
    have hg25 : T 25 o = 0 ∨ T 25 o = 1 := hg.2.2.2.2.2.1
    have hg19 : -1 ≤ T 19 o ∧ T 19 o ≤ 99 := hg.2.2.1
    rw [rj_pos c_1]
    first | refine V.aload_nR (pc := 6) d_J_waitForSlot_6 rfl ?_ | refine V.aload_n (pc := 6) d_J_waitForSlot_6 rfl ?_
    refine Vc.get_B (pc := 7) d_J_waitForSlot_7 g_J_71 hC (by first | assumption | omega | (simp [up, up_f] <;> omega)) rfl ?_
    rw [h25]
    refine Vi.if_ne (pc := 10) (tgt := 26) d_J_waitForSlot_10 (by decide) (by omega) (fun c_10 => ?_) (fun c_10 => ?_)
    · refine V.iload_n (pc := 26) d_J_waitForSlot_26 rfl ?_
      refine Vi.iconst (pc := 27) d_J_waitForSlot_27 ?_
      refine Vi.icmp_ne (pc := 28) (tgt := 35) d_J_waitForSlot_28 (by decide) (by omega) (by decide) (fun c_28 => ?_) (fun c_28 => ?_)
      · first | refine V.aload_nR (pc := 35) d_J_waitForSlot_35 rfl ?_ | refine V.aload_n (pc := 35) d_J_waitForSlot_35 rfl ?_
        first | refine V.aload_nR (pc := 36) d_J_waitForSlot_36 rfl ?_ | refine V.aload_n (pc := 36) d_J_waitForSlot_36 rfl ?_
        refine V.callS (pc := 37) d_J_waitForSlot_37 Y_J_takeOutcome l_J_239 ws_J_takeOutcome wn_J_takeOutcome [_, _] rfl rfl ⟨by repeat (first | exact trivial | refine ⟨(by first | rfl | exact vrf_cat _), ?_⟩), Nat.le_of_ble_eq_true rfl⟩ ⟨⟨(by first | rfl | exact vrf_cat _), (by first | rfl | exact vrf_cat _), trivial⟩, Nat.le_of_ble_eq_true rfl⟩ (c_takeOutcome hC (by omega) (by omega) (by omega)) (fun v hs ho => ?_) (fun E hs ho => by simp at ho)
        obtain ⟨ho2, hC⟩ := ho
        cases ho2
        refine Vi.ireturn (pc := 40) d_J_waitForSlot_40 rfl ?_
        rw [h19]
        unfold z_awaits
        rw [if_neg (by omega), if_neg (by omega)]
        unfold c_out at hC
        rw [h19] at hC
        by_cases h9 : T 19 o < 0
        · rw [if_pos (by omega)] at hC
          rw [if_pos ⟨by omega, h9⟩]
          rw [h18, h18] at hC
          have e : T 19 o = -1 := by omega
          rw [e]
          refine ⟨-1, am, rfl, ⟨rfl, rfl⟩, ⟨_, hC, hA.cm2 (by omega) hj, h6.cg fun f i hf => up_f (by omega)⟩, pq_sum hK h8, ?_⟩
          rw [if_neg (by omega)]
          exact (Tq.cg fun f i hf => up_f (by omega)).w
        · rw [if_neg (by omega)] at hC
          rw [if_neg (fun z => h9 z.2), if_pos (by omega)]
          refine ⟨T 19 o, am, rfl, ⟨rfl, rfl⟩, PR.so ⟨_, hC, hA, h6⟩ (by omega), pq_throw hK (by omega), ?_⟩
          rw [if_neg (by omega)]
          exact (Tq.cg fun f i hf => up_f (by omega)).w
      · refine Vi.iconst (pc := 31) d_J_waitForSlot_31 ?_
        refine V.goto (pc := 32) (tgt := 40) d_J_waitForSlot_32 (by decide) ?_
        refine Vi.ireturn (pc := 40) d_J_waitForSlot_40 rfl ?_
        unfold z_awaits
        rw [if_neg (by omega), if_neg (by omega), if_neg (by omega), if_neg (by omega)]
        refine ⟨-1, am, rfl, ⟨rfl, rfl⟩, hP', pq_same hK h8, ?_⟩
        rw [if_neg (by omega)]
        exact Tq.rf.w
    · first | refine V.aload_nR (pc := 13) d_J_waitForSlot_13 rfl ?_ | refine V.aload_n (pc := 13) d_J_waitForSlot_13 rfl ?_
      refine V.iload_n (pc := 14) d_J_waitForSlot_14 rfl ?_
      refine Vc.put_B13 (pc := 15) d_J_waitForSlot_15 f_J_158 hC (by first | assumption | omega | (simp [up, up_f] <;> omega)) (fun hs hC => ?_)
      first | refine V.aload_nR (pc := 18) d_J_waitForSlot_18 rfl ?_ | refine V.aload_n (pc := 18) d_J_waitForSlot_18 rfl ?_
      first | refine V.aload_nR (pc := 19) d_J_waitForSlot_19 rfl ?_ | refine V.aload_n (pc := 19) d_J_waitForSlot_19 rfl ?_
      first | refine Vc.put_B14n (pc := 20) d_J_waitForSlot_20 f_J_161 hC (by first | assumption | omega | (simp [up, up_f] <;> omega)) (fun hs hC => ?_) | refine Vc.put_B14 (pc := 20) d_J_waitForSlot_20 f_J_161 hC (by first | assumption | omega | (simp [up, up_f] <;> omega)) (by first | assumption | omega | (simp [up, up_f] <;> omega)) (fun hs hC => ?_)
      refine Vi.bipush (pc := 23) d_J_waitForSlot_23 (by decide) ?_
      refine Vi.ireturn (pc := 25) d_J_waitForSlot_25 rfl ?_
      unfold z_awaits
      rw [if_neg (by omega), if_pos c_10]
      refine ⟨-2, am, rfl, ⟨rfl, rfl⟩, ⟨_, hC, hA.await hj hx, h6.cg fun f i hf => by rw [up_f (by omega), up_f (by omega)]⟩, pq_wait hK hx ⟨ho.1, ho.2.1, c_10, ho.2.2⟩, ?_⟩
      rw [if_pos rfl]
      exact (Tw.wait hj.1).le (by omega)
  · refine Vi.iconst (pc := 4) d_J_waitForSlot_4 ?_
    refine Vi.ireturn (pc := 5) d_J_waitForSlot_5 rfl ?_
    unfold z_awaits
    rw [if_pos c_1]
    refine ⟨-1, am, rfl, ⟨rfl, rfl⟩, hP', pq_same hK h8, ?_⟩
    rw [if_neg (by omega)]
    exact Tq.rf.w
theorem k_wnew {pr tm : Int} (hP : PR w am T g b hs) (hK : Kk j (m + 1) T) (hx : x = 8 ∧ (0 ≤ a ∧ a ≤ 9) ∨ x = 9 ∧ (0 ≤ a ∧ a ≤ 9) ∨ x = 10 ∧ (1 ≤ a ∧ a ≤ 50) ∧ (0 ≤ c ∧ c ≤ 9)) (ht : x = 10 ∧ tm = a ∧ pr = c ∨ x ≠ 10 ∧ tm = 2147483647 ∧ pr = a) : V jcl w m_J_waitForNew (d + 4) 0 [(0, .ref (am 0 0)), (1, .ref (am 10 j)), (2, .int (ii x)), (3, .int (ii (x - 6))), (4, .ref (am 6 pr)), (5, .int (ii tm))] [] hs (Pz w am g b j m T (if T 1 0 = 24 then up T 8 0 96 else z_scope T j x a c)) := by
  have hP' := hP
  have h2 := hP.a2
  obtain ⟨C, hC, hA, h6⟩ := hP
  have hC1 := hA.j1
  have hI := hK.1
  have hJ := hI.J
  have hj := hK.2.1.1
  have hrm := Ok.room hI hK.2.1
  have ht0 := hI.tm.1
  have a2 := h2 (T 1 0) (Int.le_refl _)
  first | refine V.aload_nR (pc := 0) d_J_waitForNew_0 rfl ?_ | refine V.aload_n (pc := 0) d_J_waitForNew_0 rfl ?_
  refine Vc.get_J (pc := 1) d_J_waitForNew_1 g_J_57 hC rfl ?_
  refine Vi.bipush (pc := 4) d_J_waitForNew_4 (by decide) ?_
  refine Vi.icmp_lt (pc := 6) (tgt := 12) d_J_waitForNew_6 (by decide) (by first | assumption | decide | omega | (simp [up] <;> omega)) (by first | assumption | decide | omega | (simp [up] <;> omega)) (fun c_6 => ?_) (fun c_6 => ?_)
  · rw [if_neg (by omega)]
    have kb := k_begin (d := d) (p := j) (s := x - 6) (pr := pr) hP' hI (by omega) hrm (by omega)
    rw [rj_pos hj.1] at kb
    have fin : ∀ (am' : Nat → Int → Nat) (hs : jh), Ex am am' (T 1 0) → PR w am' (z_scope T j x a c) g b hs → Pz w am g b j m T (z_scope T j x a c) (.inl (some (.int (ii (-2))))) hs := fun am' hs hE hPs => by
      refine ⟨-2, am', rfl, hE.two (by omega), hPs, pq_scope hK h2 (by omega) hx, ?_⟩
      rw [if_pos rfl]
      exact Tw.scope (by omega) hj.1
    first | refine V.aload_nR (pc := 12) d_J_waitForNew_12 rfl ?_ | refine V.aload_n (pc := 12) d_J_waitForNew_12 rfl ?_
    first | refine V.aload_nR (pc := 13) d_J_waitForNew_13 rfl ?_ | refine V.aload_n (pc := 13) d_J_waitForNew_13 rfl ?_
    refine V.iload_n (pc := 14) d_J_waitForNew_14 rfl ?_
    first | refine V.aloadR (pc := 15) d_J_waitForNew_15 rfl ?_ | refine V.aload (pc := 15) d_J_waitForNew_15 rfl ?_
    refine V.callV (pc := 17) d_J_waitForNew_17 Y_J_begin l_J_60 wi_J_begin wv_J_begin (ci := 0) rfl rfl [_, _, _] hC.oJ rfl rfl ⟨by repeat (first | exact trivial | refine ⟨(by first | rfl | exact vrf_cat _), ?_⟩), Nat.le_of_ble_eq_true rfl⟩ ⟨⟨rfl, (by first | rfl | exact vrf_cat _), (by first | rfl | exact vrf_cat _), (by first | rfl | exact vrf_cat _), trivial⟩, Nat.le_of_ble_eq_true rfl⟩ (kb) (fun v hs ho => ?_) (fun E hs ho => by simp at ho)
    obtain ⟨am', ho, hE, D, hC, hA2, h62⟩ := ho
    cases ho
    have hD1 := hA2.j1
    have e1 := (z_begin_f (S := T) (pr := pr) (p := j) (s := x - 6)).1
    have eT := hE.two (j := j) (by omega)
    rw [← eT.1, ← eT.2]
    first | refine V.astoreR (pc := 20) d_J_waitForNew_20 (by decide) ?_ | refine V.astore (pc := 20) d_J_waitForNew_20 (by decide) ?_
    refine V.iload (pc := 22) d_J_waitForNew_22 rfl ?_
    refine Vc.ldcw (pc := 24) (n := 2147483647) d_J_waitForNew_24 n_J_273 (by decide) ?_
    refine Vi.icmp_eq (pc := 27) (tgt := 41) d_J_waitForNew_27 (by decide) (by omega) (by decide) (fun c_27 => ?_) (fun c_27 => ?_)
    · have hx10 : x ≠ 10 := by omega
      have hpr : pr = a := by omega
      first | refine V.aload_nR (pc := 41) d_J_waitForNew_41 rfl ?_ | refine V.aload_n (pc := 41) d_J_waitForNew_41 rfl ?_
      refine V.iload_n (pc := 42) d_J_waitForNew_42 rfl ?_
      refine Vc.put_B13 (pc := 43) d_J_waitForNew_43 f_J_158 hC (by first | assumption | omega | (simp [up, up_f] <;> omega)) (fun hs hC => ?_)
      first | refine V.aload_nR (pc := 46) d_J_waitForNew_46 rfl ?_ | refine V.aload_n (pc := 46) d_J_waitForNew_46 rfl ?_
      first | refine V.aloadR (pc := 47) d_J_waitForNew_47 rfl ?_ | refine V.aload (pc := 47) d_J_waitForNew_47 rfl ?_
      first | refine Vc.put_B14n (pc := 49) d_J_waitForNew_49 f_J_161 hC (by first | assumption | omega | (simp [up, up_f] <;> omega)) (fun hs hC => ?_) | refine Vc.put_B14 (pc := 49) d_J_waitForNew_49 f_J_161 hC (by first | assumption | omega | (simp [up, up_f] <;> omega)) (by first | assumption | omega | (simp [up, up_f] <;> omega)) (fun hs hC => ?_)
      refine Vi.bipush (pc := 52) d_J_waitForNew_52 (by decide) ?_
      refine Vi.ireturn (pc := 54) d_J_waitForNew_54 rfl ?_
      refine fin am' _ hE ⟨_, hC, ?_, h62.cg fun f i hf => by rw [up_f (by omega), up_f (by omega)]⟩
      unfold z_scope
      rw [if_neg hx10, ← hpr]
      exact hA2.await8 (by omega) (by omega)
    · have hx10 : x = 10 := by omega
      have hpr : pr = c := by omega
      have htm : tm = a := by omega
      first | refine V.aload_nR (pc := 30) d_J_waitForNew_30 rfl ?_ | refine V.aload_n (pc := 30) d_J_waitForNew_30 rfl ?_
      first | refine V.aloadR (pc := 31) d_J_waitForNew_31 rfl ?_ | refine V.aload (pc := 31) d_J_waitForNew_31 rfl ?_
      refine Vc.get_B (pc := 33) d_J_waitForNew_33 g_J_236 hC (by first | assumption | omega | (simp [up, up_f] <;> omega)) rfl ?_
      refine V.iload (pc := 36) d_J_waitForNew_36 rfl ?_
      refine V.callV (pc := 38) d_J_waitForNew_38 Y_J_beginTimer l_J_258 wi_J_beginTimer wv_J_beginTimer (ci := 0) rfl rfl [_, _] hC.oJ rfl rfl ⟨by repeat (first | exact trivial | refine ⟨(by first | rfl | exact vrf_cat _), ?_⟩), Nat.le_of_ble_eq_true rfl⟩ ⟨⟨rfl, (by first | rfl | exact vrf_cat _), (by first | rfl | exact vrf_cat _), trivial⟩, Nat.le_of_ble_eq_true rfl⟩ (c_beginTimer hC ⟨Or.inr rfl, by omega⟩) (fun v hs ho => ?_) (fun E hs ho => by simp at ho)
      obtain ⟨ho, hC⟩ := ho
      cases ho
      have q1 : c_timer D 14 (T 1 0) tm 1 0 = D 1 0 := by simp [c_timer, tdu, ttu, up]
      have o : ∀ f i, (f = 2 ∨ f = 6 ∨ f = 25) → z_begin T pr j (x - 6) f i = T f i := fun f i hf => z_begin_o f i (by omega)
      have hL := hA2.limit8 (j := j) (k := T 1 0) (a := tm) (by omega) (by omega) (by rw [o 25 _ (by omega)]; exact a2.2.2.2.1) (by rw [o 2 _ (by omega)]; omega) (by omega) (beg_sn hI)
      rw [o 2 0 (by omega), o 6 0 (by omega)] at hL
      have h63 : A6 (up (up (c_timer D 14 (T 1 0) tm) 50 j 10) 51 j (T 1 0)) := h62.cg fun f i hf => by rw [up_f (by omega), up_f (by omega)]; rcases hf with rfl | rfl <;> simp [c_timer, tdu, ttu, up]
      subst hx10
      have fin2 : ∀ hs, RepC w am' (up (up (c_timer D 14 (T 1 0) tm) 50 j 10) 51 j (T 1 0)) g b hs → Pz w am g b j m T (z_scope T j 10 a c) (.inl (some (.int (ii (-2))))) hs := fun hs hC => by
        refine fin am' hs hE ⟨_, hC, ?_, h63⟩
        unfold z_scope
        rw [if_pos rfl, ← hpr, ← htm]
        exact hL
      have hE1 : c_timer D 14 (T 1 0) tm 1 0 = T 1 0 + 1 := by omega
      clear hL h63 kb fin hA2 h62 q1 o hD1 e1 hA h6 hP' h2 a2
      generalize c_timer D 14 (T 1 0) tm = E at hC fin2 hE1
      have hj7 : 0 ≤ j ∧ j < E 1 0 := by omega
      have hj8 : 0 ≤ j ∧ j < up E 50 j 10 1 0 := by rw [up_f (by decide)]; exact hj7
      have hT8 : 0 ≤ T 1 0 := by omega
      first | refine V.aload_nR (pc := 41) d_J_waitForNew_41 rfl ?_ | refine V.aload_n (pc := 41) d_J_waitForNew_41 rfl ?_
      refine V.iload_n (pc := 42) d_J_waitForNew_42 rfl ?_
      refine Vc.put_B13 (pc := 43) d_J_waitForNew_43 f_J_158 hC hj7 (fun hs hC => ?_)
      first | refine V.aload_nR (pc := 46) d_J_waitForNew_46 rfl ?_ | refine V.aload_n (pc := 46) d_J_waitForNew_46 rfl ?_
      first | refine V.aloadR (pc := 47) d_J_waitForNew_47 rfl ?_ | refine V.aload (pc := 47) d_J_waitForNew_47 rfl ?_
      refine Vc.put_B14 (pc := 49) d_J_waitForNew_49 f_J_161 hC hj8 hT8 (fun hs hC => ?_)
      refine Vi.bipush (pc := 52) d_J_waitForNew_52 (by decide) ?_
      refine Vi.ireturn (pc := 54) d_J_waitForNew_54 rfl ?_
      exact fin2 _ hC
  · rw [if_pos (by omega)]
    refine Vi.bipush (pc := 9) d_J_waitForNew_9 (by decide) ?_
    refine Vi.ireturn (pc := 11) d_J_waitForNew_11 rfl ?_
    refine ⟨96, am, rfl, ⟨rfl, rfl⟩, hP'.so (by omega), pq_throw hK (by omega), ?_⟩
    rw [if_neg (by omega)]
    exact (Tq.cg fun f i hf => up_f (by omega)).w
theorem k_cancelFrom (hP : PR w am T g b hs) (hI : Iv T) (hj : 0 ≤ j ∧ j < T 1 0) (ha : -1 ≤ a ∧ a ≤ 2) : V jcl w m_J_cancelFrom (d + 27) 0 [(0, .ref (am 0 0)), (1, .ref (am 10 j)), (2, .int (ii a))] [] hs (fun o hs' => o = .inl none ∧ PR w am (if a < 0 then z_give T j 0 else if 0 ≤ T 22 (j * 3 + a) then z_give T (T 22 (j * 3 + a)) 0 else T) g b hs') := by
  have hP' := hP
  obtain ⟨C, hC, hA, h6⟩ := hP
  have hC1 := hA.j1
  have hJ := hI.J
  have h22 : C 22 (j * 3 + a) = T 22 (j * 3 + a) := hA.a1 22 _ (by unfold cm; omega)
  have hsl : 0 ≤ a → -1 ≤ T 22 (j * 3 + a) ∧ T 22 (j * 3 + a) < T 1 0 := fun z => by
    have := hI.sl j a hj.1 hj.2 z (by omega)
    omega
  refine V.iload_n (pc := 0) d_J_cancelFrom_0 rfl ?_
  refine Vi.if_ge (pc := 1) (tgt := 8) d_J_cancelFrom_1 (by decide) (by first | assumption | decide | omega | (simp [up] <;> omega)) (fun c_1 => ?_) (fun c_1 => ?_)
  · rw [if_neg (by omega)]
    have h1 := hsl c_1
    first | refine V.aload_nR (pc := 8) d_J_cancelFrom_8 rfl ?_ | refine V.aload_n (pc := 8) d_J_cancelFrom_8 rfl ?_
    refine Vc.get_B (pc := 9) d_J_cancelFrom_9 g_J_123 hC (by first | assumption | omega | (simp [up, up_f] <;> omega)) rfl ?_
    refine V.iload_n (pc := 12) d_J_cancelFrom_12 rfl ?_
    refine Vc.ald_slots (pc := 13) d_J_cancelFrom_13 hC (by first | assumption | omega | (simp [up, up_f] <;> omega)) (by first | assumption | omega | (simp [up, up_f] <;> omega)) ?_
    rw [h22]
    first | refine V.astore_nR (pc := 14) d_J_cancelFrom_14 (by decide) ?_ | refine V.astore_n (pc := 14) d_J_cancelFrom_14 (by decide) ?_
    first | refine V.aload_nR (pc := 15) d_J_cancelFrom_15 rfl ?_ | refine V.aload_n (pc := 15) d_J_cancelFrom_15 rfl ?_
    refine Vc.ifnull (pc := 16) (tgt := 26) d_J_cancelFrom_16 (by decide) (fun c_16 => ?_) (fun c_16 => ?_)
    · refine V.return_ (pc := 26) d_J_cancelFrom_26 rfl ?_
      rw [if_neg (by omega)]
      exact ⟨rfl, hP'⟩
    · rw [if_pos c_16, rj_pos c_16]
      first | refine V.aload_nR (pc := 19) d_J_cancelFrom_19 rfl ?_ | refine V.aload_n (pc := 19) d_J_cancelFrom_19 rfl ?_
      first | refine V.aload_nR (pc := 20) d_J_cancelFrom_20 rfl ?_ | refine V.aload_n (pc := 20) d_J_cancelFrom_20 rfl ?_
      refine Vi.iconst (pc := 21) d_J_cancelFrom_21 ?_
      refine Vi.iconst (pc := 22) d_J_cancelFrom_22 ?_
      refine V.callV (pc := 23) d_J_cancelFrom_23 Y_J_give l_J_78 wi_J_give wv_J_give (ci := 0) rfl rfl [_, _, _] hC.oJ rfl rfl ⟨by repeat (first | exact trivial | refine ⟨(by first | rfl | exact vrf_cat _), ?_⟩), Nat.le_of_ble_eq_true rfl⟩ ⟨⟨rfl, (by first | rfl | exact vrf_cat _), (by first | rfl | exact vrf_cat _), (by first | rfl | exact vrf_cat _), trivial⟩, Nat.le_of_ble_eq_true rfl⟩ (k_give0 (d := d) hP' hI (by omega) (by omega)) (fun v hs ho => ?_) (fun E hs ho => by simp at ho)
      obtain ⟨ho, hP2⟩ := ho
      cases ho
      refine V.return_ (pc := 26) d_J_cancelFrom_26 rfl ?_
      exact ⟨rfl, hP2⟩
  · rw [if_pos c_1]
    first | refine V.aload_nR (pc := 4) d_J_cancelFrom_4 rfl ?_ | refine V.aload_n (pc := 4) d_J_cancelFrom_4 rfl ?_
    refine V.goto (pc := 5) (tgt := 14) d_J_cancelFrom_5 (by decide) ?_
    first | refine V.astore_nR (pc := 14) d_J_cancelFrom_14 (by decide) ?_ | refine V.astore_n (pc := 14) d_J_cancelFrom_14 (by decide) ?_
    rw [← rj_pos (am := am) hj.1]
    first | refine V.aload_nR (pc := 15) d_J_cancelFrom_15 rfl ?_ | refine V.aload_n (pc := 15) d_J_cancelFrom_15 rfl ?_
    refine Vc.ifnull (pc := 16) (tgt := 26) d_J_cancelFrom_16 (by decide) (fun c_16 => ?_) (fun c_16 => ?_)
    · omega
    · rw [rj_pos hj.1]
      first | refine V.aload_nR (pc := 19) d_J_cancelFrom_19 rfl ?_ | refine V.aload_n (pc := 19) d_J_cancelFrom_19 rfl ?_
      first | refine V.aload_nR (pc := 20) d_J_cancelFrom_20 rfl ?_ | refine V.aload_n (pc := 20) d_J_cancelFrom_20 rfl ?_
      refine Vi.iconst (pc := 21) d_J_cancelFrom_21 ?_
      refine Vi.iconst (pc := 22) d_J_cancelFrom_22 ?_
      refine V.callV (pc := 23) d_J_cancelFrom_23 Y_J_give l_J_78 wi_J_give wv_J_give (ci := 0) rfl rfl [_, _, _] hC.oJ rfl rfl ⟨by repeat (first | exact trivial | refine ⟨(by first | rfl | exact vrf_cat _), ?_⟩), Nat.le_of_ble_eq_true rfl⟩ ⟨⟨rfl, (by first | rfl | exact vrf_cat _), (by first | rfl | exact vrf_cat _), (by first | rfl | exact vrf_cat _), trivial⟩, Nat.le_of_ble_eq_true rfl⟩ (k_give0 (d := d) hP' hI hj (by omega)) (fun v hs ho => ?_) (fun E hs ho => by simp at ho)
      obtain ⟨ho, hP2⟩ := ho
      cases ho
      refine V.return_ (pc := 26) d_J_cancelFrom_26 rfl ?_
      exact ⟨rfl, hP2⟩
theorem k_enter {s p q q' : Int} (hP : PR w am T g b hs) (hK : Kk j (m + 1) T) (h8 : T 8 0 = -1) (hp : 0 ≤ p ∧ p ≤ 9) (hs1 : 1 ≤ s ∧ s ≤ 5) (hq : s = 1 ∨ s = 2 → q = q' ∧ 0 ≤ q' ∧ q' ≤ 9) : V jcl w m_J_enterFrame (d + 1) 0 [(0, .ref (am 10 j)), (1, .int (ii s)), (2, .ref (am 6 p)), (3, .ref (am 6 q))] [] hs (Pz w am g b j m T (if T 21 j = 6 then up T 8 0 97 else z_pushFrame T j p s q' (-1))) := by
  have hP' := hP
  obtain ⟨C, hC, hA, h6⟩ := hP
  have hC1 := hA.j1
  have hj := hK.2.1.1
  have h21 : C 21 j = T 21 j := hA.a1 21 j (by unfold cm; omega)
  have h0 := hK.2.2.2.2.1
  have h6b := hK.fr.1.1
  first | refine V.aload_nR (pc := 0) d_J_enterFrame_0 rfl ?_ | refine V.aload_n (pc := 0) d_J_enterFrame_0 rfl ?_
  refine Vc.get_B (pc := 1) d_J_enterFrame_1 g_J_106 hC (by first | assumption | omega | (simp [up, up_f] <;> omega)) rfl ?_
  rw [h21]
  refine Vi.bipush (pc := 4) d_J_enterFrame_4 (by decide) ?_
  refine Vi.icmp_lt (pc := 6) (tgt := 12) d_J_enterFrame_6 (by decide) (by first | assumption | decide | omega | (simp [up] <;> omega)) (by first | assumption | decide | omega | (simp [up] <;> omega)) (fun c_6 => ?_) (fun c_6 => ?_)
  · rw [if_neg (by omega)]
    first | refine V.aload_nR (pc := 12) d_J_enterFrame_12 rfl ?_ | refine V.aload_n (pc := 12) d_J_enterFrame_12 rfl ?_
    refine V.iload_n (pc := 13) d_J_enterFrame_13 rfl ?_
    first | refine V.aload_nR (pc := 14) d_J_enterFrame_14 rfl ?_ | refine V.aload_n (pc := 14) d_J_enterFrame_14 rfl ?_
    first | refine V.aload_nR (pc := 15) d_J_enterFrame_15 rfl ?_ | refine V.aload_n (pc := 15) d_J_enterFrame_15 rfl ?_
    refine Vi.iconst (pc := 16) d_J_enterFrame_16 ?_
    refine V.callV (pc := 17) d_J_enterFrame_17 Y_B_pushFrame l_J_208 wi_B_pushFrame wv_B_pushFrame (ci := 3) rfl rfl [_, _, _, _] (hC.oB (by first | assumption | omega | (simp [up, up_f] <;> omega))) rfl rfl ⟨by repeat (first | exact trivial | refine ⟨(by first | rfl | exact vrf_cat _), ?_⟩), Nat.le_of_ble_eq_true rfl⟩ ⟨⟨rfl, (by first | rfl | exact vrf_cat _), (by first | rfl | exact vrf_cat _), (by first | rfl | exact vrf_cat _), (by first | rfl | exact vrf_cat _), trivial⟩, Nat.le_of_ble_eq_true rfl⟩ (k_push (q' := q') hP' hK.1 hj (by omega) (fun z => (hq z).1)) (fun v hs ho => ?_) (fun E hs ho => by simp at ho)
    obtain ⟨ho, hP2⟩ := ho
    cases ho
    refine Vi.iconst (pc := 20) d_J_enterFrame_20 ?_
    refine Vi.ireturn (pc := 21) d_J_enterFrame_21 rfl ?_
    refine ⟨-1, am, rfl, ⟨rfl, rfl⟩, hP2, pq_push hK h8 (by omega) hp hs1 (fun z => (hq z).2), ?_⟩
    rw [if_neg (by omega)]
    exact Tq.push.w
  · rw [if_pos (by omega)]
    refine Vi.bipush (pc := 9) d_J_enterFrame_9 (by decide) ?_
    refine Vi.ireturn (pc := 11) d_J_enterFrame_11 rfl ?_
    refine ⟨97, am, rfl, ⟨rfl, rfl⟩, hP'.so (by omega), pq_throw hK (by omega), ?_⟩
    rw [if_neg (by omega)]
    exact (Tq.cg fun f i hf => up_f (by omega)).w
end KI
