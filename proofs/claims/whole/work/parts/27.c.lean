/-! more rows; the class's small methods -/
section JD
variable {w : jw} {M : jm} {d pc : Nat} {L : List (Nat × Value)} {st : List Value} {hs : jh} {Q : jo → jh → Prop} {am : Nat → Int → Nat} {C : js} {g : Nat → Option va_E} {b : Nat × Nat}
theorem Vc.areturnR {a : Nat} {n : String} (hdg : decode M.2.2.1 pc = .ok (.areturn, 1)) (hr : M.2.2.2.2.1 = some (.object n)) (hq : Q (.inl (some (.ref a))) hs) : V jcl w M d pc L [.ref a] hs Q := V.areturn (x := some a) hdg hr hq
theorem Vc.acmp_ne1 {k : Int} {a : Nat} {off : Int} {tgt : Nat} (hdg : decode M.2.2.1 pc = .ok (.if_acmp .ne off, 3)) (ht : (pc : Int) + off = (tgt : Int)) (kt : ¬ rj am k = some a → V jcl w M d tgt L st hs Q) (kf : rj am k = some a → V jcl w M d (pc + 3) L st hs Q) : V jcl w M d pc L (.ref a :: va_rf (rj am k) :: st) hs Q := V.acmp_ne (rx := rj am k) (ry := some a) hdg ht kt kf
theorem Vc.acmp_ne2 {a a' : Nat} {off : Int} {tgt : Nat} (hdg : decode M.2.2.1 pc = .ok (.if_acmp .ne off, 3)) (ht : (pc : Int) + off = (tgt : Int)) (kt : ¬ a' = a → V jcl w M d tgt L st hs Q) (kf : a' = a → V jcl w M d (pc + 3) L st hs Q) : V jcl w M d pc L (.ref a :: .ref a' :: st) hs Q := V.acmp_ne (rx := some a') (ry := some a) hdg ht (fun z => kt (fun e => z (by rw [e]))) (fun z => kf (Option.some.inj z))
theorem Vi.atpc {pc' : Nat} (e : pc' = pc) (k : V jcl w M d pc L st hs Q) : V jcl w M d pc' L st hs Q := by rw [e]; exact k
theorem Vi.tsw {x dflt lo hi : Int} {offs : Array Int} {len tgt : Nat} (hdg : decode M.2.2.1 pc = .ok (.tableswitch dflt lo hi offs, len)) (hx : jr x) (ht : (pc : Int) + dflt = (tgt : Int) ∧ hi = lo + offs.size - 1 ∧ (∀ n (h : n < offs.size), 0 ≤ (pc : Int) + offs[n])) (ko : x < lo ∨ hi < x → V jcl w M d tgt L st hs Q) (ki : ∀ n : Nat, x = lo + n → (h : n < offs.size) → V jcl w M d ((pc : Int) + offs[n]).toNat L st hs Q) : V jcl w M d pc L (.int (ii x) :: st) hs Q := by
  by_cases hz : x < lo ∨ hi < x
  · exact V.tableOut hdg (by rw [ii_toInt hx]; exact hz) ht.1 (ko hz)
  · have hn : (x - lo).toNat < offs.size := by omega
    refine V.tableIn hdg (by rw [ii_toInt hx]; omega) (by rw [ii_toInt hx]; omega) (off := offs[(x - lo).toNat]) (by rw [ii_toInt hx]; exact Array.getElem?_eq_getElem hn) ?_ (ki (x - lo).toNat (by omega) hn)
    have := ht.2.2 (x - lo).toNat hn
    omega
abbrev tb (C : js) (k : Nat) (i : Int) (k' : Nat) (i' : Int) : Prop := C (tdu k) i < C (tdu k') i' ∨ C (tdu k) i = C (tdu k') i' ∧ C (ttu k) i < C (ttu k') i'
theorem c_isRunning {k : Nat} {j : Int} (hC : RepC w am C g b hs) (hj : (k = 13 ∨ k = 14) ∧ 0 ≤ j ∧ j < C 1 0) (h1 : jr (C (tdu k) j)) : V jcl w m_T_isRunning d 0 [(0, .ref (am k j))] [] hs (fun o hs' => ∃ r : Int, o = .inl (some (.int (ii r))) ∧ (r = 1 ∧ C (tdu k) j ≠ 2147483647 ∨ r = 0 ∧ C (tdu k) j = 2147483647) ∧ hs' = hs) := by
  first | refine V.aload_nR (pc := 0) d_T_isRunning_0 rfl ?_ | refine V.aload_n (pc := 0) d_T_isRunning_0 rfl ?_
  refine Vc.get_T (pc := 1) d_T_isRunning_1 g_T_10 hC (by first | assumption | exact ⟨Or.inl rfl, (by first | assumption | omega | (simp [up, up_f] <;> omega))⟩ | exact ⟨Or.inr rfl, (by first | assumption | omega | (simp [up, up_f] <;> omega))⟩ | (simp [up] <;> omega)) rfl ?_
  refine Vc.ldc (pc := 4) (n := 2147483647) d_T_isRunning_4 n_T_9 (by decide) ?_
  refine Vi.icmp_eq (pc := 6) (tgt := 13) d_T_isRunning_6 (by decide) (by first | assumption | decide | omega | (simp [up] <;> omega)) (by first | assumption | decide | omega | (simp [up] <;> omega)) (fun c_6 => ?_) (fun c_6 => ?_)
  · refine Vi.iconst (pc := 13) d_T_isRunning_13 ?_
    refine Vi.zreturn (pc := 14) d_T_isRunning_14 rfl (by omega) ?_
    exact ⟨_, rfl, by omega, rfl⟩
  · refine Vi.iconst (pc := 9) d_T_isRunning_9 ?_
    refine V.goto (pc := 10) (tgt := 14) d_T_isRunning_10 (by decide) ?_
    refine Vi.zreturn (pc := 14) d_T_isRunning_14 rfl (by omega) ?_
    exact ⟨_, rfl, by omega, rfl⟩
theorem c_stop {k : Nat} {j : Int} (hC : RepC w am C g b hs) (hj : (k = 13 ∨ k = 14) ∧ 0 ≤ j ∧ j < C 1 0) : V jcl w m_T_stop d 0 [(0, .ref (am k j))] [] hs (fun o hs' => o = .inl none ∧ RepC w am (up C (tdu k) j 2147483647) g b hs') := by
  first | refine V.aload_nR (pc := 0) d_T_stop_0 rfl ?_ | refine V.aload_n (pc := 0) d_T_stop_0 rfl ?_
  refine Vc.ldc (pc := 1) (n := 2147483647) d_T_stop_1 n_T_9 (by decide) ?_
  refine Vc.put_T0 (pc := 3) d_T_stop_3 f_T_10 hC (by first | assumption | exact ⟨Or.inl rfl, (by first | assumption | omega | (simp [up, up_f] <;> omega))⟩ | exact ⟨Or.inr rfl, (by first | assumption | omega | (simp [up, up_f] <;> omega))⟩ | (simp [up] <;> omega)) (fun hs hC => ?_)
  refine V.return_ (pc := 6) d_T_stop_6 rfl ?_
  exact ⟨rfl, hC⟩
theorem c_comesBefore {k k' : Nat} {j j' : Int} (hC : RepC w am C g b hs) (hj : (k = 13 ∨ k = 14) ∧ 0 ≤ j ∧ j < C 1 0) (hj' : (k' = 13 ∨ k' = 14) ∧ 0 ≤ j' ∧ j' < C 1 0) (h1 : jr (C (tdu k) j)) (h2 : jr (C (tdu k') j')) (h3 : jr (C (ttu k) j)) (h4 : jr (C (ttu k') j')) : V jcl w m_T_comesBefore d 0 [(0, .ref (am k j)), (1, .ref (am k' j'))] [] hs (fun o hs' => ∃ r : Int, o = .inl (some (.int (ii r))) ∧ (r = 1 ∧ tb C k j k' j' ∨ r = 0 ∧ ¬ tb C k j k' j') ∧ hs' = hs) := by
  first | refine V.aload_nR (pc := 0) d_T_comesBefore_0 rfl ?_ | refine V.aload_n (pc := 0) d_T_comesBefore_0 rfl ?_
  refine Vc.get_T (pc := 1) d_T_comesBefore_1 g_T_10 hC (by first | assumption | exact ⟨Or.inl rfl, (by first | assumption | omega | (simp [up, up_f] <;> omega))⟩ | exact ⟨Or.inr rfl, (by first | assumption | omega | (simp [up, up_f] <;> omega))⟩ | (simp [up] <;> omega)) rfl ?_
  first | refine V.aload_nR (pc := 4) d_T_comesBefore_4 rfl ?_ | refine V.aload_n (pc := 4) d_T_comesBefore_4 rfl ?_
  refine Vc.get_T (pc := 5) d_T_comesBefore_5 g_T_10 hC (by first | assumption | exact ⟨Or.inl rfl, (by first | assumption | omega | (simp [up, up_f] <;> omega))⟩ | exact ⟨Or.inr rfl, (by first | assumption | omega | (simp [up, up_f] <;> omega))⟩ | (simp [up] <;> omega)) rfl ?_
  refine Vi.icmp_lt (pc := 8) (tgt := 33) d_T_comesBefore_8 (by decide) (by first | assumption | decide | omega | (simp [up] <;> omega)) (by first | assumption | decide | omega | (simp [up] <;> omega)) (fun c_8 => ?_) (fun c_8 => ?_)
  · refine Vi.iconst (pc := 33) d_T_comesBefore_33 ?_
    refine V.goto (pc := 34) (tgt := 38) d_T_comesBefore_34 (by decide) ?_
    refine Vi.zreturn (pc := 38) d_T_comesBefore_38 rfl (by omega) ?_
    exact ⟨_, rfl, by omega, rfl⟩
  · first | refine V.aload_nR (pc := 11) d_T_comesBefore_11 rfl ?_ | refine V.aload_n (pc := 11) d_T_comesBefore_11 rfl ?_
    refine Vc.get_T (pc := 12) d_T_comesBefore_12 g_T_10 hC (by first | assumption | exact ⟨Or.inl rfl, (by first | assumption | omega | (simp [up, up_f] <;> omega))⟩ | exact ⟨Or.inr rfl, (by first | assumption | omega | (simp [up, up_f] <;> omega))⟩ | (simp [up] <;> omega)) rfl ?_
    first | refine V.aload_nR (pc := 15) d_T_comesBefore_15 rfl ?_ | refine V.aload_n (pc := 15) d_T_comesBefore_15 rfl ?_
    refine Vc.get_T (pc := 16) d_T_comesBefore_16 g_T_10 hC (by first | assumption | exact ⟨Or.inl rfl, (by first | assumption | omega | (simp [up, up_f] <;> omega))⟩ | exact ⟨Or.inr rfl, (by first | assumption | omega | (simp [up, up_f] <;> omega))⟩ | (simp [up] <;> omega)) rfl ?_
    refine Vi.icmp_ne (pc := 19) (tgt := 37) d_T_comesBefore_19 (by decide) (by first | assumption | decide | omega | (simp [up] <;> omega)) (by first | assumption | decide | omega | (simp [up] <;> omega)) (fun c_19 => ?_) (fun c_19 => ?_)
    · refine Vi.iconst (pc := 37) d_T_comesBefore_37 ?_
      refine Vi.zreturn (pc := 38) d_T_comesBefore_38 rfl (by omega) ?_
      exact ⟨_, rfl, by omega, rfl⟩
    · first | refine V.aload_nR (pc := 22) d_T_comesBefore_22 rfl ?_ | refine V.aload_n (pc := 22) d_T_comesBefore_22 rfl ?_
      refine Vc.get_T (pc := 23) d_T_comesBefore_23 g_T_16 hC (by first | assumption | exact ⟨Or.inl rfl, (by first | assumption | omega | (simp [up, up_f] <;> omega))⟩ | exact ⟨Or.inr rfl, (by first | assumption | omega | (simp [up, up_f] <;> omega))⟩ | (simp [up] <;> omega)) rfl ?_
      first | refine V.aload_nR (pc := 26) d_T_comesBefore_26 rfl ?_ | refine V.aload_n (pc := 26) d_T_comesBefore_26 rfl ?_
      refine Vc.get_T (pc := 27) d_T_comesBefore_27 g_T_16 hC (by first | assumption | exact ⟨Or.inl rfl, (by first | assumption | omega | (simp [up, up_f] <;> omega))⟩ | exact ⟨Or.inr rfl, (by first | assumption | omega | (simp [up, up_f] <;> omega))⟩ | (simp [up] <;> omega)) rfl ?_
      refine Vi.icmp_ge (pc := 30) (tgt := 37) d_T_comesBefore_30 (by decide) (by first | assumption | decide | omega | (simp [up] <;> omega)) (by first | assumption | decide | omega | (simp [up] <;> omega)) (fun c_30 => ?_) (fun c_30 => ?_)
      · refine Vi.iconst (pc := 37) d_T_comesBefore_37 ?_
        refine Vi.zreturn (pc := 38) d_T_comesBefore_38 rfl (by omega) ?_
        exact ⟨_, rfl, by omega, rfl⟩
      · refine Vi.iconst (pc := 33) d_T_comesBefore_33 ?_
        refine V.goto (pc := 34) (tgt := 38) d_T_comesBefore_34 (by decide) ?_
        refine Vi.zreturn (pc := 38) d_T_comesBefore_38 rfl (by omega) ?_
        exact ⟨_, rfl, by omega, rfl⟩
/-- which of j's two timers comes first -/
def nx (C : js) (j : Int) : Nat := if C 54 j < C 52 j ∨ C 54 j = C 52 j ∧ C 55 j < C 53 j then 14 else 13
theorem nx_or (C : js) (j : Int) : nx C j = 13 ∨ nx C j = 14 := by unfold nx; split <;> simp
/-- the timers' numbers are ints -/
def Tj (C : js) : Prop := ∀ j, 0 ≤ j → j < C 1 0 → jr (C 52 j) ∧ jr (C 53 j) ∧ jr (C 54 j) ∧ jr (C 55 j)
theorem c_nextTimer {j : Int} (hC : RepC w am C g b hs) (hj : 0 ≤ j ∧ j < C 1 0) (hT : Tj C) : V jcl w m_B_nextTimer (d + 1) 0 [(0, .ref (am 10 j))] [] hs (fun o hs' => o = .inl (some (.ref (am (nx C j) j))) ∧ hs' = hs) := by
  have h1 := hT j hj.1 hj.2
  first | refine V.aload_nR (pc := 0) d_B_nextTimer_0 rfl ?_ | refine V.aload_n (pc := 0) d_B_nextTimer_0 rfl ?_
  refine Vc.get_B (pc := 1) d_B_nextTimer_1 g_B_42 hC (by first | assumption | omega | (simp [up, up_f] <;> omega)) rfl ?_
  first | refine V.aload_nR (pc := 4) d_B_nextTimer_4 rfl ?_ | refine V.aload_n (pc := 4) d_B_nextTimer_4 rfl ?_
  refine Vc.get_B (pc := 5) d_B_nextTimer_5 g_B_38 hC (by first | assumption | omega | (simp [up, up_f] <;> omega)) rfl ?_
  refine V.callV (pc := 8) d_B_nextTimer_8 Y_T_comesBefore l_B_84 wi_T_comesBefore wv_T_comesBefore (ci := 5) rfl rfl [_] (hC.oT (by first | assumption | exact ⟨Or.inl rfl, (by first | assumption | omega | (simp [up, up_f] <;> omega))⟩ | exact ⟨Or.inr rfl, (by first | assumption | omega | (simp [up, up_f] <;> omega))⟩ | (simp [up] <;> omega))) rfl rfl ⟨by repeat (first | exact trivial | refine ⟨(by first | rfl | exact vrf_cat _), ?_⟩), Nat.le_of_ble_eq_true rfl⟩ ⟨⟨rfl, (by first | rfl | exact vrf_cat _), trivial⟩, Nat.le_of_ble_eq_true rfl⟩ (c_comesBefore hC ⟨Or.inr rfl, hj⟩ ⟨Or.inl rfl, hj⟩ h1.2.2.1 h1.1 h1.2.2.2 h1.2.1) (fun v hs ho => ?_) (fun E hs ho => by simp at ho)
  obtain ⟨r_8, ho, hr_8, rfl⟩ := ho
  cases ho
  refine Vi.if_eq (pc := 11) (tgt := 21) d_B_nextTimer_11 (by decide) (by first | assumption | decide | omega | (simp [up] <;> omega)) (fun c_11 => ?_) (fun c_11 => ?_)
  · first | refine V.aload_nR (pc := 21) d_B_nextTimer_21 rfl ?_ | refine V.aload_n (pc := 21) d_B_nextTimer_21 rfl ?_
    refine Vc.get_B (pc := 22) d_B_nextTimer_22 g_B_38 hC (by first | assumption | omega | (simp [up, up_f] <;> omega)) rfl ?_
    first | refine Vc.areturnR (pc := 25) d_B_nextTimer_25 rfl ?_ | refine V.areturn (pc := 25) d_B_nextTimer_25 rfl ?_
    refine ⟨?_, rfl⟩
    unfold nx
    simp only [tb, tdu, ttu] at hr_8
    split <;> first | rfl | (exfalso; simp at hr_8; omega)
  · first | refine V.aload_nR (pc := 14) d_B_nextTimer_14 rfl ?_ | refine V.aload_n (pc := 14) d_B_nextTimer_14 rfl ?_
    refine Vc.get_B (pc := 15) d_B_nextTimer_15 g_B_42 hC (by first | assumption | omega | (simp [up, up_f] <;> omega)) rfl ?_
    refine V.goto (pc := 18) (tgt := 25) d_B_nextTimer_18 (by decide) ?_
    first | refine Vc.areturnR (pc := 25) d_B_nextTimer_25 rfl ?_ | refine V.areturn (pc := 25) d_B_nextTimer_25 rfl ?_
    refine ⟨?_, rfl⟩
    unfold nx
    simp only [tb, tdu, ttu] at hr_8
    split <;> first | rfl | (exfalso; simp at hr_8; omega)
theorem c_sh {j : Int} (hC : RepC w am C g b hs) (hj : 0 ≤ j ∧ j < C 1 0) (hf : 0 ≤ C 21 j ∧ C 21 j ≤ 6) (hp : ∀ i, j * 6 ≤ i → i < j * 6 + C 21 j → jr (C 35 i)) : ∀ (n : Nat) (f : Int), 0 ≤ f → f ≤ 6 → 6 ≤ f + n →
    V jcl w m_B_isShielded d 2 [(0, .ref (am 10 j)), (1, .int (ii f))] [] hs (fun o hs' => o = .inl (some (.int (ii (zb (z_sh C j (n + 1) (j * 6 + f)))))) ∧ hs' = hs) := by
  intro n
  induction n with
  | zero =>
    intro f h1 h2 h3
    refine V.iload_n (pc := 2) d_B_isShielded_2 rfl ?_
    first | refine V.aload_nR (pc := 3) d_B_isShielded_3 rfl ?_ | refine V.aload_n (pc := 3) d_B_isShielded_3 rfl ?_
    refine Vc.get_B (pc := 4) d_B_isShielded_4 g_B_45 hC (by first | assumption | omega | (simp [up, up_f] <;> omega)) rfl ?_
    refine Vi.icmp_ge (pc := 7) (tgt := 31) d_B_isShielded_7 (by decide) (by first | assumption | decide | omega | (simp [up] <;> omega)) (by first | assumption | decide | omega | (simp [up] <;> omega)) (fun c_7 => ?_) (fun c_7 => ?_)
    · refine Vi.iconst (pc := 31) d_B_isShielded_31 ?_
      refine Vi.zreturn (pc := 32) d_B_isShielded_32 rfl (by omega) ?_
      refine ⟨?_, rfl⟩
      rw [z_sh, if_neg (by omega)]
      rfl
    · omega
  | succ n ih =>
    intro f h1 h2 h3
    have hp' : f < C 21 j → jr (C 35 (j * 6 + f)) := fun z => hp _ (by omega) (by omega)
    refine V.iload_n (pc := 2) d_B_isShielded_2 rfl ?_
    first | refine V.aload_nR (pc := 3) d_B_isShielded_3 rfl ?_ | refine V.aload_n (pc := 3) d_B_isShielded_3 rfl ?_
    refine Vc.get_B (pc := 4) d_B_isShielded_4 g_B_45 hC (by first | assumption | omega | (simp [up, up_f] <;> omega)) rfl ?_
    refine Vi.icmp_ge (pc := 7) (tgt := 31) d_B_isShielded_7 (by decide) (by first | assumption | decide | omega | (simp [up] <;> omega)) (by first | assumption | decide | omega | (simp [up] <;> omega)) (fun c_7 => ?_) (fun c_7 => ?_)
    · refine Vi.iconst (pc := 31) d_B_isShielded_31 ?_
      refine Vi.zreturn (pc := 32) d_B_isShielded_32 rfl (by omega) ?_
      refine ⟨?_, rfl⟩
      rw [z_sh]
      (repeat' split) <;> first | rfl | (exfalso; omega)
    · first | refine V.aload_nR (pc := 10) d_B_isShielded_10 rfl ?_ | refine V.aload_n (pc := 10) d_B_isShielded_10 rfl ?_
      refine Vc.get_B (pc := 11) d_B_isShielded_11 g_B_28 hC (by first | assumption | omega | (simp [up, up_f] <;> omega)) rfl ?_
      refine V.iload_n (pc := 14) d_B_isShielded_14 rfl ?_
      refine Vc.ald_frames (pc := 15) d_B_isShielded_15 hC (by first | assumption | omega | (simp [up, up_f] <;> omega)) (by first | assumption | omega | (simp [up, up_f] <;> omega)) ?_
      refine Vc.get_F (pc := 16) d_B_isShielded_16 g_B_57 hC (by first | assumption | omega | (simp [up, up_f] <;> omega)) rfl ?_
      refine Vi.iconst (pc := 19) d_B_isShielded_19 ?_
      refine Vi.icmp_ne (pc := 20) (tgt := 25) d_B_isShielded_20 (by decide) (by first | assumption | decide | omega | (simp [up] <;> omega)) (by first | assumption | decide | omega | (simp [up] <;> omega)) (fun c_20 => ?_) (fun c_20 => ?_)
      · refine Vi.iinc (pc := 25) d_B_isShielded_25 rfl (by decide) ?_
        refine V.goto (pc := 28) (tgt := 2) d_B_isShielded_28 (by decide) ?_
        refine (V.lop (ih (f + 1) (by omega) (by omega) (by omega)) ⟨rfl, rfl, trivial⟩).post (fun o hs' ho => ⟨?_, ho.2⟩)
        have e9 : z_sh C j (n + 1 + 1) (j * 6 + f) = z_sh C j (n + 1) (j * 6 + (f + 1)) := by rw [z_sh, if_pos (by omega), if_neg (by omega), Int.add_assoc]
        rw [ho.1, e9]
      · refine Vi.iconst (pc := 23) d_B_isShielded_23 ?_
        refine Vi.zreturn (pc := 24) d_B_isShielded_24 rfl (by omega) ?_
        refine ⟨?_, rfl⟩
        rw [z_sh]
        (repeat' split) <;> first | rfl | (exfalso; omega)
theorem c_isShielded {j : Int} (hC : RepC w am C g b hs) (hj : 0 ≤ j ∧ j < C 1 0) (hf : 0 ≤ C 21 j ∧ C 21 j ≤ 6) (hp : ∀ i, j * 6 ≤ i → i < j * 6 + C 21 j → jr (C 35 i)) : V jcl w m_B_isShielded d 0 [(0, .ref (am 10 j))] [] hs (fun o hs' => o = .inl (some (.int (ii (zb (z_shielded C j))))) ∧ hs' = hs) := by
  refine Vi.iconst (pc := 0) d_B_isShielded_0 ?_
  refine V.istore_n (pc := 1) d_B_isShielded_1 (by decide) ?_
  have h := c_sh (d := d) hC hj hf hp 6 0 (by omega) (by omega) (by omega)
  rw [Int.add_zero] at h
  exact V.lop h ⟨rfl, rfl, trivial⟩
theorem c_isAtItsEnd {j : Int} (hC : RepC w am C g b hs) (hj : 0 ≤ j ∧ j < C 1 0) (h1 : jr (C 25 j) ∧ jr (C 21 j) ∧ jr (C 56 j)) : V jcl w m_B_isAtItsEnd d 0 [(0, .ref (am 10 j))] [] hs (fun o hs' => ∃ r : Int, o = .inl (some (.int (ii r))) ∧ (r = 1 ∧ (C 25 j = 0 ∧ C 21 j = 0 ∧ C 56 j = 0) ∨ r = 0 ∧ ¬ (C 25 j = 0 ∧ C 21 j = 0 ∧ C 56 j = 0)) ∧ hs' = hs) := by
  first | refine V.aload_nR (pc := 0) d_B_isAtItsEnd_0 rfl ?_ | refine V.aload_n (pc := 0) d_B_isAtItsEnd_0 rfl ?_
  refine Vc.get_B (pc := 1) d_B_isAtItsEnd_1 g_B_71 hC (by first | assumption | omega | (simp [up, up_f] <;> omega)) rfl ?_
  refine Vi.if_ne (pc := 4) (tgt := 25) d_B_isAtItsEnd_4 (by decide) (by first | assumption | decide | omega | (simp [up] <;> omega)) (fun c_4 => ?_) (fun c_4 => ?_)
  · refine Vi.iconst (pc := 25) d_B_isAtItsEnd_25 ?_
    refine Vi.zreturn (pc := 26) d_B_isAtItsEnd_26 rfl (by omega) ?_
    exact ⟨_, rfl, by omega, rfl⟩
  · first | refine V.aload_nR (pc := 7) d_B_isAtItsEnd_7 rfl ?_ | refine V.aload_n (pc := 7) d_B_isAtItsEnd_7 rfl ?_
    refine Vc.get_B (pc := 8) d_B_isAtItsEnd_8 g_B_45 hC (by first | assumption | omega | (simp [up, up_f] <;> omega)) rfl ?_
    refine Vi.if_ne (pc := 11) (tgt := 25) d_B_isAtItsEnd_11 (by decide) (by first | assumption | decide | omega | (simp [up] <;> omega)) (fun c_11 => ?_) (fun c_11 => ?_)
    · refine Vi.iconst (pc := 25) d_B_isAtItsEnd_25 ?_
      refine Vi.zreturn (pc := 26) d_B_isAtItsEnd_26 rfl (by omega) ?_
      exact ⟨_, rfl, by omega, rfl⟩
    · first | refine V.aload_nR (pc := 14) d_B_isAtItsEnd_14 rfl ?_ | refine V.aload_n (pc := 14) d_B_isAtItsEnd_14 rfl ?_
      refine Vc.get_B (pc := 15) d_B_isAtItsEnd_15 g_B_75 hC (by first | assumption | omega | (simp [up, up_f] <;> omega)) rfl ?_
      refine Vi.if_ne (pc := 18) (tgt := 25) d_B_isAtItsEnd_18 (by decide) (by first | assumption | decide | omega | (simp [up] <;> omega)) (fun c_18 => ?_) (fun c_18 => ?_)
      · refine Vi.iconst (pc := 25) d_B_isAtItsEnd_25 ?_
        refine Vi.zreturn (pc := 26) d_B_isAtItsEnd_26 rfl (by omega) ?_
        exact ⟨_, rfl, by omega, rfl⟩
      · refine Vi.iconst (pc := 21) d_B_isAtItsEnd_21 ?_
        refine V.goto (pc := 22) (tgt := 26) d_B_isAtItsEnd_22 (by decide) ?_
        refine Vi.zreturn (pc := 26) d_B_isAtItsEnd_26 rfl (by omega) ?_
        exact ⟨_, rfl, by omega, rfl⟩
theorem c_canBeWoken {j : Int} (hC : RepC w am C g b hs) (hj : 0 ≤ j ∧ j < C 1 0) (h1 : jr (C 50 j)) (hf : 0 ≤ C 21 j ∧ C 21 j ≤ 6) (hp : ∀ i, j * 6 ≤ i → i < j * 6 + C 21 j → jr (C 35 i)) : V jcl w m_B_canBeWoken (d + 1) 0 [(0, .ref (am 10 j))] [] hs (fun o hs' => ∃ r : Int, o = .inl (some (.int (ii r))) ∧ (r = 1 ∧ ((C 50 j = 1 ∨ C 50 j = 4 ∨ C 50 j = 5) ∧ zb (z_shielded C j) = 0) ∨ r = 0 ∧ ¬ ((C 50 j = 1 ∨ C 50 j = 4 ∨ C 50 j = 5) ∧ zb (z_shielded C j) = 0)) ∧ hs' = hs) := by
  first | refine V.aload_nR (pc := 0) d_B_canBeWoken_0 rfl ?_ | refine V.aload_n (pc := 0) d_B_canBeWoken_0 rfl ?_
  refine Vc.get_B (pc := 1) d_B_canBeWoken_1 g_B_51 hC (by first | assumption | omega | (simp [up, up_f] <;> omega)) rfl ?_
  refine Vi.iconst (pc := 4) d_B_canBeWoken_4 ?_
  refine Vi.icmp_eq (pc := 5) (tgt := 24) d_B_canBeWoken_5 (by decide) (by first | assumption | decide | omega | (simp [up] <;> omega)) (by first | assumption | decide | omega | (simp [up] <;> omega)) (fun c_5 => ?_) (fun c_5 => ?_)
  · refine Vi.iconst (pc := 24) d_B_canBeWoken_24 ?_
    refine V.goto (pc := 25) (tgt := 29) d_B_canBeWoken_25 (by decide) ?_
    refine V.istore_n (pc := 29) d_B_canBeWoken_29 (by decide) ?_
    refine V.iload_n (pc := 30) d_B_canBeWoken_30 rfl ?_
    refine Vi.if_eq (pc := 31) (tgt := 45) d_B_canBeWoken_31 (by decide) (by first | assumption | decide | omega | (simp [up] <;> omega)) (fun c_31 => ?_) (fun c_31 => ?_)
    · refine Vi.iconst (pc := 45) d_B_canBeWoken_45 ?_
      refine Vi.zreturn (pc := 46) d_B_canBeWoken_46 rfl (by omega) ?_
      exact ⟨_, rfl, by omega, rfl⟩
    · first | refine V.aload_nR (pc := 34) d_B_canBeWoken_34 rfl ?_ | refine V.aload_n (pc := 34) d_B_canBeWoken_34 rfl ?_
      refine V.callV (pc := 35) d_B_canBeWoken_35 Y_B_isShielded l_B_80 wi_B_isShielded wv_B_isShielded (ci := 3) rfl rfl [] (hC.oB (by first | assumption | omega | (simp [up, up_f] <;> omega))) rfl rfl ⟨by repeat (first | exact trivial | refine ⟨(by first | rfl | exact vrf_cat _), ?_⟩), Nat.le_of_ble_eq_true rfl⟩ ⟨⟨rfl, trivial⟩, Nat.le_of_ble_eq_true rfl⟩ (c_isShielded hC hj hf hp) (fun v hs ho => ?_) (fun E hs ho => by simp at ho)
      obtain ⟨ho, rfl⟩ := ho
      cases ho
      have hzb_35 : zb (z_shielded C j) = 0 ∨ zb (z_shielded C j) = 1 := by cases z_shielded C j <;> simp [zb]
      refine Vi.if_ne (pc := 38) (tgt := 45) d_B_canBeWoken_38 (by decide) (by first | assumption | decide | omega | (simp [up] <;> omega)) (fun c_38 => ?_) (fun c_38 => ?_)
      · refine Vi.iconst (pc := 45) d_B_canBeWoken_45 ?_
        refine Vi.zreturn (pc := 46) d_B_canBeWoken_46 rfl (by omega) ?_
        exact ⟨_, rfl, by omega, rfl⟩
      · refine Vi.iconst (pc := 41) d_B_canBeWoken_41 ?_
        refine V.goto (pc := 42) (tgt := 46) d_B_canBeWoken_42 (by decide) ?_
        refine Vi.zreturn (pc := 46) d_B_canBeWoken_46 rfl (by omega) ?_
        exact ⟨_, rfl, by omega, rfl⟩
  · first | refine V.aload_nR (pc := 8) d_B_canBeWoken_8 rfl ?_ | refine V.aload_n (pc := 8) d_B_canBeWoken_8 rfl ?_
    refine Vc.get_B (pc := 9) d_B_canBeWoken_9 g_B_51 hC (by first | assumption | omega | (simp [up, up_f] <;> omega)) rfl ?_
    refine Vi.iconst (pc := 12) d_B_canBeWoken_12 ?_
    refine Vi.icmp_eq (pc := 13) (tgt := 24) d_B_canBeWoken_13 (by decide) (by first | assumption | decide | omega | (simp [up] <;> omega)) (by first | assumption | decide | omega | (simp [up] <;> omega)) (fun c_13 => ?_) (fun c_13 => ?_)
    · refine Vi.iconst (pc := 24) d_B_canBeWoken_24 ?_
      refine V.goto (pc := 25) (tgt := 29) d_B_canBeWoken_25 (by decide) ?_
      refine V.istore_n (pc := 29) d_B_canBeWoken_29 (by decide) ?_
      refine V.iload_n (pc := 30) d_B_canBeWoken_30 rfl ?_
      refine Vi.if_eq (pc := 31) (tgt := 45) d_B_canBeWoken_31 (by decide) (by first | assumption | decide | omega | (simp [up] <;> omega)) (fun c_31 => ?_) (fun c_31 => ?_)
      · refine Vi.iconst (pc := 45) d_B_canBeWoken_45 ?_
        refine Vi.zreturn (pc := 46) d_B_canBeWoken_46 rfl (by omega) ?_
        exact ⟨_, rfl, by omega, rfl⟩
      · first | refine V.aload_nR (pc := 34) d_B_canBeWoken_34 rfl ?_ | refine V.aload_n (pc := 34) d_B_canBeWoken_34 rfl ?_
        refine V.callV (pc := 35) d_B_canBeWoken_35 Y_B_isShielded l_B_80 wi_B_isShielded wv_B_isShielded (ci := 3) rfl rfl [] (hC.oB (by first | assumption | omega | (simp [up, up_f] <;> omega))) rfl rfl ⟨by repeat (first | exact trivial | refine ⟨(by first | rfl | exact vrf_cat _), ?_⟩), Nat.le_of_ble_eq_true rfl⟩ ⟨⟨rfl, trivial⟩, Nat.le_of_ble_eq_true rfl⟩ (c_isShielded hC hj hf hp) (fun v hs ho => ?_) (fun E hs ho => by simp at ho)
        obtain ⟨ho, rfl⟩ := ho
        cases ho
        have hzb_35 : zb (z_shielded C j) = 0 ∨ zb (z_shielded C j) = 1 := by cases z_shielded C j <;> simp [zb]
        refine Vi.if_ne (pc := 38) (tgt := 45) d_B_canBeWoken_38 (by decide) (by first | assumption | decide | omega | (simp [up] <;> omega)) (fun c_38 => ?_) (fun c_38 => ?_)
        · refine Vi.iconst (pc := 45) d_B_canBeWoken_45 ?_
          refine Vi.zreturn (pc := 46) d_B_canBeWoken_46 rfl (by omega) ?_
          exact ⟨_, rfl, by omega, rfl⟩
        · refine Vi.iconst (pc := 41) d_B_canBeWoken_41 ?_
          refine V.goto (pc := 42) (tgt := 46) d_B_canBeWoken_42 (by decide) ?_
          refine Vi.zreturn (pc := 46) d_B_canBeWoken_46 rfl (by omega) ?_
          exact ⟨_, rfl, by omega, rfl⟩
    · first | refine V.aload_nR (pc := 16) d_B_canBeWoken_16 rfl ?_ | refine V.aload_n (pc := 16) d_B_canBeWoken_16 rfl ?_
      refine Vc.get_B (pc := 17) d_B_canBeWoken_17 g_B_51 hC (by first | assumption | omega | (simp [up, up_f] <;> omega)) rfl ?_
      refine Vi.iconst (pc := 20) d_B_canBeWoken_20 ?_
      refine Vi.icmp_ne (pc := 21) (tgt := 28) d_B_canBeWoken_21 (by decide) (by first | assumption | decide | omega | (simp [up] <;> omega)) (by first | assumption | decide | omega | (simp [up] <;> omega)) (fun c_21 => ?_) (fun c_21 => ?_)
      · refine Vi.iconst (pc := 28) d_B_canBeWoken_28 ?_
        refine V.istore_n (pc := 29) d_B_canBeWoken_29 (by decide) ?_
        refine V.iload_n (pc := 30) d_B_canBeWoken_30 rfl ?_
        refine Vi.if_eq (pc := 31) (tgt := 45) d_B_canBeWoken_31 (by decide) (by first | assumption | decide | omega | (simp [up] <;> omega)) (fun c_31 => ?_) (fun c_31 => ?_)
        · refine Vi.iconst (pc := 45) d_B_canBeWoken_45 ?_
          refine Vi.zreturn (pc := 46) d_B_canBeWoken_46 rfl (by omega) ?_
          exact ⟨_, rfl, by omega, rfl⟩
        · first | refine V.aload_nR (pc := 34) d_B_canBeWoken_34 rfl ?_ | refine V.aload_n (pc := 34) d_B_canBeWoken_34 rfl ?_
          refine V.callV (pc := 35) d_B_canBeWoken_35 Y_B_isShielded l_B_80 wi_B_isShielded wv_B_isShielded (ci := 3) rfl rfl [] (hC.oB (by first | assumption | omega | (simp [up, up_f] <;> omega))) rfl rfl ⟨by repeat (first | exact trivial | refine ⟨(by first | rfl | exact vrf_cat _), ?_⟩), Nat.le_of_ble_eq_true rfl⟩ ⟨⟨rfl, trivial⟩, Nat.le_of_ble_eq_true rfl⟩ (c_isShielded hC hj hf hp) (fun v hs ho => ?_) (fun E hs ho => by simp at ho)
          obtain ⟨ho, rfl⟩ := ho
          cases ho
          have hzb_35 : zb (z_shielded C j) = 0 ∨ zb (z_shielded C j) = 1 := by cases z_shielded C j <;> simp [zb]
          refine Vi.if_ne (pc := 38) (tgt := 45) d_B_canBeWoken_38 (by decide) (by first | assumption | decide | omega | (simp [up] <;> omega)) (fun c_38 => ?_) (fun c_38 => ?_)
          · refine Vi.iconst (pc := 45) d_B_canBeWoken_45 ?_
            refine Vi.zreturn (pc := 46) d_B_canBeWoken_46 rfl (by omega) ?_
            exact ⟨_, rfl, by omega, rfl⟩
          · refine Vi.iconst (pc := 41) d_B_canBeWoken_41 ?_
            refine V.goto (pc := 42) (tgt := 46) d_B_canBeWoken_42 (by decide) ?_
            refine Vi.zreturn (pc := 46) d_B_canBeWoken_46 rfl (by omega) ?_
            exact ⟨_, rfl, by omega, rfl⟩
      · refine Vi.iconst (pc := 24) d_B_canBeWoken_24 ?_
        refine V.goto (pc := 25) (tgt := 29) d_B_canBeWoken_25 (by decide) ?_
        refine V.istore_n (pc := 29) d_B_canBeWoken_29 (by decide) ?_
        refine V.iload_n (pc := 30) d_B_canBeWoken_30 rfl ?_
        refine Vi.if_eq (pc := 31) (tgt := 45) d_B_canBeWoken_31 (by decide) (by first | assumption | decide | omega | (simp [up] <;> omega)) (fun c_31 => ?_) (fun c_31 => ?_)
        · refine Vi.iconst (pc := 45) d_B_canBeWoken_45 ?_
          refine Vi.zreturn (pc := 46) d_B_canBeWoken_46 rfl (by omega) ?_
          exact ⟨_, rfl, by omega, rfl⟩
        · first | refine V.aload_nR (pc := 34) d_B_canBeWoken_34 rfl ?_ | refine V.aload_n (pc := 34) d_B_canBeWoken_34 rfl ?_
          refine V.callV (pc := 35) d_B_canBeWoken_35 Y_B_isShielded l_B_80 wi_B_isShielded wv_B_isShielded (ci := 3) rfl rfl [] (hC.oB (by first | assumption | omega | (simp [up, up_f] <;> omega))) rfl rfl ⟨by repeat (first | exact trivial | refine ⟨(by first | rfl | exact vrf_cat _), ?_⟩), Nat.le_of_ble_eq_true rfl⟩ ⟨⟨rfl, trivial⟩, Nat.le_of_ble_eq_true rfl⟩ (c_isShielded hC hj hf hp) (fun v hs ho => ?_) (fun E hs ho => by simp at ho)
          obtain ⟨ho, rfl⟩ := ho
          cases ho
          have hzb_35 : zb (z_shielded C j) = 0 ∨ zb (z_shielded C j) = 1 := by cases z_shielded C j <;> simp [zb]
          refine Vi.if_ne (pc := 38) (tgt := 45) d_B_canBeWoken_38 (by decide) (by first | assumption | decide | omega | (simp [up] <;> omega)) (fun c_38 => ?_) (fun c_38 => ?_)
          · refine Vi.iconst (pc := 45) d_B_canBeWoken_45 ?_
            refine Vi.zreturn (pc := 46) d_B_canBeWoken_46 rfl (by omega) ?_
            exact ⟨_, rfl, by omega, rfl⟩
          · refine Vi.iconst (pc := 41) d_B_canBeWoken_41 ?_
            refine V.goto (pc := 42) (tgt := 46) d_B_canBeWoken_42 (by decide) ?_
            refine Vi.zreturn (pc := 46) d_B_canBeWoken_46 rfl (by omega) ?_
            exact ⟨_, rfl, by omega, rfl⟩
theorem c_lastFrame {j : Int} (hC : RepC w am C g b hs) (hj : 0 ≤ j ∧ j < C 1 0) (hf : 0 < C 21 j ∧ C 21 j ≤ 6) : V jcl w m_B_lastFrame d 0 [(0, .ref (am 10 j))] [] hs (fun o hs' => o = .inl (some (.ref (am 15 (j * 6 + (C 21 j - 1))))) ∧ hs' = hs) := by
  first | refine V.aload_nR (pc := 0) d_B_lastFrame_0 rfl ?_ | refine V.aload_n (pc := 0) d_B_lastFrame_0 rfl ?_
  refine Vc.get_B (pc := 1) d_B_lastFrame_1 g_B_28 hC (by first | assumption | omega | (simp [up, up_f] <;> omega)) rfl ?_
  first | refine V.aload_nR (pc := 4) d_B_lastFrame_4 rfl ?_ | refine V.aload_n (pc := 4) d_B_lastFrame_4 rfl ?_
  refine Vc.get_B (pc := 5) d_B_lastFrame_5 g_B_45 hC (by first | assumption | omega | (simp [up, up_f] <;> omega)) rfl ?_
  refine Vi.if_le (pc := 8) (tgt := 20) d_B_lastFrame_8 (by decide) (by first | assumption | decide | omega | (simp [up] <;> omega)) (fun c_8 => ?_) (fun c_8 => ?_)
  · omega
  · first | refine V.aload_nR (pc := 11) d_B_lastFrame_11 rfl ?_ | refine V.aload_n (pc := 11) d_B_lastFrame_11 rfl ?_
    refine Vc.get_B (pc := 12) d_B_lastFrame_12 g_B_45 hC (by first | assumption | omega | (simp [up, up_f] <;> omega)) rfl ?_
    refine Vi.iconst (pc := 15) d_B_lastFrame_15 ?_
    refine Vi.isub (pc := 16) d_B_lastFrame_16 ?_
    refine V.goto (pc := 17) (tgt := 21) d_B_lastFrame_17 (by decide) ?_
    refine Vc.ald_frames (pc := 21) d_B_lastFrame_21 hC (by first | assumption | omega | (simp [up, up_f] <;> omega)) (by first | assumption | omega | (simp [up, up_f] <;> omega)) ?_
    first | refine Vc.areturnR (pc := 22) d_B_lastFrame_22 rfl ?_ | refine V.areturn (pc := 22) d_B_lastFrame_22 rfl ?_
    exact ⟨rfl, rfl⟩
def c_push (C : js) (j s p q k : Int) : js := up (up (up (up (up (up C 35 (j * 6 + C 21 j) s) 33 (j * 6 + C 21 j) p) 34 (j * 6 + C 21 j) 0) 36 (j * 6 + C 21 j) q) 37 (j * 6 + C 21 j) k) 21 j (C 21 j + 1)
theorem c_pushFrame {j s p q k : Int} (hC : RepC w am C g b hs) (hj : 0 ≤ j ∧ j < C 1 0) (hf : 0 ≤ C 21 j ∧ C 21 j < 6) : V jcl w m_B_pushFrame d 0 [(0, .ref (am 10 j)), (1, .int (ii s)), (2, .ref (am 6 p)), (3, .ref (am 6 q)), (4, .int (ii k))] [] hs (fun o hs' => o = .inl none ∧ RepC w am (c_push C j s p q k) g b hs') := by
  first | refine V.aload_nR (pc := 0) d_B_pushFrame_0 rfl ?_ | refine V.aload_n (pc := 0) d_B_pushFrame_0 rfl ?_
  refine Vc.get_B (pc := 1) d_B_pushFrame_1 g_B_45 hC (by first | assumption | omega | (simp [up, up_f] <;> omega)) rfl ?_
  refine Vi.bipush (pc := 4) d_B_pushFrame_4 (by decide) ?_
  refine Vi.icmp_ge (pc := 6) (tgt := 61) d_B_pushFrame_6 (by decide) (by first | assumption | decide | omega | (simp [up] <;> omega)) (by first | assumption | decide | omega | (simp [up] <;> omega)) (fun c_6 => ?_) (fun c_6 => ?_)
  · refine V.return_ (pc := 61) d_B_pushFrame_61 rfl ?_
    first | omega | exact ⟨rfl, by simpa [c_push, up_f] using hC⟩
  · first | refine V.aload_nR (pc := 9) d_B_pushFrame_9 rfl ?_ | refine V.aload_n (pc := 9) d_B_pushFrame_9 rfl ?_
    refine Vc.get_B (pc := 10) d_B_pushFrame_10 g_B_28 hC (by first | assumption | omega | (simp [up, up_f] <;> omega)) rfl ?_
    first | refine V.aload_nR (pc := 13) d_B_pushFrame_13 rfl ?_ | refine V.aload_n (pc := 13) d_B_pushFrame_13 rfl ?_
    refine Vc.get_B (pc := 14) d_B_pushFrame_14 g_B_45 hC (by first | assumption | omega | (simp [up, up_f] <;> omega)) rfl ?_
    refine Vc.ald_frames (pc := 17) d_B_pushFrame_17 hC (by first | assumption | omega | (simp [up, up_f] <;> omega)) (by first | assumption | omega | (simp [up, up_f] <;> omega)) ?_
    first | refine V.astoreR (pc := 18) d_B_pushFrame_18 (by decide) ?_ | refine V.astore (pc := 18) d_B_pushFrame_18 (by decide) ?_
    first | refine V.aloadR (pc := 20) d_B_pushFrame_20 rfl ?_ | refine V.aload (pc := 20) d_B_pushFrame_20 rfl ?_
    refine V.iload_n (pc := 22) d_B_pushFrame_22 rfl ?_
    refine Vc.put_F0 (pc := 23) d_B_pushFrame_23 f_B_57 hC (by first | assumption | omega | (simp [up, up_f] <;> omega)) (fun hs hC => ?_)
    first | refine V.aloadR (pc := 26) d_B_pushFrame_26 rfl ?_ | refine V.aload (pc := 26) d_B_pushFrame_26 rfl ?_
    first | refine V.aload_nR (pc := 28) d_B_pushFrame_28 rfl ?_ | refine V.aload_n (pc := 28) d_B_pushFrame_28 rfl ?_
    refine Vc.put_F1 (pc := 29) d_B_pushFrame_29 f_B_58 hC (by first | assumption | omega | (simp [up, up_f] <;> omega)) (fun hs hC => ?_)
    first | refine V.aloadR (pc := 32) d_B_pushFrame_32 rfl ?_ | refine V.aload (pc := 32) d_B_pushFrame_32 rfl ?_
    refine Vi.iconst (pc := 34) d_B_pushFrame_34 ?_
    refine Vc.put_F2 (pc := 35) d_B_pushFrame_35 f_B_62 hC (by first | assumption | omega | (simp [up, up_f] <;> omega)) (fun hs hC => ?_)
    first | refine V.aloadR (pc := 38) d_B_pushFrame_38 rfl ?_ | refine V.aload (pc := 38) d_B_pushFrame_38 rfl ?_
    first | refine V.aload_nR (pc := 40) d_B_pushFrame_40 rfl ?_ | refine V.aload_n (pc := 40) d_B_pushFrame_40 rfl ?_
    refine Vc.put_F3 (pc := 41) d_B_pushFrame_41 f_B_65 hC (by first | assumption | omega | (simp [up, up_f] <;> omega)) (fun hs hC => ?_)
    first | refine V.aloadR (pc := 44) d_B_pushFrame_44 rfl ?_ | refine V.aload (pc := 44) d_B_pushFrame_44 rfl ?_
    refine V.iload (pc := 46) d_B_pushFrame_46 rfl ?_
    refine Vc.put_F4 (pc := 48) d_B_pushFrame_48 f_B_68 hC (by first | assumption | omega | (simp [up, up_f] <;> omega)) (fun hs hC => ?_)
    first | refine V.aload_nR (pc := 51) d_B_pushFrame_51 rfl ?_ | refine V.aload_n (pc := 51) d_B_pushFrame_51 rfl ?_
    refine V.dup (pc := 52) d_B_pushFrame_52 (by first | rfl | exact vrf_cat _) ?_
    refine Vc.get_B (pc := 53) d_B_pushFrame_53 g_B_45 hC (by first | assumption | omega | (simp [up, up_f] <;> omega)) rfl ?_
    refine Vi.iconst (pc := 56) d_B_pushFrame_56 ?_
    refine Vi.iadd (pc := 57) d_B_pushFrame_57 ?_
    refine Vc.put_B7 (pc := 58) d_B_pushFrame_58 f_B_45 hC (by first | assumption | omega | (simp [up, up_f] <;> omega)) (fun hs hC => ?_)
    refine V.return_ (pc := 61) d_B_pushFrame_61 rfl ?_
    first | omega | exact ⟨rfl, by simpa [c_push, up_f] using hC⟩
def c_add (C : js) (j : Int) : js := up (up C 59 ((C 60 0 + C 61 0) % 24) j) 61 0 (C 61 0 + 1)
theorem c_Qadd {j : Int} (hC : RepC w am C g b hs) (hj : 0 ≤ j ∧ j < C 1 0) (hq : (0 ≤ C 60 0 ∧ C 60 0 < 24) ∧ 0 ≤ C 61 0 ∧ C 61 0 < 24) : V jcl w m_Q_add d 0 [(0, .ref (am 3 0)), (1, .ref (am 10 j))] [] hs (fun o hs' => o = .inl none ∧ RepC w am (c_add C j) g b hs') := by
  first | refine V.aload_nR (pc := 0) d_Q_add_0 rfl ?_ | refine V.aload_n (pc := 0) d_Q_add_0 rfl ?_
  refine Vc.get_Q (pc := 1) d_Q_add_1 g_Q_17 hC rfl ?_
  refine Vi.bipush (pc := 4) d_Q_add_4 (by decide) ?_
  refine Vi.icmp_ge (pc := 6) (tgt := 37) d_Q_add_6 (by decide) (by first | assumption | decide | omega | (simp [up] <;> omega)) (by first | assumption | decide | omega | (simp [up] <;> omega)) (fun c_6 => ?_) (fun c_6 => ?_)
  · refine V.return_ (pc := 37) d_Q_add_37 rfl ?_
    first | omega | exact ⟨rfl, by simpa [c_add, up_f] using hC⟩
  · first | refine V.aload_nR (pc := 9) d_Q_add_9 rfl ?_ | refine V.aload_n (pc := 9) d_Q_add_9 rfl ?_
    refine Vc.get_Q (pc := 10) d_Q_add_10 g_Q_11 hC rfl ?_
    first | refine V.aload_nR (pc := 13) d_Q_add_13 rfl ?_ | refine V.aload_n (pc := 13) d_Q_add_13 rfl ?_
    refine Vc.get_Q (pc := 14) d_Q_add_14 g_Q_21 hC rfl ?_
    first | refine V.aload_nR (pc := 17) d_Q_add_17 rfl ?_ | refine V.aload_n (pc := 17) d_Q_add_17 rfl ?_
    refine Vc.get_Q (pc := 18) d_Q_add_18 g_Q_17 hC rfl ?_
    refine Vi.iadd (pc := 21) d_Q_add_21 ?_
    refine Vi.bipush (pc := 22) d_Q_add_22 (by decide) ?_
    refine Vc.irem24 (pc := 24) d_Q_add_24 (by first | assumption | omega | (simp [up, up_f] <;> omega)) ?_
    first | refine V.aload_nR (pc := 25) d_Q_add_25 rfl ?_ | refine V.aload_n (pc := 25) d_Q_add_25 rfl ?_
    refine Vc.ast_row (pc := 26) d_Q_add_26 hC  (by first | assumption | omega | (simp [up, up_f] <;> omega)) (by first | assumption | omega | (simp [up, up_f] <;> omega)) (fun hs hC => ?_)
    first | refine V.aload_nR (pc := 27) d_Q_add_27 rfl ?_ | refine V.aload_n (pc := 27) d_Q_add_27 rfl ?_
    refine V.dup (pc := 28) d_Q_add_28 (by first | rfl | exact vrf_cat _) ?_
    refine Vc.get_Q (pc := 29) d_Q_add_29 g_Q_17 hC rfl ?_
    refine Vi.iconst (pc := 32) d_Q_add_32 ?_
    refine Vi.iadd (pc := 33) d_Q_add_33 ?_
    refine Vc.put_Q2 (pc := 34) d_Q_add_34 f_Q_17 hC (fun hs hC => ?_)
    refine V.return_ (pc := 37) d_Q_add_37 rfl ?_
    first | omega | exact ⟨rfl, by simpa [c_add, up_f] using hC⟩
/-- the first of the ring is taken out -/
def c_take (C : js) : js := up (up C 60 0 ((C 60 0 + 1) % 24)) 61 0 (C 61 0 - 1)
theorem c_takeFirst (hC : RepC w am C g b hs) (hq : (0 ≤ C 60 0 ∧ C 60 0 < 24) ∧ 0 ≤ C 61 0 ∧ C 61 0 ≤ 24) : V jcl w m_Q_takeFirst d 0 [(0, .ref (am 3 0))] [] hs (fun o hs' => C 61 0 = 0 ∧ o = .inl (some (va_rf (rj am (-1)))) ∧ hs' = hs ∨ 0 < C 61 0 ∧ o = .inl (some (va_rf (rj am (C 59 (C 60 0))))) ∧ RepC w am (c_take C) g b hs') := by
  first | refine V.aload_nR (pc := 0) d_Q_takeFirst_0 rfl ?_ | refine V.aload_n (pc := 0) d_Q_takeFirst_0 rfl ?_
  refine Vc.get_Q (pc := 1) d_Q_takeFirst_1 g_Q_17 hC rfl ?_
  refine Vi.if_ne (pc := 4) (tgt := 9) d_Q_takeFirst_4 (by decide) (by first | assumption | decide | omega | (simp [up] <;> omega)) (fun c_4 => ?_) (fun c_4 => ?_)
  · first | refine V.aload_nR (pc := 9) d_Q_takeFirst_9 rfl ?_ | refine V.aload_n (pc := 9) d_Q_takeFirst_9 rfl ?_
    refine Vc.get_Q (pc := 10) d_Q_takeFirst_10 g_Q_11 hC rfl ?_
    first | refine V.aload_nR (pc := 13) d_Q_takeFirst_13 rfl ?_ | refine V.aload_n (pc := 13) d_Q_takeFirst_13 rfl ?_
    refine Vc.get_Q (pc := 14) d_Q_takeFirst_14 g_Q_21 hC rfl ?_
    refine Vc.ald_row (pc := 17) d_Q_takeFirst_17 hC  (by first | assumption | omega | (simp [up, up_f] <;> omega)) ?_
    first | refine V.astore_nR (pc := 18) d_Q_takeFirst_18 (by decide) ?_ | refine V.astore_n (pc := 18) d_Q_takeFirst_18 (by decide) ?_
    first | refine V.aload_nR (pc := 19) d_Q_takeFirst_19 rfl ?_ | refine V.aload_n (pc := 19) d_Q_takeFirst_19 rfl ?_
    first | refine V.aload_nR (pc := 20) d_Q_takeFirst_20 rfl ?_ | refine V.aload_n (pc := 20) d_Q_takeFirst_20 rfl ?_
    refine Vc.get_Q (pc := 21) d_Q_takeFirst_21 g_Q_21 hC rfl ?_
    refine Vi.iconst (pc := 24) d_Q_takeFirst_24 ?_
    refine Vi.iadd (pc := 25) d_Q_takeFirst_25 ?_
    refine Vi.bipush (pc := 26) d_Q_takeFirst_26 (by decide) ?_
    refine Vc.irem24 (pc := 28) d_Q_takeFirst_28 (by first | assumption | omega | (simp [up, up_f] <;> omega)) ?_
    refine Vc.put_Q1 (pc := 29) d_Q_takeFirst_29 f_Q_21 hC (fun hs hC => ?_)
    first | refine V.aload_nR (pc := 32) d_Q_takeFirst_32 rfl ?_ | refine V.aload_n (pc := 32) d_Q_takeFirst_32 rfl ?_
    refine V.dup (pc := 33) d_Q_takeFirst_33 (by first | rfl | exact vrf_cat _) ?_
    refine Vc.get_Q (pc := 34) d_Q_takeFirst_34 g_Q_17 hC rfl ?_
    refine Vi.iconst (pc := 37) d_Q_takeFirst_37 ?_
    refine Vi.isub (pc := 38) d_Q_takeFirst_38 ?_
    refine Vc.put_Q2 (pc := 39) d_Q_takeFirst_39 f_Q_17 hC (fun hs hC => ?_)
    first | refine V.aload_nR (pc := 42) d_Q_takeFirst_42 rfl ?_ | refine V.aload_n (pc := 42) d_Q_takeFirst_42 rfl ?_
    first | refine Vc.areturnR (pc := 43) d_Q_takeFirst_43 rfl ?_ | refine V.areturn (pc := 43) d_Q_takeFirst_43 rfl ?_
    first | exact Or.inl ⟨by omega, by rw [rj_neg (by decide)], rfl⟩ | exact Or.inr ⟨by omega, rfl, by simpa [c_take, up_f] using hC⟩
  · refine V.null (pc := 7) d_Q_takeFirst_7 ?_
    first | refine Vc.areturnR (pc := 8) d_Q_takeFirst_8 rfl ?_ | refine V.areturn (pc := 8) d_Q_takeFirst_8 rfl ?_
    first | exact Or.inl ⟨by omega, by rw [rj_neg (by decide)], rfl⟩ | exact Or.inr ⟨by omega, rfl, by simpa [c_take, up_f] using hC⟩
def c_ready (C : js) (j x : Int) : js := c_add (up (up (up (up C 50 j (-1)) 51 j (-1)) 52 j 2147483647) 23 j x) j
theorem c_makeReady {j x : Int} (hC : RepC w am C g b hs) (hj : 0 ≤ j ∧ j < C 1 0) (hq : (0 ≤ C 60 0 ∧ C 60 0 < 24) ∧ 0 ≤ C 61 0 ∧ C 61 0 < 24) : V jcl w m_J_makeReady (d + 1) 0 [(0, .ref (am 0 0)), (1, .ref (am 10 j)), (2, .int (ii x))] [] hs (fun o hs' => o = .inl none ∧ RepC w am (c_ready C j x) g b hs') := by
  first | refine V.aload_nR (pc := 0) d_J_makeReady_0 rfl ?_ | refine V.aload_n (pc := 0) d_J_makeReady_0 rfl ?_
  refine Vi.iconst (pc := 1) d_J_makeReady_1 ?_
  refine Vc.put_B13 (pc := 2) d_J_makeReady_2 f_J_158 hC (by first | assumption | omega | (simp [up, up_f] <;> omega)) (fun hs hC => ?_)
  first | refine V.aload_nR (pc := 5) d_J_makeReady_5 rfl ?_ | refine V.aload_n (pc := 5) d_J_makeReady_5 rfl ?_
  refine V.null (pc := 6) d_J_makeReady_6 ?_
  first | refine Vc.put_B14n (pc := 7) d_J_makeReady_7 f_J_161 hC (by first | assumption | omega | (simp [up, up_f] <;> omega)) (fun hs hC => ?_) | refine Vc.put_B14 (pc := 7) d_J_makeReady_7 f_J_161 hC (by first | assumption | omega | (simp [up, up_f] <;> omega)) (by first | assumption | omega | (simp [up, up_f] <;> omega)) (fun hs hC => ?_)
  first | refine V.aload_nR (pc := 10) d_J_makeReady_10 rfl ?_ | refine V.aload_n (pc := 10) d_J_makeReady_10 rfl ?_
  refine Vc.get_B (pc := 11) d_J_makeReady_11 g_J_164 hC (by first | assumption | omega | (simp [up, up_f] <;> omega)) rfl ?_
  refine V.callV (pc := 14) d_J_makeReady_14 Y_T_stop l_J_168 wi_T_stop wv_T_stop (ci := 5) rfl rfl [] (hC.oT (by first | assumption | exact ⟨Or.inl rfl, (by first | assumption | omega | (simp [up, up_f] <;> omega))⟩ | exact ⟨Or.inr rfl, (by first | assumption | omega | (simp [up, up_f] <;> omega))⟩ | (simp [up] <;> omega))) rfl rfl ⟨by repeat (first | exact trivial | refine ⟨(by first | rfl | exact vrf_cat _), ?_⟩), Nat.le_of_ble_eq_true rfl⟩ ⟨⟨rfl, trivial⟩, Nat.le_of_ble_eq_true rfl⟩ (c_stop hC ⟨Or.inl rfl, by simpa [up] using hj⟩) (fun v hs ho => ?_) (fun E hs ho => by simp at ho)
  obtain ⟨ho, hC⟩ := ho
  cases ho
  first | refine V.aload_nR (pc := 17) d_J_makeReady_17 rfl ?_ | refine V.aload_n (pc := 17) d_J_makeReady_17 rfl ?_
  refine V.iload_n (pc := 18) d_J_makeReady_18 rfl ?_
  refine Vc.put_B15 (pc := 19) d_J_makeReady_19 f_J_173 hC (by first | assumption | omega | (simp [up, up_f] <;> omega)) (fun hs hC => ?_)
  first | refine V.aload_nR (pc := 22) d_J_makeReady_22 rfl ?_ | refine V.aload_n (pc := 22) d_J_makeReady_22 rfl ?_
  refine Vc.get_J (pc := 23) d_J_makeReady_23 g_J_25 hC rfl ?_
  first | refine V.aload_nR (pc := 26) d_J_makeReady_26 rfl ?_ | refine V.aload_n (pc := 26) d_J_makeReady_26 rfl ?_
  refine V.callV (pc := 27) d_J_makeReady_27 Y_Q_add l_J_176 wi_Q_add wv_Q_add (ci := 2) rfl rfl [_] hC.oQ rfl rfl ⟨by repeat (first | exact trivial | refine ⟨(by first | rfl | exact vrf_cat _), ?_⟩), Nat.le_of_ble_eq_true rfl⟩ ⟨⟨rfl, (by first | rfl | exact vrf_cat _), trivial⟩, Nat.le_of_ble_eq_true rfl⟩ (c_Qadd hC (by simpa [up, tdu] using hj) (by simpa [up, tdu] using hq)) (fun v hs ho => ?_) (fun E hs ho => by simp at ho)
  obtain ⟨ho, hC⟩ := ho
  cases ho
  refine V.return_ (pc := 30) d_J_makeReady_30 rfl ?_
  exact ⟨rfl, hC⟩
theorem c_note {v : Int} (hC : RepC w am C g b hs) (hn : 0 ≤ C 3 0 ∧ C 3 0 < 2000000000) : V jcl w m_J_note d 0 [(0, .ref (am 0 0)), (1, .int (ii v))] [] hs (fun o hs' => o = .inl none ∧ RepC w am (z_write C v) g b hs') := by
  first | refine V.aload_nR (pc := 0) d_J_note_0 rfl ?_ | refine V.aload_n (pc := 0) d_J_note_0 rfl ?_
  refine Vc.get_J (pc := 1) d_J_note_1 g_J_129 hC rfl ?_
  refine Vi.bipush (pc := 4) d_J_note_4 (by decide) ?_
  refine Vi.icmp_ge (pc := 6) (tgt := 19) d_J_note_6 (by decide) (by first | assumption | decide | omega | (simp [up] <;> omega)) (by first | assumption | decide | omega | (simp [up] <;> omega)) (fun c_6 => ?_) (fun c_6 => ?_)
  · first | refine V.aload_nR (pc := 19) d_J_note_19 rfl ?_ | refine V.aload_n (pc := 19) d_J_note_19 rfl ?_
    refine V.dup (pc := 20) d_J_note_20 (by first | rfl | exact vrf_cat _) ?_
    refine Vc.get_J (pc := 21) d_J_note_21 g_J_129 hC rfl ?_
    refine Vi.iconst (pc := 24) d_J_note_24 ?_
    refine Vi.iadd (pc := 25) d_J_note_25 ?_
    refine Vc.put_J6 (pc := 26) d_J_note_26 f_J_129 hC (fun hs hC => ?_)
    refine V.return_ (pc := 29) d_J_note_29 rfl ?_
    exact ⟨rfl, by first | (rw [z_write, if_pos (by omega)]; simpa [up_f] using hC) | (rw [z_write, if_neg (by omega)]; exact hC)⟩
  · first | refine V.aload_nR (pc := 9) d_J_note_9 rfl ?_ | refine V.aload_n (pc := 9) d_J_note_9 rfl ?_
    refine Vc.get_J (pc := 10) d_J_note_10 g_J_29 hC rfl ?_
    first | refine V.aload_nR (pc := 13) d_J_note_13 rfl ?_ | refine V.aload_n (pc := 13) d_J_note_13 rfl ?_
    refine Vc.get_J (pc := 14) d_J_note_14 g_J_129 hC rfl ?_
    refine V.iload_n (pc := 17) d_J_note_17 rfl ?_
    refine Vc.ast_notes (pc := 18) d_J_note_18 hC  (by first | assumption | omega | (simp [up, up_f] <;> omega)) (fun hs hC => ?_)
    first | refine V.aload_nR (pc := 19) d_J_note_19 rfl ?_ | refine V.aload_n (pc := 19) d_J_note_19 rfl ?_
    refine V.dup (pc := 20) d_J_note_20 (by first | rfl | exact vrf_cat _) ?_
    refine Vc.get_J (pc := 21) d_J_note_21 g_J_129 hC rfl ?_
    refine Vi.iconst (pc := 24) d_J_note_24 ?_
    refine Vi.iadd (pc := 25) d_J_note_25 ?_
    refine Vc.put_J6 (pc := 26) d_J_note_26 f_J_129 hC (fun hs hC => ?_)
    refine V.return_ (pc := 29) d_J_note_29 rfl ?_
    exact ⟨rfl, by first | (rw [z_write, if_pos (by omega)]; simpa [up_f] using hC) | (rw [z_write, if_neg (by omega)]; exact hC)⟩
def c_timer (C : js) (k : Nat) (j t : Int) : js := up (up (up C (tdu k) j (C 2 0 + t)) (ttu k) j (C 58 0)) 58 0 (C 58 0 + 1)
theorem c_beginTimer {k : Nat} {j t : Int} (hC : RepC w am C g b hs) (hj : (k = 13 ∨ k = 14) ∧ 0 ≤ j ∧ j < C 1 0) : V jcl w m_J_beginTimer d 0 [(0, .ref (am 0 0)), (1, .ref (am k j)), (2, .int (ii t))] [] hs (fun o hs' => o = .inl none ∧ RepC w am (c_timer C k j t) g b hs') := by
  obtain ⟨hk, hj⟩ := hj
  rcases hk with rfl | rfl
  · first | refine V.aload_nR (pc := 0) d_J_beginTimer_0 rfl ?_ | refine V.aload_n (pc := 0) d_J_beginTimer_0 rfl ?_
    first | refine V.aload_nR (pc := 1) d_J_beginTimer_1 rfl ?_ | refine V.aload_n (pc := 1) d_J_beginTimer_1 rfl ?_
    refine Vc.get_J (pc := 2) d_J_beginTimer_2 g_J_135 hC rfl ?_
    refine V.iload_n (pc := 5) d_J_beginTimer_5 rfl ?_
    refine Vi.iadd (pc := 6) d_J_beginTimer_6 ?_
    refine Vc.put_T0 (pc := 7) d_J_beginTimer_7 f_J_282 hC (by first | assumption | exact ⟨Or.inl rfl, (by first | assumption | omega | (simp [up, up_f] <;> omega))⟩ | exact ⟨Or.inr rfl, (by first | assumption | omega | (simp [up, up_f] <;> omega))⟩ | (simp [up] <;> omega)) (fun hs hC => ?_)
    first | refine V.aload_nR (pc := 10) d_J_beginTimer_10 rfl ?_ | refine V.aload_n (pc := 10) d_J_beginTimer_10 rfl ?_
    first | refine V.aload_nR (pc := 11) d_J_beginTimer_11 rfl ?_ | refine V.aload_n (pc := 11) d_J_beginTimer_11 rfl ?_
    refine Vc.get_J (pc := 12) d_J_beginTimer_12 g_J_285 hC rfl ?_
    refine Vc.put_T1 (pc := 15) d_J_beginTimer_15 f_J_288 hC (by first | assumption | exact ⟨Or.inl rfl, (by first | assumption | omega | (simp [up, up_f] <;> omega))⟩ | exact ⟨Or.inr rfl, (by first | assumption | omega | (simp [up, up_f] <;> omega))⟩ | (simp [up] <;> omega)) (fun hs hC => ?_)
    first | refine V.aload_nR (pc := 18) d_J_beginTimer_18 rfl ?_ | refine V.aload_n (pc := 18) d_J_beginTimer_18 rfl ?_
    refine V.dup (pc := 19) d_J_beginTimer_19 (by first | rfl | exact vrf_cat _) ?_
    refine Vc.get_J (pc := 20) d_J_beginTimer_20 g_J_285 hC rfl ?_
    refine Vi.iconst (pc := 23) d_J_beginTimer_23 ?_
    refine Vi.iadd (pc := 24) d_J_beginTimer_24 ?_
    refine Vc.put_J10 (pc := 25) d_J_beginTimer_25 f_J_285 hC (fun hs hC => ?_)
    refine V.return_ (pc := 28) d_J_beginTimer_28 rfl ?_
    exact ⟨rfl, by simpa [c_timer, tdu, ttu, up_f] using hC⟩
  · first | refine V.aload_nR (pc := 0) d_J_beginTimer_0 rfl ?_ | refine V.aload_n (pc := 0) d_J_beginTimer_0 rfl ?_
    first | refine V.aload_nR (pc := 1) d_J_beginTimer_1 rfl ?_ | refine V.aload_n (pc := 1) d_J_beginTimer_1 rfl ?_
    refine Vc.get_J (pc := 2) d_J_beginTimer_2 g_J_135 hC rfl ?_
    refine V.iload_n (pc := 5) d_J_beginTimer_5 rfl ?_
    refine Vi.iadd (pc := 6) d_J_beginTimer_6 ?_
    refine Vc.put_T0 (pc := 7) d_J_beginTimer_7 f_J_282 hC (by first | assumption | exact ⟨Or.inl rfl, (by first | assumption | omega | (simp [up, up_f] <;> omega))⟩ | exact ⟨Or.inr rfl, (by first | assumption | omega | (simp [up, up_f] <;> omega))⟩ | (simp [up] <;> omega)) (fun hs hC => ?_)
    first | refine V.aload_nR (pc := 10) d_J_beginTimer_10 rfl ?_ | refine V.aload_n (pc := 10) d_J_beginTimer_10 rfl ?_
    first | refine V.aload_nR (pc := 11) d_J_beginTimer_11 rfl ?_ | refine V.aload_n (pc := 11) d_J_beginTimer_11 rfl ?_
    refine Vc.get_J (pc := 12) d_J_beginTimer_12 g_J_285 hC rfl ?_
    refine Vc.put_T1 (pc := 15) d_J_beginTimer_15 f_J_288 hC (by first | assumption | exact ⟨Or.inl rfl, (by first | assumption | omega | (simp [up, up_f] <;> omega))⟩ | exact ⟨Or.inr rfl, (by first | assumption | omega | (simp [up, up_f] <;> omega))⟩ | (simp [up] <;> omega)) (fun hs hC => ?_)
    first | refine V.aload_nR (pc := 18) d_J_beginTimer_18 rfl ?_ | refine V.aload_n (pc := 18) d_J_beginTimer_18 rfl ?_
    refine V.dup (pc := 19) d_J_beginTimer_19 (by first | rfl | exact vrf_cat _) ?_
    refine Vc.get_J (pc := 20) d_J_beginTimer_20 g_J_285 hC rfl ?_
    refine Vi.iconst (pc := 23) d_J_beginTimer_23 ?_
    refine Vi.iadd (pc := 24) d_J_beginTimer_24 ?_
    refine Vc.put_J10 (pc := 25) d_J_beginTimer_25 f_J_285 hC (fun hs hC => ?_)
    refine V.return_ (pc := 28) d_J_beginTimer_28 rfl ?_
    exact ⟨rfl, by simpa [c_timer, tdu, ttu, up_f] using hC⟩
/-- what a job that waited for j gets: the new sum, and what it is resumed with -/
def c_out (C : js) (p j : Int) : js := if C 19 j = -1 then up C 18 p (C 18 p + C 18 j) else C
theorem c_takeOutcome {p j : Int} (hC : RepC w am C g b hs) (hp : 0 ≤ p ∧ p < C 1 0) (hj : 0 ≤ j ∧ j < C 1 0) (h1 : jr (C 19 j)) : V jcl w m_J_takeOutcome d 0 [(0, .ref (am 10 p)), (1, .ref (am 10 j))] [] hs (fun o hs' => o = .inl (some (.int (ii (C 19 j)))) ∧ RepC w am (c_out C p j) g b hs') := by
  first | refine V.aload_nR (pc := 0) d_J_takeOutcome_0 rfl ?_ | refine V.aload_n (pc := 0) d_J_takeOutcome_0 rfl ?_
  refine Vc.get_B (pc := 1) d_J_takeOutcome_1 g_J_75 hC (by first | assumption | omega | (simp [up, up_f] <;> omega)) rfl ?_
  refine Vi.iconst (pc := 4) d_J_takeOutcome_4 ?_
  refine Vi.icmp_ne (pc := 5) (tgt := 23) d_J_takeOutcome_5 (by decide) (by first | assumption | decide | omega | (simp [up] <;> omega)) (by first | assumption | decide | omega | (simp [up] <;> omega)) (fun c_5 => ?_) (fun c_5 => ?_)
  · first | refine V.aload_nR (pc := 23) d_J_takeOutcome_23 rfl ?_ | refine V.aload_n (pc := 23) d_J_takeOutcome_23 rfl ?_
    refine Vc.get_B (pc := 24) d_J_takeOutcome_24 g_J_75 hC (by first | assumption | omega | (simp [up, up_f] <;> omega)) rfl ?_
    refine Vi.ireturn (pc := 27) d_J_takeOutcome_27 rfl ?_
    first | (refine ⟨by rw [c_5], ?_⟩; rw [c_out, if_pos c_5]; exact hC) | (refine ⟨rfl, ?_⟩; rw [c_out, if_neg c_5]; exact hC)
  · first | refine V.aload_nR (pc := 8) d_J_takeOutcome_8 rfl ?_ | refine V.aload_n (pc := 8) d_J_takeOutcome_8 rfl ?_
    refine V.dup (pc := 9) d_J_takeOutcome_9 (by first | rfl | exact vrf_cat _) ?_
    refine Vc.get_B (pc := 10) d_J_takeOutcome_10 g_J_103 hC (by first | assumption | omega | (simp [up, up_f] <;> omega)) rfl ?_
    first | refine V.aload_nR (pc := 13) d_J_takeOutcome_13 rfl ?_ | refine V.aload_n (pc := 13) d_J_takeOutcome_13 rfl ?_
    refine Vc.get_B (pc := 14) d_J_takeOutcome_14 g_J_103 hC (by first | assumption | omega | (simp [up, up_f] <;> omega)) rfl ?_
    refine Vi.iadd (pc := 17) d_J_takeOutcome_17 ?_
    refine Vc.put_B8 (pc := 18) d_J_takeOutcome_18 f_J_103 hC (by first | assumption | omega | (simp [up, up_f] <;> omega)) (fun hs hC => ?_)
    refine Vi.iconst (pc := 21) d_J_takeOutcome_21 ?_
    refine Vi.ireturn (pc := 22) d_J_takeOutcome_22 rfl ?_
    first | (refine ⟨by rw [c_5], ?_⟩; rw [c_out, if_pos c_5]; exact hC) | (refine ⟨rfl, ?_⟩; rw [c_out, if_neg c_5]; exact hC)
end JD
