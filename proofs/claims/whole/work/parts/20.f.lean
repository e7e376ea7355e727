/-! the reference: firstWaiter, finish, bodyEnds, throwAt, frameEnds -/
section R9
variable {w : jw} {d : Nat} {hs : jh} {mo : Nat} {ra : Nat → Nat} {S T : js} {g : Nat → Option va_E} {b : Nat × Nat}
theorem r_fw {j : Int} (hR : RepR w mo ra S g b hs) (hj : jr j) (hpj : S 16 j < S 1 0) (hJ : 0 ≤ S 1 0 ∧ S 1 0 ≤ 24) (hp : ∀ i, 0 ≤ i → i < S 1 0 → jr (S 26 i) ∧ jr (S 27 i)) (hu : ∀ i, 0 ≤ i → i < S 1 0 → (S 26 i = 4 ∨ S 26 i = 5) → S 27 i = j → i = S 16 j) : ∀ (n : Nat) (k c : Int), 0 ≤ k → k ≤ 24 → 24 ≤ k + n → (c = -1 ∧ ¬ (S 16 j < k ∧ fP S j) ∨ c = S 16 j ∧ S 16 j < k ∧ fP S j) →
    V jcl w m_R_firstWaiter d 4 [(0, .ref mo), (1, .int (ii j)), (2, .int (ii c)), (3, .int (ii k))] [] hs (fun r hs' => ∃ c : Int, r = .inl (some (.int (ii c))) ∧ (c = -1 ∧ ¬ (S 16 j < S 1 0 ∧ fP S j) ∨ c = S 16 j ∧ S 16 j < S 1 0 ∧ fP S j) ∧ hs' = hs) := by
  intro n
  induction n with
  | zero =>
    intro k c h1 h2 h3 hc
    refine V.iload_n (pc := 4) d_R_firstWaiter_4 rfl ?_
    first | refine V.aload_nR (pc := 5) d_R_firstWaiter_5 rfl ?_ | refine V.aload_n (pc := 5) d_R_firstWaiter_5 rfl ?_
    refine Vr.get (pc := 6) d_R_firstWaiter_6 g_R_13 hR rfl ?_
    refine Vi.icmp_ge (pc := 9) (tgt := 69) d_R_firstWaiter_9 (by decide) (by first | assumption | decide | omega | (simp [up] <;> omega)) (by first | assumption | decide | omega | (simp [up] <;> omega)) (fun c_9 => ?_) (fun c_9 => ?_)
    · refine V.iload_n (pc := 69) d_R_firstWaiter_69 rfl ?_
      refine Vi.ireturn (pc := 70) d_R_firstWaiter_70 rfl ?_
      exact ⟨c, rfl, by omega, rfl⟩
    · omega
  | succ n ih =>
    intro k c h1 h2 h3 hc
    have hp' : k < S 1 0 → jr (S 26 k) ∧ jr (S 27 k) := fun z => hp k h1 z
    have hu' : k < S 1 0 → (S 26 k = 4 ∨ S 26 k = 5) → S 27 k = j → k = S 16 j := fun z => hu k h1 z
    have hq : S 16 j = k → (S 26 (S 16 j) = S 26 k ∧ S 27 (S 16 j) = S 27 k) := fun z => by rw [z]; exact ⟨rfl, rfl⟩
    refine V.iload_n (pc := 4) d_R_firstWaiter_4 rfl ?_
    first | refine V.aload_nR (pc := 5) d_R_firstWaiter_5 rfl ?_ | refine V.aload_n (pc := 5) d_R_firstWaiter_5 rfl ?_
    refine Vr.get (pc := 6) d_R_firstWaiter_6 g_R_13 hR rfl ?_
    refine Vi.icmp_ge (pc := 9) (tgt := 69) d_R_firstWaiter_9 (by decide) (by first | assumption | decide | omega | (simp [up] <;> omega)) (by first | assumption | decide | omega | (simp [up] <;> omega)) (fun c_9 => ?_) (fun c_9 => ?_)
    · refine V.iload_n (pc := 69) d_R_firstWaiter_69 rfl ?_
      refine Vi.ireturn (pc := 70) d_R_firstWaiter_70 rfl ?_
      exact ⟨c, rfl, by omega, rfl⟩
    · first | refine V.aload_nR (pc := 12) d_R_firstWaiter_12 rfl ?_ | refine V.aload_n (pc := 12) d_R_firstWaiter_12 rfl ?_
      refine Vr.get (pc := 13) d_R_firstWaiter_13 g_R_91 hR rfl ?_
      refine V.iload_n (pc := 16) d_R_firstWaiter_16 rfl ?_
      refine Vr.ald (pc := 17) (n := 24) d_R_firstWaiter_17 hR (by decide) rfl (by first | assumption | decide | omega | (simp [up] <;> omega)) ?_
      refine Vi.iconst (pc := 18) d_R_firstWaiter_18 ?_
      refine Vi.icmp_eq (pc := 19) (tgt := 32) d_R_firstWaiter_19 (by decide) (by first | assumption | decide | omega | (simp [up] <;> omega)) (by first | assumption | decide | omega | (simp [up] <;> omega)) (fun c_19 => ?_) (fun c_19 => ?_)
      · first | refine V.aload_nR (pc := 32) d_R_firstWaiter_32 rfl ?_ | refine V.aload_n (pc := 32) d_R_firstWaiter_32 rfl ?_
        refine Vr.get (pc := 33) d_R_firstWaiter_33 g_R_94 hR rfl ?_
        refine V.iload_n (pc := 36) d_R_firstWaiter_36 rfl ?_
        refine Vr.ald (pc := 37) (n := 24) d_R_firstWaiter_37 hR (by decide) rfl (by first | assumption | decide | omega | (simp [up] <;> omega)) ?_
        refine V.iload_n (pc := 38) d_R_firstWaiter_38 rfl ?_
        refine Vi.icmp_ne (pc := 39) (tgt := 63) d_R_firstWaiter_39 (by decide) (by first | assumption | decide | omega | (simp [up] <;> omega)) (by first | assumption | decide | omega | (simp [up] <;> omega)) (fun c_39 => ?_) (fun c_39 => ?_)
        · refine Vi.iinc (pc := 63) d_R_firstWaiter_63 rfl (by decide) ?_
          refine V.goto (pc := 66) (tgt := 4) d_R_firstWaiter_66 (by decide) ?_
          exact V.lop (ih ((k + 1)) (c) (by omega) (by omega) (by omega) (by omega)) ⟨rfl, rfl, rfl, rfl, trivial⟩
        · refine V.iload_n (pc := 42) d_R_firstWaiter_42 rfl ?_
          refine Vi.if_lt (pc := 43) (tgt := 61) d_R_firstWaiter_43 (by decide) (by first | assumption | decide | omega | (simp [up] <;> omega)) (fun c_43 => ?_) (fun c_43 => ?_)
          · refine V.iload_n (pc := 61) d_R_firstWaiter_61 rfl ?_
            refine V.istore_n (pc := 62) d_R_firstWaiter_62 (by decide) ?_
            refine Vi.iinc (pc := 63) d_R_firstWaiter_63 rfl (by decide) ?_
            refine V.goto (pc := 66) (tgt := 4) d_R_firstWaiter_66 (by decide) ?_
            exact V.lop (ih ((k + 1)) (k) (by omega) (by omega) (by omega) (by omega)) ⟨rfl, rfl, rfl, rfl, trivial⟩
          · first | refine V.aload_nR (pc := 46) d_R_firstWaiter_46 rfl ?_ | refine V.aload_n (pc := 46) d_R_firstWaiter_46 rfl ?_
            refine Vr.get (pc := 47) d_R_firstWaiter_47 g_R_97 hR rfl ?_
            refine V.iload_n (pc := 50) d_R_firstWaiter_50 rfl ?_
            refine Vr.ald (pc := 51) (n := 24) d_R_firstWaiter_51 hR (by decide) rfl (by first | assumption | decide | omega | (simp [up] <;> omega)) ?_
            first | refine V.aload_nR (pc := 52) d_R_firstWaiter_52 rfl ?_ | refine V.aload_n (pc := 52) d_R_firstWaiter_52 rfl ?_
            refine Vr.get (pc := 53) d_R_firstWaiter_53 g_R_97 hR rfl ?_
            refine V.iload_n (pc := 56) d_R_firstWaiter_56 rfl ?_
            refine Vr.ald (pc := 57) (n := 24) d_R_firstWaiter_57 hR (by decide) rfl (by first | assumption | decide | omega | (simp [up] <;> omega)) ?_
            refine Vi.icmp_ge (pc := 58) (tgt := 63) d_R_firstWaiter_58 (by decide) (by first | assumption | decide | omega | (simp [up] <;> omega)) (by first | assumption | decide | omega | (simp [up] <;> omega)) (fun c_58 => ?_) (fun c_58 => ?_)
            · refine Vi.iinc (pc := 63) d_R_firstWaiter_63 rfl (by decide) ?_
              refine V.goto (pc := 66) (tgt := 4) d_R_firstWaiter_66 (by decide) ?_
              exact V.lop (ih ((k + 1)) (c) (by omega) (by omega) (by omega) (by omega)) ⟨rfl, rfl, rfl, rfl, trivial⟩
            · refine V.iload_n (pc := 61) d_R_firstWaiter_61 rfl ?_
              refine V.istore_n (pc := 62) d_R_firstWaiter_62 (by decide) ?_
              refine Vi.iinc (pc := 63) d_R_firstWaiter_63 rfl (by decide) ?_
              refine V.goto (pc := 66) (tgt := 4) d_R_firstWaiter_66 (by decide) ?_
              exact V.lop (ih ((k + 1)) (k) (by omega) (by omega) (by omega) (by omega)) ⟨rfl, rfl, rfl, rfl, trivial⟩
      · first | refine V.aload_nR (pc := 22) d_R_firstWaiter_22 rfl ?_ | refine V.aload_n (pc := 22) d_R_firstWaiter_22 rfl ?_
        refine Vr.get (pc := 23) d_R_firstWaiter_23 g_R_91 hR rfl ?_
        refine V.iload_n (pc := 26) d_R_firstWaiter_26 rfl ?_
        refine Vr.ald (pc := 27) (n := 24) d_R_firstWaiter_27 hR (by decide) rfl (by first | assumption | decide | omega | (simp [up] <;> omega)) ?_
        refine Vi.iconst (pc := 28) d_R_firstWaiter_28 ?_
        refine Vi.icmp_ne (pc := 29) (tgt := 63) d_R_firstWaiter_29 (by decide) (by first | assumption | decide | omega | (simp [up] <;> omega)) (by first | assumption | decide | omega | (simp [up] <;> omega)) (fun c_29 => ?_) (fun c_29 => ?_)
        · refine Vi.iinc (pc := 63) d_R_firstWaiter_63 rfl (by decide) ?_
          refine V.goto (pc := 66) (tgt := 4) d_R_firstWaiter_66 (by decide) ?_
          exact V.lop (ih ((k + 1)) (c) (by omega) (by omega) (by omega) (by omega)) ⟨rfl, rfl, rfl, rfl, trivial⟩
        · first | refine V.aload_nR (pc := 32) d_R_firstWaiter_32 rfl ?_ | refine V.aload_n (pc := 32) d_R_firstWaiter_32 rfl ?_
          refine Vr.get (pc := 33) d_R_firstWaiter_33 g_R_94 hR rfl ?_
          refine V.iload_n (pc := 36) d_R_firstWaiter_36 rfl ?_
          refine Vr.ald (pc := 37) (n := 24) d_R_firstWaiter_37 hR (by decide) rfl (by first | assumption | decide | omega | (simp [up] <;> omega)) ?_
          refine V.iload_n (pc := 38) d_R_firstWaiter_38 rfl ?_
          refine Vi.icmp_ne (pc := 39) (tgt := 63) d_R_firstWaiter_39 (by decide) (by first | assumption | decide | omega | (simp [up] <;> omega)) (by first | assumption | decide | omega | (simp [up] <;> omega)) (fun c_39 => ?_) (fun c_39 => ?_)
          · refine Vi.iinc (pc := 63) d_R_firstWaiter_63 rfl (by decide) ?_
            refine V.goto (pc := 66) (tgt := 4) d_R_firstWaiter_66 (by decide) ?_
            exact V.lop (ih ((k + 1)) (c) (by omega) (by omega) (by omega) (by omega)) ⟨rfl, rfl, rfl, rfl, trivial⟩
          · refine V.iload_n (pc := 42) d_R_firstWaiter_42 rfl ?_
            refine Vi.if_lt (pc := 43) (tgt := 61) d_R_firstWaiter_43 (by decide) (by first | assumption | decide | omega | (simp [up] <;> omega)) (fun c_43 => ?_) (fun c_43 => ?_)
            · refine V.iload_n (pc := 61) d_R_firstWaiter_61 rfl ?_
              refine V.istore_n (pc := 62) d_R_firstWaiter_62 (by decide) ?_
              refine Vi.iinc (pc := 63) d_R_firstWaiter_63 rfl (by decide) ?_
              refine V.goto (pc := 66) (tgt := 4) d_R_firstWaiter_66 (by decide) ?_
              exact V.lop (ih ((k + 1)) (k) (by omega) (by omega) (by omega) (by omega)) ⟨rfl, rfl, rfl, rfl, trivial⟩
            · first | refine V.aload_nR (pc := 46) d_R_firstWaiter_46 rfl ?_ | refine V.aload_n (pc := 46) d_R_firstWaiter_46 rfl ?_
              refine Vr.get (pc := 47) d_R_firstWaiter_47 g_R_97 hR rfl ?_
              refine V.iload_n (pc := 50) d_R_firstWaiter_50 rfl ?_
              refine Vr.ald (pc := 51) (n := 24) d_R_firstWaiter_51 hR (by decide) rfl (by first | assumption | decide | omega | (simp [up] <;> omega)) ?_
              first | refine V.aload_nR (pc := 52) d_R_firstWaiter_52 rfl ?_ | refine V.aload_n (pc := 52) d_R_firstWaiter_52 rfl ?_
              refine Vr.get (pc := 53) d_R_firstWaiter_53 g_R_97 hR rfl ?_
              refine V.iload_n (pc := 56) d_R_firstWaiter_56 rfl ?_
              refine Vr.ald (pc := 57) (n := 24) d_R_firstWaiter_57 hR (by decide) rfl (by first | assumption | decide | omega | (simp [up] <;> omega)) ?_
              refine Vi.icmp_ge (pc := 58) (tgt := 63) d_R_firstWaiter_58 (by decide) (by first | assumption | decide | omega | (simp [up] <;> omega)) (by first | assumption | decide | omega | (simp [up] <;> omega)) (fun c_58 => ?_) (fun c_58 => ?_)
              · refine Vi.iinc (pc := 63) d_R_firstWaiter_63 rfl (by decide) ?_
                refine V.goto (pc := 66) (tgt := 4) d_R_firstWaiter_66 (by decide) ?_
                exact V.lop (ih ((k + 1)) (c) (by omega) (by omega) (by omega) (by omega)) ⟨rfl, rfl, rfl, rfl, trivial⟩
              · refine V.iload_n (pc := 61) d_R_firstWaiter_61 rfl ?_
                refine V.istore_n (pc := 62) d_R_firstWaiter_62 (by decide) ?_
                refine Vi.iinc (pc := 63) d_R_firstWaiter_63 rfl (by decide) ?_
                refine V.goto (pc := 66) (tgt := 4) d_R_firstWaiter_66 (by decide) ?_
                exact V.lop (ih ((k + 1)) (k) (by omega) (by omega) (by omega) (by omega)) ⟨rfl, rfl, rfl, rfl, trivial⟩
theorem r_firstWaiter {j : Int} (hR : RepR w mo ra S g b hs) (hj : jr j) (hpj : S 16 j < S 1 0) (hJ : 0 ≤ S 1 0 ∧ S 1 0 ≤ 24) (hp : ∀ i, 0 ≤ i → i < S 1 0 → jr (S 26 i) ∧ jr (S 27 i)) (hu : ∀ i, 0 ≤ i → i < S 1 0 → (S 26 i = 4 ∨ S 26 i = 5) → S 27 i = j → i = S 16 j) : V jcl w m_R_firstWaiter d 0 [(0, .ref mo), (1, .int (ii j))] [] hs (fun r hs' => ∃ c : Int, r = .inl (some (.int (ii c))) ∧ (c = -1 ∧ ¬ (S 16 j < S 1 0 ∧ fP S j) ∨ c = S 16 j ∧ S 16 j < S 1 0 ∧ fP S j) ∧ hs' = hs) := by
  refine Vi.iconst (pc := 0) d_R_firstWaiter_0 ?_
  refine V.istore_n (pc := 1) d_R_firstWaiter_1 (by decide) ?_
  refine Vi.iconst (pc := 2) d_R_firstWaiter_2 ?_
  refine V.istore_n (pc := 3) d_R_firstWaiter_3 (by decide) ?_
  exact V.lop (r_fw hR hj hpj hJ hp hu 24 0 (-1) (by omega) (by omega) (by omega) (by omega)) ⟨rfl, rfl, rfl, rfl, trivial⟩
theorem Iv.fw (h : Iv S) {j : Int} : (∀ i, 0 ≤ i → i < S 1 0 → jr (S 26 i) ∧ jr (S 27 i)) ∧ (∀ i, 0 ≤ i → i < S 1 0 → (S 26 i = 4 ∨ S 26 i = 5) → S 27 i = j → i = S 16 j) := by
  refine ⟨fun i z1 z2 => ?_, fun i z1 z2 z3 z4 => (h.wt.one ⟨z1, z2⟩ (by omega) z4).symm⟩
  have := (h.wt i z1 z2).1
  have := (h.wt i z1 z2).2.2.2.2.2.2.2.2.1
  omega
theorem r_finish : ∀ (n : Nat) (S : js) (j : Int) (hs : jh), RepR w mo ra S g b hs → Iv S → Bd (n + 1) S → -1 ≤ j → j < S 1 0 → j < n → (∀ i, 0 ≤ i → i < S 1 0 → S 24 i = 1 → S 21 i = 0) →
    V jcl w m_R_finish (d + 2) 2 [(0, .ref mo), (2, .int (ii j))] [] hs (fun o hs' => o = .inl none ∧ RepR w mo ra (zfin n S j) g b hs') := by
  intro n
  induction n with
  | zero =>
    intro S j hs hR h hB h1 h2 h3 h4
    refine V.iload_n (pc := 2) d_R_finish_2 rfl ?_
    refine Vi.if_lt (pc := 3) (tgt := 183) d_R_finish_3 (by decide) (by first | assumption | decide | omega | (simp [up] <;> omega)) (fun c_3 => ?_) (fun c_3 => ?_)
    · refine V.return_ (pc := 183) d_R_finish_183 rfl ?_
      exact ⟨rfl, hR⟩
    · omega
  | succ n ih =>
    intro S j hs hR h hB h1 h2 h3 h4
    have hJ := h.J
    have hgj : 0 ≤ j → GJ S j := fun z => h.gd.2.1 j z h2
    have hg1 : 0 ≤ j → (-1 ≤ S 16 j ∧ S 16 j < j) := fun z => (hgj z).1
    have hg2 : 0 ≤ j → (0 ≤ S 17 j ∧ S 17 j ≤ 4) := fun z => (hgj z).2.1
    have hg3 : 0 ≤ j → (-1 ≤ S 19 j ∧ S 19 j ≤ 99) := fun z => (hgj z).2.2.1
    have hg4 : 0 ≤ j → (S 24 j = 0 ∨ S 24 j = 1) := fun z => (hgj z).2.2.2.2.1
    have hg5 : 0 ≤ j → (S 25 j = 0 ∨ S 25 j = 1) := fun z => (hgj z).2.2.2.2.2.1
    have hnx := zNC (S := S) (j := j) 24 0 (by omega) (by omega)
    have hnj : jr (z_nextChild S j 25 0) := by rcases hnx with z | z <;> (show jr (z_nextChild S j (24 + 1) 0)) <;> omega
    have hnone : ¬ (0 ≤ j ∧ S 25 j = 0 ∧ S 24 j = 1 ∧ z_nextChild S j 25 0 < 0) → zfin (n + 1) S j = S := fun z => by rw [zfin, if_neg z]
    refine V.iload_n (pc := 2) d_R_finish_2 rfl ?_
    refine Vi.if_lt (pc := 3) (tgt := 183) d_R_finish_3 (by decide) (by first | assumption | decide | omega | (simp [up] <;> omega)) (fun c_3 => ?_) (fun c_3 => ?_)
    · refine V.return_ (pc := 183) d_R_finish_183 rfl ?_
      exact ⟨rfl, by rw [hnone (by omega)]; exact hR⟩
    · first | refine V.aload_nR (pc := 6) d_R_finish_6 rfl ?_ | refine V.aload_n (pc := 6) d_R_finish_6 rfl ?_
      refine Vr.get (pc := 7) d_R_finish_7 g_R_88 hR rfl ?_
      refine V.iload_n (pc := 10) d_R_finish_10 rfl ?_
      refine Vr.zald (pc := 11) (n := 24) d_R_finish_11 hR (by decide) rfl (by first | assumption | decide | omega | (simp [up] <;> omega)) ?_
      refine Vi.if_ne (pc := 12) (tgt := 183) d_R_finish_12 (by decide) (by first | assumption | decide | omega | (simp [up] <;> omega)) (fun c_12 => ?_) (fun c_12 => ?_)
      · refine V.return_ (pc := 183) d_R_finish_183 rfl ?_
        exact ⟨rfl, by rw [hnone (by omega)]; exact hR⟩
      · first | refine V.aload_nR (pc := 15) d_R_finish_15 rfl ?_ | refine V.aload_n (pc := 15) d_R_finish_15 rfl ?_
        refine Vr.get (pc := 16) d_R_finish_16 g_R_84 hR rfl ?_
        refine V.iload_n (pc := 19) d_R_finish_19 rfl ?_
        refine Vr.zald (pc := 20) (n := 24) d_R_finish_20 hR (by decide) rfl (by first | assumption | decide | omega | (simp [up] <;> omega)) ?_
        refine Vi.if_eq (pc := 21) (tgt := 183) d_R_finish_21 (by decide) (by first | assumption | decide | omega | (simp [up] <;> omega)) (fun c_21 => ?_) (fun c_21 => ?_)
        · refine V.return_ (pc := 183) d_R_finish_183 rfl ?_
          exact ⟨rfl, by rw [hnone (by omega)]; exact hR⟩
        · first | refine V.aload_nR (pc := 24) d_R_finish_24 rfl ?_ | refine V.aload_n (pc := 24) d_R_finish_24 rfl ?_
          refine V.iload_n (pc := 25) d_R_finish_25 rfl ?_
          refine Vi.iconst (pc := 26) d_R_finish_26 ?_
          refine V.callV (pc := 27) d_R_finish_27 Y_R_nextChild l_R_162 wi_R_nextChild wv_R_nextChild (ci := 6) rfl rfl [_, _] hR.o rfl rfl ⟨by repeat (first | exact trivial | refine ⟨(by first | rfl | exact vrf_cat _), ?_⟩), Nat.le_of_ble_eq_true rfl⟩ ⟨⟨rfl, (by first | rfl | exact vrf_cat _), (by first | rfl | exact vrf_cat _), trivial⟩, Nat.le_of_ble_eq_true rfl⟩ (r_nextChild0 hR (by omega) hJ (fun i z1 z2 => ⟨by have := (h.gd.2.1 i z1 z2).1; omega, by have := (h.gd.2.1 i z1 z2).2.2.2.2.2.1; omega⟩) (by omega)) (fun v hs ho => ?_) (fun E hs ho => by simp at ho)
          obtain ⟨ho, rfl⟩ := ho
          cases ho
          refine Vi.if_ge (pc := 30) (tgt := 183) d_R_finish_30 (by decide) (by first | assumption | decide | omega | (simp [up] <;> omega)) (fun c_30 => ?_) (fun c_30 => ?_)
          · refine V.return_ (pc := 183) d_R_finish_183 rfl ?_
            exact ⟨rfl, by rw [hnone (by omega)]; exact hR⟩
          · have hz : zfin (n + 1) S j = zfin n (z_fin2 S j) (S 16 j) := by rw [zfin, if_pos (by omega)]
            rw [hz]
            have h21 : S 21 j = 0 := h4 j (by omega) h2 (by omega)
            have hj0 : 0 ≤ j ∧ j < S 1 0 := by omega
            have h2a := h.fin2 (m := n + 1) (hB.le (by omega)) hj0 (by omega) h21
            have h1a := h.fin1 hj0 (by omega) h21
            have hwj := h.wt j hj0.1 hj0.2
            have hs0 : S 17 j = 0 ↔ S 16 j = -1 := hwj.2.2.2.2.2.2.1
            have hg1 := hg1 hj0.1
            have hg2 := hg2 hj0.1
            have hg3 := hg3 hj0.1
            have hgp : 0 ≤ S 16 j → (0 ≤ S 17 (S 16 j) ∧ S 17 (S 16 j) ≤ 4) := fun z => (h.gd.2.1 _ z (by omega)).2.1
            have hw8 : 1 < S 17 j → S 26 (S 16 j) = 8 ∧ S 27 (S 16 j) = j := fun z => hwj.2.2.2.2.2.1 z (by omega)
            have hre : S 26 (S 16 j) ≠ 0 → 0 ≤ S 16 j → 0 ≤ S 7 0 ∧ S 7 0 < 24 := fun z1 z2 => ⟨h.gd.2.2.1.1, h.gd.2.2.room hJ.2 (k := S 16 j) (by omega) (h.gd.2.2.nr z1)⟩
            have hwpj : 0 ≤ S 16 j → jr (S 26 (S 16 j)) := fun z => (h.fw (j := j)).1 _ z (by omega) |>.1
            first | refine V.aload_nR (pc := 33) d_R_finish_33 rfl ?_ | refine V.aload_n (pc := 33) d_R_finish_33 rfl ?_
            refine Vr.get (pc := 34) d_R_finish_34 g_R_88 hR rfl ?_
            refine V.iload_n (pc := 37) d_R_finish_37 rfl ?_
            refine Vi.iconst (pc := 38) d_R_finish_38 ?_
            refine Vr.zast (pc := 39) (n := 24) d_R_finish_39 hR (by decide) rfl (by first | assumption | decide | omega | (simp [up] <;> omega)) (by omega) (fun hs hR => ?_)
            first | refine V.aload_nR (pc := 40) d_R_finish_40 rfl ?_ | refine V.aload_n (pc := 40) d_R_finish_40 rfl ?_
            refine Vr.get (pc := 41) d_R_finish_41 g_R_60 hR rfl ?_
            refine V.iload_n (pc := 44) d_R_finish_44 rfl ?_
            refine Vr.ald (pc := 45) (n := 24) d_R_finish_45 hR (by decide) rfl (by first | assumption | decide | omega | (simp [up] <;> omega)) ?_
            refine V.istore_n (pc := 46) d_R_finish_46 (by decide) ?_
            first | refine V.aload_nR (pc := 47) d_R_finish_47 rfl ?_ | refine V.aload_n (pc := 47) d_R_finish_47 rfl ?_
            refine V.iload_n (pc := 48) d_R_finish_48 rfl ?_
            rw [up_f (show (16 : Nat) ≠ 25 by decide)]
            refine V.callV (pc := 49) d_R_finish_49 Y_R_firstWaiter l_R_174 wi_R_firstWaiter wv_R_firstWaiter (ci := 6) rfl rfl [_] hR.o rfl rfl ⟨by repeat (first | exact trivial | refine ⟨(by first | rfl | exact vrf_cat _), ?_⟩), Nat.le_of_ble_eq_true rfl⟩ ⟨⟨rfl, (by first | rfl | exact vrf_cat _), trivial⟩, Nat.le_of_ble_eq_true rfl⟩ (r_firstWaiter hR (by omega) (by simp [up]; omega) (by simpa [up] using hJ) (by simpa [up] using (h.fw (j := j)).1) (by simpa [up] using (h.fw (j := j)).2)) (fun v hs ho => ?_) (fun E hs ho => by simp at ho)
            obtain ⟨c, ho, hc, rfl⟩ := ho
            cases ho
            simp only [fP, up_f (show (16 : Nat) ≠ 25 by decide), up_f (show (26 : Nat) ≠ 25 by decide), up_f (show (27 : Nat) ≠ 25 by decide), up_f (show (1 : Nat) ≠ 25 by decide)] at hc
            have tail : ∀ hs, RepR w mo ra (z_fin1 S j) g b hs → V jcl w m_R_finish (d + 2) 92 [(0, .ref mo), (2, .int (ii j)), (3, .int (ii (S 16 j)))] [] hs (fun o hs' => o = .inl none ∧ RepR w mo ra (zfin n (z_fin2 S j) (S 16 j)) g b hs') := by
              intro hs hR
              obtain ⟨e, e25⟩ := z_fin1_e (S := S) (j := j)
              have e19 : z_fin1 S j 19 j = S 19 j := e 19 j (by decide) (by decide) (by decide) (by decide) (by decide) (by decide) (by decide)
              have e17 : ∀ i, z_fin1 S j 17 i = S 17 i := fun i => e 17 i (by decide) (by decide) (by decide) (by decide) (by decide) (by decide) (by decide)
              have e1 : z_fin1 S j 1 0 = S 1 0 := e 1 0 (by decide) (by decide) (by decide) (by decide) (by decide) (by decide) (by decide)
              have e3 : z_fin1 S j 3 0 = S 3 0 := e 3 0 (by decide) (by decide) (by decide) (by decide) (by decide) (by decide) (by decide)
              have hw3 : 0 ≤ z_fin1 S j 3 0 ∧ z_fin1 S j 3 0 < 2000000000 := by rw [e3]; have := h.tm.1.2.1; have := hB.2.1; omega
              have hend : ∀ hs, RepR w mo ra (z_fin2 S j) g b hs → V jcl w m_R_finish (d + 2) 178 [(0, .ref mo), (2, .int (ii j)), (3, .int (ii (S 16 j)))] [] hs (fun o hs' => o = .inl none ∧ RepR w mo ra (zfin n (z_fin2 S j) (S 16 j)) g b hs') := by
                intro hs hR
                refine V.iload_n (pc := 178) d_R_finish_178 rfl ?_
                refine V.istore_n (pc := 179) d_R_finish_179 (by decide) ?_
                refine V.goto (pc := 180) (tgt := 2) d_R_finish_180 (by decide) ?_
                refine V.lop (ih (z_fin2 S j) (S 16 j) _ hR h2a.1 (by exact h2a.2.1) (by omega) (by rw [h2a.2.2.1]; omega) (by omega) ?_) ⟨rfl, rfl, trivial⟩
                rw [h2a.2.2.1]
                simpa [h2a.2.2.2.2.1, h2a.2.2.2.2.2] using h4
              first | refine V.aload_nR (pc := 92) d_R_finish_92 rfl ?_ | refine V.aload_n (pc := 92) d_R_finish_92 rfl ?_
              refine Vr.get (pc := 93) d_R_finish_93 g_R_69 hR rfl ?_
              refine V.iload_n (pc := 96) d_R_finish_96 rfl ?_
              refine Vr.ald (pc := 97) (n := 24) d_R_finish_97 hR (by decide) rfl (by first | assumption | decide | omega | (simp [up] <;> omega)) ?_
              rw [e19]
              refine Vi.if_le (pc := 98) (tgt := 147) d_R_finish_98 (by decide) (by first | assumption | decide | omega | (simp [up] <;> omega)) (fun c_98 => ?_) (fun c_98 => ?_)
              · first | refine V.aload_nR (pc := 147) d_R_finish_147 rfl ?_ | refine V.aload_n (pc := 147) d_R_finish_147 rfl ?_
                refine Vr.get (pc := 148) d_R_finish_148 g_R_69 hR rfl ?_
                refine V.iload_n (pc := 151) d_R_finish_151 rfl ?_
                refine Vr.ald (pc := 152) (n := 24) d_R_finish_152 hR (by decide) rfl (by first | assumption | decide | omega | (simp [up] <;> omega)) ?_
                rw [e19]
                refine Vi.if_le (pc := 153) (tgt := 178) d_R_finish_153 (by decide) (by first | assumption | decide | omega | (simp [up] <;> omega)) (fun c_153 => ?_) (fun c_153 => ?_)
                · refine V.lop (hend _ ?_) ⟨rfl, rfl, rfl, trivial⟩
                  unfold z_fin2
                  (repeat' split) <;> first | exact hR | (exfalso; omega)
                · first | refine V.aload_nR (pc := 156) d_R_finish_156 rfl ?_ | refine V.aload_n (pc := 156) d_R_finish_156 rfl ?_
                  refine Vr.get (pc := 157) d_R_finish_157 g_R_63 hR rfl ?_
                  refine V.iload_n (pc := 160) d_R_finish_160 rfl ?_
                  refine Vr.ald (pc := 161) (n := 24) d_R_finish_161 hR (by decide) rfl (by first | assumption | decide | omega | (simp [up] <;> omega)) ?_
                  rw [e17]
                  refine Vi.iconst (pc := 162) d_R_finish_162 ?_
                  refine Vi.icmp_ne (pc := 163) (tgt := 178) d_R_finish_163 (by decide) (by first | assumption | decide | omega | (simp [up] <;> omega)) (by first | assumption | decide | omega | (simp [up] <;> omega)) (fun c_163 => ?_) (fun c_163 => ?_)
                  · refine V.lop (hend _ ?_) ⟨rfl, rfl, rfl, trivial⟩
                    unfold z_fin2
                    (repeat' split) <;> first | exact hR | (exfalso; omega)
                  · first | refine V.aload_nR (pc := 166) d_R_finish_166 rfl ?_ | refine V.aload_n (pc := 166) d_R_finish_166 rfl ?_
                    refine V.iload_n (pc := 167) d_R_finish_167 rfl ?_
                    first | refine V.aload_nR (pc := 168) d_R_finish_168 rfl ?_ | refine V.aload_n (pc := 168) d_R_finish_168 rfl ?_
                    refine Vr.get (pc := 169) d_R_finish_169 g_R_69 hR rfl ?_
                    refine V.iload_n (pc := 172) d_R_finish_172 rfl ?_
                    refine Vr.ald (pc := 173) (n := 24) d_R_finish_173 hR (by decide) rfl (by first | assumption | decide | omega | (simp [up] <;> omega)) ?_
                    rw [e19]
                    refine V.callV (pc := 174) d_R_finish_174 Y_R_give l_R_170 wi_R_give wv_R_give (ci := 6) rfl rfl [_, _] hR.o rfl rfl ⟨by repeat (first | exact trivial | refine ⟨(by first | rfl | exact vrf_cat _), ?_⟩), Nat.le_of_ble_eq_true rfl⟩ ⟨⟨rfl, (by first | rfl | exact vrf_cat _), (by first | rfl | exact vrf_cat _), trivial⟩, Nat.le_of_ble_eq_true rfl⟩ (r_give hR h1a.gd (by rw [e1]; omega) (by omega)) (fun v hs ho => ?_) (fun E hs ho => by simp at ho)
                    obtain ⟨r_174, ho, hr_174, hR⟩ := ho
                    cases ho
                    refine V.pop (pc := 177) d_R_finish_177 (by first | rfl | exact vrf_cat _) ?_
                    refine V.lop (hend _ ?_) ⟨rfl, rfl, rfl, trivial⟩
                    unfold z_fin2
                    (repeat' split) <;> first | exact hR | (exfalso; omega)
              · first | refine V.aload_nR (pc := 101) d_R_finish_101 rfl ?_ | refine V.aload_n (pc := 101) d_R_finish_101 rfl ?_
                refine Vr.get (pc := 102) d_R_finish_102 g_R_63 hR rfl ?_
                refine V.iload_n (pc := 105) d_R_finish_105 rfl ?_
                refine Vr.ald (pc := 106) (n := 24) d_R_finish_106 hR (by decide) rfl (by first | assumption | decide | omega | (simp [up] <;> omega)) ?_
                rw [e17]
                refine Vi.if_eq (pc := 107) (tgt := 130) d_R_finish_107 (by decide) (by first | assumption | decide | omega | (simp [up] <;> omega)) (fun c_107 => ?_) (fun c_107 => ?_)
                · first | refine V.aload_nR (pc := 130) d_R_finish_130 rfl ?_ | refine V.aload_n (pc := 130) d_R_finish_130 rfl ?_
                  refine Vi.sipush (pc := 131) d_R_finish_131 (by decide) ?_
                  first | refine V.aload_nR (pc := 134) d_R_finish_134 rfl ?_ | refine V.aload_n (pc := 134) d_R_finish_134 rfl ?_
                  refine Vr.get (pc := 135) d_R_finish_135 g_R_69 hR rfl ?_
                  refine V.iload_n (pc := 138) d_R_finish_138 rfl ?_
                  refine Vr.ald (pc := 139) (n := 24) d_R_finish_139 hR (by decide) rfl (by first | assumption | decide | omega | (simp [up] <;> omega)) ?_
                  rw [e19]
                  refine Vi.iadd (pc := 140) d_R_finish_140 ?_
                  refine V.callV (pc := 141) d_R_finish_141 Y_R_write l_R_180 wi_R_write wv_R_write (ci := 6) rfl rfl [_] hR.o rfl rfl ⟨by repeat (first | exact trivial | refine ⟨(by first | rfl | exact vrf_cat _), ?_⟩), Nat.le_of_ble_eq_true rfl⟩ ⟨⟨rfl, (by first | rfl | exact vrf_cat _), trivial⟩, Nat.le_of_ble_eq_true rfl⟩ (r_write hR hw3) (fun v hs ho => ?_) (fun E hs ho => by simp at ho)
                  obtain ⟨ho, hR⟩ := ho
                  cases ho
                  refine V.goto (pc := 144) (tgt := 178) d_R_finish_144 (by decide) ?_
                  refine V.lop (hend _ ?_) ⟨rfl, rfl, rfl, trivial⟩
                  unfold z_fin2
                  (repeat' split) <;> first | exact hR | (exfalso; omega)
                · first | refine V.aload_nR (pc := 110) d_R_finish_110 rfl ?_ | refine V.aload_n (pc := 110) d_R_finish_110 rfl ?_
                  refine Vr.get (pc := 111) d_R_finish_111 g_R_63 hR rfl ?_
                  refine V.iload_n (pc := 114) d_R_finish_114 rfl ?_
                  refine Vr.ald (pc := 115) (n := 24) d_R_finish_115 hR (by decide) rfl (by first | assumption | decide | omega | (simp [up] <;> omega)) ?_
                  rw [e17]
                  refine Vi.iconst (pc := 116) d_R_finish_116 ?_
                  refine Vi.icmp_ne (pc := 117) (tgt := 147) d_R_finish_117 (by decide) (by first | assumption | decide | omega | (simp [up] <;> omega)) (by first | assumption | decide | omega | (simp [up] <;> omega)) (fun c_117 => ?_) (fun c_117 => ?_)
                  · first | refine V.aload_nR (pc := 147) d_R_finish_147 rfl ?_ | refine V.aload_n (pc := 147) d_R_finish_147 rfl ?_
                    refine Vr.get (pc := 148) d_R_finish_148 g_R_69 hR rfl ?_
                    refine V.iload_n (pc := 151) d_R_finish_151 rfl ?_
                    refine Vr.ald (pc := 152) (n := 24) d_R_finish_152 hR (by decide) rfl (by first | assumption | decide | omega | (simp [up] <;> omega)) ?_
                    rw [e19]
                    refine Vi.if_le (pc := 153) (tgt := 178) d_R_finish_153 (by decide) (by first | assumption | decide | omega | (simp [up] <;> omega)) (fun c_153 => ?_) (fun c_153 => ?_)
                    · refine V.lop (hend _ ?_) ⟨rfl, rfl, rfl, trivial⟩
                      unfold z_fin2
                      (repeat' split) <;> first | exact hR | (exfalso; omega)
                    · first | refine V.aload_nR (pc := 156) d_R_finish_156 rfl ?_ | refine V.aload_n (pc := 156) d_R_finish_156 rfl ?_
                      refine Vr.get (pc := 157) d_R_finish_157 g_R_63 hR rfl ?_
                      refine V.iload_n (pc := 160) d_R_finish_160 rfl ?_
                      refine Vr.ald (pc := 161) (n := 24) d_R_finish_161 hR (by decide) rfl (by first | assumption | decide | omega | (simp [up] <;> omega)) ?_
                      rw [e17]
                      refine Vi.iconst (pc := 162) d_R_finish_162 ?_
                      refine Vi.icmp_ne (pc := 163) (tgt := 178) d_R_finish_163 (by decide) (by first | assumption | decide | omega | (simp [up] <;> omega)) (by first | assumption | decide | omega | (simp [up] <;> omega)) (fun c_163 => ?_) (fun c_163 => ?_)
                      · refine V.lop (hend _ ?_) ⟨rfl, rfl, rfl, trivial⟩
                        unfold z_fin2
                        (repeat' split) <;> first | exact hR | (exfalso; omega)
                      · first | refine V.aload_nR (pc := 166) d_R_finish_166 rfl ?_ | refine V.aload_n (pc := 166) d_R_finish_166 rfl ?_
                        refine V.iload_n (pc := 167) d_R_finish_167 rfl ?_
                        first | refine V.aload_nR (pc := 168) d_R_finish_168 rfl ?_ | refine V.aload_n (pc := 168) d_R_finish_168 rfl ?_
                        refine Vr.get (pc := 169) d_R_finish_169 g_R_69 hR rfl ?_
                        refine V.iload_n (pc := 172) d_R_finish_172 rfl ?_
                        refine Vr.ald (pc := 173) (n := 24) d_R_finish_173 hR (by decide) rfl (by first | assumption | decide | omega | (simp [up] <;> omega)) ?_
                        rw [e19]
                        refine V.callV (pc := 174) d_R_finish_174 Y_R_give l_R_170 wi_R_give wv_R_give (ci := 6) rfl rfl [_, _] hR.o rfl rfl ⟨by repeat (first | exact trivial | refine ⟨(by first | rfl | exact vrf_cat _), ?_⟩), Nat.le_of_ble_eq_true rfl⟩ ⟨⟨rfl, (by first | rfl | exact vrf_cat _), (by first | rfl | exact vrf_cat _), trivial⟩, Nat.le_of_ble_eq_true rfl⟩ (r_give hR h1a.gd (by rw [e1]; omega) (by omega)) (fun v hs ho => ?_) (fun E hs ho => by simp at ho)
                        obtain ⟨r_174, ho, hr_174, hR⟩ := ho
                        cases ho
                        refine V.pop (pc := 177) d_R_finish_177 (by first | rfl | exact vrf_cat _) ?_
                        refine V.lop (hend _ ?_) ⟨rfl, rfl, rfl, trivial⟩
                        unfold z_fin2
                        (repeat' split) <;> first | exact hR | (exfalso; omega)
                  · first | refine V.aload_nR (pc := 120) d_R_finish_120 rfl ?_ | refine V.aload_n (pc := 120) d_R_finish_120 rfl ?_
                    refine Vr.get (pc := 121) d_R_finish_121 g_R_63 hR rfl ?_
                    refine V.iload_n (pc := 124) d_R_finish_124 rfl ?_
                    refine Vr.ald (pc := 125) (n := 24) d_R_finish_125 hR (by decide) rfl (by first | assumption | decide | omega | (simp [up] <;> omega)) ?_
                    rw [e17]
                    refine Vi.iconst (pc := 126) d_R_finish_126 ?_
                    refine Vi.icmp_ne (pc := 127) (tgt := 147) d_R_finish_127 (by decide) (by first | assumption | decide | omega | (simp [up] <;> omega)) (by first | assumption | decide | omega | (simp [up] <;> omega)) (fun c_127 => ?_) (fun c_127 => ?_)
                    · first | refine V.aload_nR (pc := 147) d_R_finish_147 rfl ?_ | refine V.aload_n (pc := 147) d_R_finish_147 rfl ?_
                      refine Vr.get (pc := 148) d_R_finish_148 g_R_69 hR rfl ?_
                      refine V.iload_n (pc := 151) d_R_finish_151 rfl ?_
                      refine Vr.ald (pc := 152) (n := 24) d_R_finish_152 hR (by decide) rfl (by first | assumption | decide | omega | (simp [up] <;> omega)) ?_
                      rw [e19]
                      refine Vi.if_le (pc := 153) (tgt := 178) d_R_finish_153 (by decide) (by first | assumption | decide | omega | (simp [up] <;> omega)) (fun c_153 => ?_) (fun c_153 => ?_)
                      · refine V.lop (hend _ ?_) ⟨rfl, rfl, rfl, trivial⟩
                        unfold z_fin2
                        (repeat' split) <;> first | exact hR | (exfalso; omega)
                      · first | refine V.aload_nR (pc := 156) d_R_finish_156 rfl ?_ | refine V.aload_n (pc := 156) d_R_finish_156 rfl ?_
                        refine Vr.get (pc := 157) d_R_finish_157 g_R_63 hR rfl ?_
                        refine V.iload_n (pc := 160) d_R_finish_160 rfl ?_
                        refine Vr.ald (pc := 161) (n := 24) d_R_finish_161 hR (by decide) rfl (by first | assumption | decide | omega | (simp [up] <;> omega)) ?_
                        rw [e17]
                        refine Vi.iconst (pc := 162) d_R_finish_162 ?_
                        refine Vi.icmp_ne (pc := 163) (tgt := 178) d_R_finish_163 (by decide) (by first | assumption | decide | omega | (simp [up] <;> omega)) (by first | assumption | decide | omega | (simp [up] <;> omega)) (fun c_163 => ?_) (fun c_163 => ?_)
                        · refine V.lop (hend _ ?_) ⟨rfl, rfl, rfl, trivial⟩
                          unfold z_fin2
                          (repeat' split) <;> first | exact hR | (exfalso; omega)
                        · first | refine V.aload_nR (pc := 166) d_R_finish_166 rfl ?_ | refine V.aload_n (pc := 166) d_R_finish_166 rfl ?_
                          refine V.iload_n (pc := 167) d_R_finish_167 rfl ?_
                          first | refine V.aload_nR (pc := 168) d_R_finish_168 rfl ?_ | refine V.aload_n (pc := 168) d_R_finish_168 rfl ?_
                          refine Vr.get (pc := 169) d_R_finish_169 g_R_69 hR rfl ?_
                          refine V.iload_n (pc := 172) d_R_finish_172 rfl ?_
                          refine Vr.ald (pc := 173) (n := 24) d_R_finish_173 hR (by decide) rfl (by first | assumption | decide | omega | (simp [up] <;> omega)) ?_
                          rw [e19]
                          refine V.callV (pc := 174) d_R_finish_174 Y_R_give l_R_170 wi_R_give wv_R_give (ci := 6) rfl rfl [_, _] hR.o rfl rfl ⟨by repeat (first | exact trivial | refine ⟨(by first | rfl | exact vrf_cat _), ?_⟩), Nat.le_of_ble_eq_true rfl⟩ ⟨⟨rfl, (by first | rfl | exact vrf_cat _), (by first | rfl | exact vrf_cat _), trivial⟩, Nat.le_of_ble_eq_true rfl⟩ (r_give hR h1a.gd (by rw [e1]; omega) (by omega)) (fun v hs ho => ?_) (fun E hs ho => by simp at ho)
                          obtain ⟨r_174, ho, hr_174, hR⟩ := ho
                          cases ho
                          refine V.pop (pc := 177) d_R_finish_177 (by first | rfl | exact vrf_cat _) ?_
                          refine V.lop (hend _ ?_) ⟨rfl, rfl, rfl, trivial⟩
                          unfold z_fin2
                          (repeat' split) <;> first | exact hR | (exfalso; omega)
                    · first | refine V.aload_nR (pc := 130) d_R_finish_130 rfl ?_ | refine V.aload_n (pc := 130) d_R_finish_130 rfl ?_
                      refine Vi.sipush (pc := 131) d_R_finish_131 (by decide) ?_
                      first | refine V.aload_nR (pc := 134) d_R_finish_134 rfl ?_ | refine V.aload_n (pc := 134) d_R_finish_134 rfl ?_
                      refine Vr.get (pc := 135) d_R_finish_135 g_R_69 hR rfl ?_
                      refine V.iload_n (pc := 138) d_R_finish_138 rfl ?_
                      refine Vr.ald (pc := 139) (n := 24) d_R_finish_139 hR (by decide) rfl (by first | assumption | decide | omega | (simp [up] <;> omega)) ?_
                      rw [e19]
                      refine Vi.iadd (pc := 140) d_R_finish_140 ?_
                      refine V.callV (pc := 141) d_R_finish_141 Y_R_write l_R_180 wi_R_write wv_R_write (ci := 6) rfl rfl [_] hR.o rfl rfl ⟨by repeat (first | exact trivial | refine ⟨(by first | rfl | exact vrf_cat _), ?_⟩), Nat.le_of_ble_eq_true rfl⟩ ⟨⟨rfl, (by first | rfl | exact vrf_cat _), trivial⟩, Nat.le_of_ble_eq_true rfl⟩ (r_write hR hw3) (fun v hs ho => ?_) (fun E hs ho => by simp at ho)
                      obtain ⟨ho, hR⟩ := ho
                      cases ho
                      refine V.goto (pc := 144) (tgt := 178) d_R_finish_144 (by decide) ?_
                      refine V.lop (hend _ ?_) ⟨rfl, rfl, rfl, trivial⟩
                      unfold z_fin2
                      (repeat' split) <;> first | exact hR | (exfalso; omega)
            rcases hc with ⟨rfl, hc⟩ | ⟨rfl, hcp, hc⟩
            · refine V.istore (pc := 52) d_R_finish_52 (by decide) ?_
              refine V.iload (pc := 54) d_R_finish_54 rfl ?_
              refine Vi.if_lt (pc := 56) (tgt := 76) d_R_finish_56 (by decide) (by decide) (fun c_56 => ?_) (fun c_56 => ?_)
              · first | refine V.aload_nR (pc := 76) d_R_finish_76 rfl ?_ | refine V.aload_n (pc := 76) d_R_finish_76 rfl ?_
                refine Vr.get (pc := 77) d_R_finish_77 g_R_63 hR rfl ?_
                refine V.iload_n (pc := 80) d_R_finish_80 rfl ?_
                refine Vr.ald (pc := 81) (n := 24) d_R_finish_81 hR (by decide) rfl (by first | assumption | decide | omega | (simp [up] <;> omega)) ?_
                refine Vi.iconst (pc := 82) d_R_finish_82 ?_
                rw [up_f (show (17 : Nat) ≠ 25 by decide)]
                refine Vi.icmp_le (pc := 83) (tgt := 92) d_R_finish_83 (by decide) (by first | assumption | decide | omega | (simp [up] <;> omega)) (by first | assumption | decide | omega | (simp [up] <;> omega)) (fun c_83 => ?_) (fun c_83 => ?_)
                · refine V.lop (tail _ ?_) ⟨rfl, rfl, rfl, trivial⟩
                  rw [z_fin1, if_neg (fun z => hc ⟨by omega, z⟩), if_neg (by omega)]
                  exact hR
                · have hw8 := hw8 (by omega)
                  first | refine V.aload_nR (pc := 86) d_R_finish_86 rfl ?_ | refine V.aload_n (pc := 86) d_R_finish_86 rfl ?_
                  refine V.iload_n (pc := 87) d_R_finish_87 rfl ?_
                  refine V.iload_n (pc := 88) d_R_finish_88 rfl ?_
                  refine V.callV (pc := 89) d_R_finish_89 Y_R_wake l_R_177 wi_R_wake wv_R_wake (ci := 6) rfl rfl [_, _] hR.o rfl rfl ⟨by repeat (first | exact trivial | refine ⟨(by first | rfl | exact vrf_cat _), ?_⟩), Nat.le_of_ble_eq_true rfl⟩ ⟨⟨rfl, (by first | rfl | exact vrf_cat _), (by first | rfl | exact vrf_cat _), trivial⟩, Nat.le_of_ble_eq_true rfl⟩ (r_wake hR (by omega) (by omega) (by simpa [up] using hre (by omega) (by omega)) (by simpa [up] using hwpj (by omega)) (by simp [up]; omega)) (fun v hs ho => ?_) (fun E hs ho => by simp at ho)
                  obtain ⟨ho, hR⟩ := ho
                  cases ho
                  refine V.lop (tail _ ?_) ⟨rfl, rfl, rfl, trivial⟩
                  rw [z_fin1, if_neg (fun z => hc ⟨by omega, z⟩), if_pos (by omega)]
                  exact hR
              · omega
            · refine V.istore (pc := 52) d_R_finish_52 (by decide) ?_
              refine V.iload (pc := 54) d_R_finish_54 rfl ?_
              refine Vi.if_lt (pc := 56) (tgt := 76) d_R_finish_56 (by decide) (by first | assumption | decide | omega | (simp [up] <;> omega)) (fun c_56 => ?_) (fun c_56 => ?_)
              · omega
              · first | refine V.aload_nR (pc := 59) d_R_finish_59 rfl ?_ | refine V.aload_n (pc := 59) d_R_finish_59 rfl ?_
                refine V.iload (pc := 60) d_R_finish_60 rfl ?_
                refine V.iload_n (pc := 62) d_R_finish_62 rfl ?_
                refine V.callV (pc := 63) d_R_finish_63 Y_R_wake l_R_177 wi_R_wake wv_R_wake (ci := 6) rfl rfl [_, _] hR.o rfl rfl ⟨by repeat (first | exact trivial | refine ⟨(by first | rfl | exact vrf_cat _), ?_⟩), Nat.le_of_ble_eq_true rfl⟩ ⟨⟨rfl, (by first | rfl | exact vrf_cat _), (by first | rfl | exact vrf_cat _), trivial⟩, Nat.le_of_ble_eq_true rfl⟩ (r_wake hR (by omega) (by omega) (by simpa [up] using hre (by omega) (by omega)) (by simpa [up] using hwpj (by omega)) (by simp [up]; omega)) (fun v hs ho => ?_) (fun E hs ho => by simp at ho)
                obtain ⟨ho, hR⟩ := ho
                cases ho
                have hz1 : z_fin1 S j = z_wake (up S 25 j 1) (S 16 j) j := by rw [z_fin1, if_pos hc]
                rw [← hz1] at hR
                obtain ⟨e, e25⟩ := z_fin1_e (S := S) (j := j)
                have e1 : z_fin1 S j 1 0 = S 1 0 := e 1 0 (by decide) (by decide) (by decide) (by decide) (by decide) (by decide) (by decide)
                have e16 : z_fin1 S j 16 j = S 16 j := e 16 j (by decide) (by decide) (by decide) (by decide) (by decide) (by decide) (by decide)
                have e17 : z_fin1 S j 17 j = S 17 j := e 17 j (by decide) (by decide) (by decide) (by decide) (by decide) (by decide) (by decide)
                have e26 : z_fin1 S j 26 (S 16 j) = 0 := by rw [hz1, z_wake_e.2.1, if_pos rfl]
                first | refine V.aload_nR (pc := 66) d_R_finish_66 rfl ?_ | refine V.aload_n (pc := 66) d_R_finish_66 rfl ?_
                refine V.iload_n (pc := 67) d_R_finish_67 rfl ?_
                refine V.callV (pc := 68) d_R_finish_68 Y_R_firstWaiter l_R_174 wi_R_firstWaiter wv_R_firstWaiter (ci := 6) rfl rfl [_] hR.o rfl rfl ⟨by repeat (first | exact trivial | refine ⟨(by first | rfl | exact vrf_cat _), ?_⟩), Nat.le_of_ble_eq_true rfl⟩ ⟨⟨rfl, (by first | rfl | exact vrf_cat _), trivial⟩, Nat.le_of_ble_eq_true rfl⟩ (r_firstWaiter hR (by omega) (by rw [e1, e16]; omega) h1a.J (h1a.fw (j := j)).1 (h1a.fw (j := j)).2) (fun v hs ho => ?_) (fun E hs ho => by simp at ho)
                obtain ⟨c, ho, hc2, rfl⟩ := ho
                cases ho
                simp only [fP, e16, e26] at hc2
                have hc3 : c = -1 := by omega
                subst hc3
                refine V.istore (pc := 71) d_R_finish_71 (by decide) ?_
                refine V.goto (pc := 73) (tgt := 54) d_R_finish_73 (by decide) ?_
                refine V.iload (pc := 54) d_R_finish_54 rfl ?_
                refine Vi.if_lt (pc := 56) (tgt := 76) d_R_finish_56 (by decide) (by decide) (fun c_56 => ?_) (fun c_56 => ?_)
                · first | refine V.aload_nR (pc := 76) d_R_finish_76 rfl ?_ | refine V.aload_n (pc := 76) d_R_finish_76 rfl ?_
                  refine Vr.get (pc := 77) d_R_finish_77 g_R_63 hR rfl ?_
                  refine V.iload_n (pc := 80) d_R_finish_80 rfl ?_
                  refine Vr.ald (pc := 81) (n := 24) d_R_finish_81 hR (by decide) rfl (by first | assumption | decide | omega | (simp [up] <;> omega)) ?_
                  refine Vi.iconst (pc := 82) d_R_finish_82 ?_
                  rw [e17]
                  refine Vi.icmp_le (pc := 83) (tgt := 92) d_R_finish_83 (by decide) (by first | assumption | decide | omega | (simp [up] <;> omega)) (by first | assumption | decide | omega | (simp [up] <;> omega)) (fun c_83 => ?_) (fun c_83 => ?_)
                  · exact V.lop (tail _ hR) ⟨rfl, rfl, rfl, trivial⟩
                  · have := hw8 (by omega)
                    omega
                · omega
end R9
