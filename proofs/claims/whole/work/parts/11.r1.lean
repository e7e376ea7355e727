/-! the reference's small methods -/
def z_putReady (S : js) (j x : Int) : js := up (up (up (up (up S 26 j 0) 29 j (-1)) 23 j x) 38 (S 7 0) j) 7 0 (S 7 0 + 1)
/-- the first open child of j from k on, of n jobs -/
def z_nextChild (S : js) (j : Int) : Nat → Int → Int
  | 0, _ => -1
  | n + 1, k => if k < S 1 0 then (if S 16 k = j ∧ S 25 k = 0 then k else z_nextChild S j n (k + 1)) else -1
section R1
variable {w : jw} {d : Nat} {hs : jh} {mo : Nat} {ra : Nat → Nat} {S : js} {g : Nat → Option va_E} {b : Nat × Nat}
theorem r_putReady {j x : Int} (hR : RepR w mo ra S g b hs) (hj : 0 ≤ j ∧ j < 24) (hq : 0 ≤ S 7 0 ∧ S 7 0 < 24) :
    V jcl w m_R_putReady d 0 [(0, .ref mo), (1, .int (ii j)), (2, .int (ii x))] [] hs (fun o hs' => o = .inl none ∧ RepR w mo ra (z_putReady S j x) g b hs') := by
  first | refine V.aload_nR (pc := 0) d_R_putReady_0 rfl ?_ | refine V.aload_n (pc := 0) d_R_putReady_0 rfl ?_
  refine Vr.get (pc := 1) d_R_putReady_1 g_R_91 hR rfl ?_
  refine V.iload_n (pc := 4) d_R_putReady_4 rfl ?_
  refine Vi.iconst (pc := 5) d_R_putReady_5 ?_
  refine Vr.ast (pc := 6) (n := 24) d_R_putReady_6 hR (by decide) rfl (by first | omega | (simp [up] <;> omega)) (fun hs hR => ?_)
  first | refine V.aload_nR (pc := 7) d_R_putReady_7 rfl ?_ | refine V.aload_n (pc := 7) d_R_putReady_7 rfl ?_
  refine Vr.get (pc := 8) d_R_putReady_8 g_R_100 hR rfl ?_
  refine V.iload_n (pc := 11) d_R_putReady_11 rfl ?_
  refine Vi.iconst (pc := 12) d_R_putReady_12 ?_
  refine Vr.ast (pc := 13) (n := 24) d_R_putReady_13 hR (by decide) rfl (by first | omega | (simp [up] <;> omega)) (fun hs hR => ?_)
  first | refine V.aload_nR (pc := 14) d_R_putReady_14 rfl ?_ | refine V.aload_n (pc := 14) d_R_putReady_14 rfl ?_
  refine Vr.get (pc := 15) d_R_putReady_15 g_R_81 hR rfl ?_
  refine V.iload_n (pc := 18) d_R_putReady_18 rfl ?_
  refine V.iload_n (pc := 19) d_R_putReady_19 rfl ?_
  refine Vr.ast (pc := 20) (n := 24) d_R_putReady_20 hR (by decide) rfl (by first | omega | (simp [up] <;> omega)) (fun hs hR => ?_)
  first | refine V.aload_nR (pc := 21) d_R_putReady_21 rfl ?_ | refine V.aload_n (pc := 21) d_R_putReady_21 rfl ?_
  refine Vr.get (pc := 22) d_R_putReady_22 g_R_127 hR rfl ?_
  first | refine V.aload_nR (pc := 25) d_R_putReady_25 rfl ?_ | refine V.aload_n (pc := 25) d_R_putReady_25 rfl ?_
  refine Vr.get (pc := 26) d_R_putReady_26 g_R_31 hR rfl ?_
  refine V.iload_n (pc := 29) d_R_putReady_29 rfl ?_
  refine Vr.ast (pc := 30) (n := 24) d_R_putReady_30 hR (by decide) rfl (by first | omega | (simp [up] <;> omega)) (fun hs hR => ?_)
  first | refine V.aload_nR (pc := 31) d_R_putReady_31 rfl ?_ | refine V.aload_n (pc := 31) d_R_putReady_31 rfl ?_
  refine V.dup (pc := 32) d_R_putReady_32 (by first | rfl | exact vrf_cat _) ?_
  refine Vr.get (pc := 33) d_R_putReady_33 g_R_31 hR rfl ?_
  refine Vi.iconst (pc := 36) d_R_putReady_36 ?_
  refine Vi.iadd (pc := 37) d_R_putReady_37 ?_
  refine Vr.put7 (pc := 38) d_R_putReady_38 f_R_31 hR (fun hs hR => ?_)
  refine V.return_ (pc := 41) d_R_putReady_41 rfl ?_
  exact ⟨rfl, by simpa [z_putReady, up_f] using hR⟩
theorem r_nextChild {j : Int} (hR : RepR w mo ra S g b hs) (hj : jr j) (hJ : 0 ≤ S 1 0 ∧ S 1 0 ≤ 24) (hp : ∀ i, 0 ≤ i → i < S 1 0 → jr (S 16 i) ∧ jr (S 25 i)) : ∀ (n : Nat) (k : Int), 0 ≤ k → k ≤ 24 → 24 ≤ k + n →
    V jcl w m_R_nextChild d 2 [(0, .ref mo), (1, .int (ii j)), (3, .int (ii k))] [] hs (fun o hs' => (o = .inl (some (.int (ii (z_nextChild S j (n + 1) k)))) ∧ hs' = hs)) := by
  intro n
  induction n with
  | zero =>
    intro k hk hk2 hn
    refine V.iload_n (pc := 2) d_R_nextChild_2 rfl ?_
    first | refine V.aload_nR (pc := 3) d_R_nextChild_3 rfl ?_ | refine V.aload_n (pc := 3) d_R_nextChild_3 rfl ?_
    refine Vr.get (pc := 4) d_R_nextChild_4 g_R_13 hR rfl ?_
    refine Vi.icmp_ge (pc := 7) (tgt := 37) d_R_nextChild_7 (by decide) (by omega) (by omega) (fun c_7 => ?_) (fun c_7 => ?_)
    · refine Vi.iconst (pc := 37) d_R_nextChild_37 ?_
      refine Vi.ireturn (pc := 38) d_R_nextChild_38 rfl ?_
      exact ⟨by rw [z_nextChild, if_neg (by omega)], rfl⟩
    · omega
  | succ n ih =>
    intro k hk hk2 hn
    refine V.iload_n (pc := 2) d_R_nextChild_2 rfl ?_
    first | refine V.aload_nR (pc := 3) d_R_nextChild_3 rfl ?_ | refine V.aload_n (pc := 3) d_R_nextChild_3 rfl ?_
    refine Vr.get (pc := 4) d_R_nextChild_4 g_R_13 hR rfl ?_
    refine Vi.icmp_ge (pc := 7) (tgt := 37) d_R_nextChild_7 (by decide) (by omega) (by omega) (fun c_7 => ?_) (fun c_7 => ?_)
    · refine Vi.iconst (pc := 37) d_R_nextChild_37 ?_
      refine Vi.ireturn (pc := 38) d_R_nextChild_38 rfl ?_
      exact ⟨by rw [z_nextChild, if_neg (by omega)], rfl⟩
    · have h1 := hp k hk c_7
      first | refine V.aload_nR (pc := 10) d_R_nextChild_10 rfl ?_ | refine V.aload_n (pc := 10) d_R_nextChild_10 rfl ?_
      refine Vr.get (pc := 11) d_R_nextChild_11 g_R_60 hR rfl ?_
      refine V.iload_n (pc := 14) d_R_nextChild_14 rfl ?_
      refine Vr.ald (pc := 15) (n := 24) d_R_nextChild_15 hR (by decide) rfl (by first | omega | (simp [up] <;> omega)) ?_
      refine V.iload_n (pc := 16) d_R_nextChild_16 rfl ?_
      refine Vi.icmp_ne (pc := 17) (tgt := 31) d_R_nextChild_17 (by decide) (h1.1) (hj) (fun c_17 => ?_) (fun c_17 => ?_)
      · refine Vi.iinc (pc := 31) d_R_nextChild_31 rfl (by decide) ?_
        refine V.goto (pc := 34) (tgt := 2) d_R_nextChild_34 (by decide) ?_
        refine V.loc (L' := [(0, .ref mo), (1, .int (ii j)), (3, .int (ii (k + 1)))]) ⟨rfl, rfl, rfl, trivial⟩ ?_
        rw [z_nextChild, if_pos c_7, if_neg (fun z => c_17 z.1)]
        exact ih (k + 1) (by omega) (by omega) (by omega)
      · first | refine V.aload_nR (pc := 20) d_R_nextChild_20 rfl ?_ | refine V.aload_n (pc := 20) d_R_nextChild_20 rfl ?_
        refine Vr.get (pc := 21) d_R_nextChild_21 g_R_88 hR rfl ?_
        refine V.iload_n (pc := 24) d_R_nextChild_24 rfl ?_
        refine Vr.zald (pc := 25) (n := 24) d_R_nextChild_25 hR (by decide) rfl (by first | omega | (simp [up] <;> omega)) ?_
        refine Vi.if_ne (pc := 26) (tgt := 31) d_R_nextChild_26 (by decide) (h1.2) (fun c_26 => ?_) (fun c_26 => ?_)
        · refine Vi.iinc (pc := 31) d_R_nextChild_31 rfl (by decide) ?_
          refine V.goto (pc := 34) (tgt := 2) d_R_nextChild_34 (by decide) ?_
          refine V.loc (L' := [(0, .ref mo), (1, .int (ii j)), (3, .int (ii (k + 1)))]) ⟨rfl, rfl, rfl, trivial⟩ ?_
          rw [z_nextChild, if_pos c_7, if_neg (fun z => c_26 z.2)]
          exact ih (k + 1) (by omega) (by omega) (by omega)
        · refine V.iload_n (pc := 29) d_R_nextChild_29 rfl ?_
          refine Vi.ireturn (pc := 30) d_R_nextChild_30 rfl ?_
          exact ⟨by rw [z_nextChild, if_pos c_7, if_pos ⟨c_17, c_26⟩], rfl⟩
end R1
