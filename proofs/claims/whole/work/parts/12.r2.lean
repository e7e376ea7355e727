/-! the reference's methods without loops, and small loops -/
section R2
variable {w : jw} {d : Nat} {hs : jh} {mo : Nat} {ra : Nat → Nat} {S : js} {g : Nat → Option va_E} {b : Nat × Nat}
theorem r_thrown (hR : RepR w mo ra S g b hs) : V jcl w m_R_thrown d 0 [(0, .ref mo)] [] hs (fun o hs' => o = .inl (some (.int (ii (S 0 0)))) ∧ hs' = hs) := by
  first | refine V.aload_nR (pc := 0) d_R_thrown_0 rfl ?_ | refine V.aload_n (pc := 0) d_R_thrown_0 rfl ?_
  refine Vr.get (pc := 1) d_R_thrown_1 g_R_7 hR rfl ?_
  refine Vi.ireturn (pc := 4) d_R_thrown_4 rfl ?_
  exact ⟨rfl, rfl⟩
theorem r_refuse {c : Int} (hR : RepR w mo ra S g b hs) : V jcl w m_R_refuse d 0 [(0, .ref mo), (1, .int (ii c))] [] hs (fun o hs' => o = .inl (some (.int (ii 0))) ∧ RepR w mo ra (up S 0 0 c) g b hs') := by
  first | refine V.aload_nR (pc := 0) d_R_refuse_0 rfl ?_ | refine V.aload_n (pc := 0) d_R_refuse_0 rfl ?_
  refine V.iload_n (pc := 1) d_R_refuse_1 rfl ?_
  refine Vr.put0 (pc := 2) d_R_refuse_2 f_R_7 hR (fun hs hR => ?_)
  refine Vi.iconst (pc := 5) d_R_refuse_5 ?_
  refine Vi.ireturn (pc := 6) d_R_refuse_6 rfl ?_
  exact ⟨rfl, hR⟩
theorem r_fine {a : Int} (hR : RepR w mo ra S g b hs) : V jcl w m_R_fine d 0 [(0, .ref mo), (1, .int (ii a))] [] hs (fun o hs' => o = .inl (some (.int (ii a))) ∧ RepR w mo ra (up S 0 0 0) g b hs') := by
  first | refine V.aload_nR (pc := 0) d_R_fine_0 rfl ?_ | refine V.aload_n (pc := 0) d_R_fine_0 rfl ?_
  refine Vi.iconst (pc := 1) d_R_fine_1 ?_
  refine Vr.put0 (pc := 2) d_R_fine_2 f_R_7 hR (fun hs hR => ?_)
  refine V.iload_n (pc := 5) d_R_fine_5 rfl ?_
  refine Vi.ireturn (pc := 6) d_R_fine_6 rfl ?_
  exact ⟨rfl, hR⟩
theorem r_out {v lo hi : Int} (hv : jr v) (hl : jr lo) (hh : jr hi) : V jcl w m_R_out d 0 [(0, .ref mo), (1, .int (ii v)), (2, .int (ii lo)), (3, .int (ii hi))] [] hs (fun o hs' => ∃ r : Int, o = .inl (some (.int (ii r))) ∧ (r = 1 ∧ (v < lo ∨ hi < v) ∨ r = 0 ∧ lo ≤ v ∧ v ≤ hi) ∧ hs' = hs) := by
  refine V.iload_n (pc := 0) d_R_out_0 rfl ?_
  refine V.iload_n (pc := 1) d_R_out_1 rfl ?_
  refine Vi.icmp_lt (pc := 2) (tgt := 10) d_R_out_2 (by decide) (by first | omega | (simp [up] <;> omega)) (by first | omega | (simp [up] <;> omega)) (fun c_2 => ?_) (fun c_2 => ?_)
  · refine Vi.iconst (pc := 10) d_R_out_10 ?_
    refine V.goto (pc := 11) (tgt := 15) d_R_out_11 (by decide) ?_
    refine Vi.zreturn (pc := 15) d_R_out_15 rfl (by omega) ?_
    exact ⟨_, rfl, by omega, rfl⟩
  · refine V.iload_n (pc := 5) d_R_out_5 rfl ?_
    refine V.iload_n (pc := 6) d_R_out_6 rfl ?_
    refine Vi.icmp_le (pc := 7) (tgt := 14) d_R_out_7 (by decide) (by first | omega | (simp [up] <;> omega)) (by first | omega | (simp [up] <;> omega)) (fun c_7 => ?_) (fun c_7 => ?_)
    · refine Vi.iconst (pc := 14) d_R_out_14 ?_
      refine Vi.zreturn (pc := 15) d_R_out_15 rfl (by omega) ?_
      exact ⟨_, rfl, by omega, rfl⟩
    · refine Vi.iconst (pc := 10) d_R_out_10 ?_
      refine V.goto (pc := 11) (tgt := 15) d_R_out_11 (by decide) ?_
      refine Vi.zreturn (pc := 15) d_R_out_15 rfl (by omega) ?_
      exact ⟨_, rfl, by omega, rfl⟩
theorem r_no {j : Int} (hR : RepR w mo ra S g b hs) (hj : jr j) (hJ : jr (S 1 0)) : V jcl w m_R_no d 0 [(0, .ref mo), (1, .int (ii j))] [] hs (fun o hs' => ∃ r : Int, o = .inl (some (.int (ii r))) ∧ (r = 1 ∧ (j < 0 ∨ S 1 0 ≤ j) ∨ r = 0 ∧ 0 ≤ j ∧ j < S 1 0) ∧ hs' = hs) := by
  refine V.iload_n (pc := 0) d_R_no_0 rfl ?_
  refine Vi.if_lt (pc := 1) (tgt := 12) d_R_no_1 (by decide) (by first | omega | (simp [up] <;> omega)) (fun c_1 => ?_) (fun c_1 => ?_)
  · refine Vi.iconst (pc := 12) d_R_no_12 ?_
    refine V.goto (pc := 13) (tgt := 17) d_R_no_13 (by decide) ?_
    refine Vi.zreturn (pc := 17) d_R_no_17 rfl (by omega) ?_
    exact ⟨_, rfl, by omega, rfl⟩
  · refine V.iload_n (pc := 4) d_R_no_4 rfl ?_
    first | refine V.aload_nR (pc := 5) d_R_no_5 rfl ?_ | refine V.aload_n (pc := 5) d_R_no_5 rfl ?_
    refine Vr.get (pc := 6) d_R_no_6 g_R_13 hR rfl ?_
    refine Vi.icmp_lt (pc := 9) (tgt := 16) d_R_no_9 (by decide) (by first | omega | (simp [up] <;> omega)) (by first | omega | (simp [up] <;> omega)) (fun c_9 => ?_) (fun c_9 => ?_)
    · refine Vi.iconst (pc := 16) d_R_no_16 ?_
      refine Vi.zreturn (pc := 17) d_R_no_17 rfl (by omega) ?_
      exact ⟨_, rfl, by omega, rfl⟩
    · refine Vi.iconst (pc := 12) d_R_no_12 ?_
      refine V.goto (pc := 13) (tgt := 17) d_R_no_13 (by decide) ?_
      refine Vi.zreturn (pc := 17) d_R_no_17 rfl (by omega) ?_
      exact ⟨_, rfl, by omega, rfl⟩
def z_write (S : js) (v : Int) : js := if S 3 0 < 60 then up (up S 15 (S 3 0) v) 3 0 (S 3 0 + 1) else up S 3 0 (S 3 0 + 1)
theorem r_write {v : Int} (hR : RepR w mo ra S g b hs) (hn : 0 ≤ S 3 0 ∧ S 3 0 < 2000000000) : V jcl w m_R_write d 0 [(0, .ref mo), (1, .int (ii v))] [] hs (fun o hs' => o = .inl none ∧ RepR w mo ra (z_write S v) g b hs') := by
  first | refine V.aload_nR (pc := 0) d_R_write_0 rfl ?_ | refine V.aload_n (pc := 0) d_R_write_0 rfl ?_
  refine Vr.get (pc := 1) d_R_write_1 g_R_19 hR rfl ?_
  refine Vi.bipush (pc := 4) d_R_write_4 (by decide) ?_
  refine Vi.icmp_ge (pc := 6) (tgt := 19) d_R_write_6 (by decide) (by first | omega | (simp [up] <;> omega)) (by first | omega | (simp [up] <;> omega)) (fun c_6 => ?_) (fun c_6 => ?_)
  · first | refine V.aload_nR (pc := 19) d_R_write_19 rfl ?_ | refine V.aload_n (pc := 19) d_R_write_19 rfl ?_
    refine V.dup (pc := 20) d_R_write_20 (by first | rfl | exact vrf_cat _) ?_
    refine Vr.get (pc := 21) d_R_write_21 g_R_19 hR rfl ?_
    refine Vi.iconst (pc := 24) d_R_write_24 ?_
    refine Vi.iadd (pc := 25) d_R_write_25 ?_
    refine Vr.put3 (pc := 26) d_R_write_26 f_R_19 hR (fun hs hR => ?_)
    refine V.return_ (pc := 29) d_R_write_29 rfl ?_
    exact ⟨rfl, by first | (rw [z_write, if_pos (by omega)]; simpa [up_f] using hR) | (rw [z_write, if_neg (by omega)]; exact hR)⟩
  · first | refine V.aload_nR (pc := 9) d_R_write_9 rfl ?_ | refine V.aload_n (pc := 9) d_R_write_9 rfl ?_
    refine Vr.get (pc := 10) d_R_write_10 g_R_57 hR rfl ?_
    first | refine V.aload_nR (pc := 13) d_R_write_13 rfl ?_ | refine V.aload_n (pc := 13) d_R_write_13 rfl ?_
    refine Vr.get (pc := 14) d_R_write_14 g_R_19 hR rfl ?_
    refine V.iload_n (pc := 17) d_R_write_17 rfl ?_
    refine Vr.ast (pc := 18) (n := 60) d_R_write_18 hR (by decide) rfl (by first | omega | (simp [up] <;> omega)) (fun hs hR => ?_)
    first | refine V.aload_nR (pc := 19) d_R_write_19 rfl ?_ | refine V.aload_n (pc := 19) d_R_write_19 rfl ?_
    refine V.dup (pc := 20) d_R_write_20 (by first | rfl | exact vrf_cat _) ?_
    refine Vr.get (pc := 21) d_R_write_21 g_R_19 hR rfl ?_
    refine Vi.iconst (pc := 24) d_R_write_24 ?_
    refine Vi.iadd (pc := 25) d_R_write_25 ?_
    refine Vr.put3 (pc := 26) d_R_write_26 f_R_19 hR (fun hs hR => ?_)
    refine V.return_ (pc := 29) d_R_write_29 rfl ?_
    exact ⟨rfl, by first | (rw [z_write, if_pos (by omega)]; simpa [up_f] using hR) | (rw [z_write, if_neg (by omega)]; exact hR)⟩
def z_pushFrame (S : js) (j p s q k : Int) : js := up (up (up (up (up (up S 33 (j * 6 + S 21 j) p) 34 (j * 6 + S 21 j) 0) 35 (j * 6 + S 21 j) s) 36 (j * 6 + S 21 j) q) 37 (j * 6 + S 21 j) k) 21 j (S 21 j + 1)
theorem r_pushFrame {j p s q k : Int} (hR : RepR w mo ra S g b hs) (hj : 0 ≤ j ∧ j < 24) (hf : 0 ≤ S 21 j ∧ S 21 j < 6) : V jcl w m_R_pushFrame d 0 [(0, .ref mo), (1, .int (ii j)), (2, .int (ii p)), (3, .int (ii s)), (4, .int (ii q)), (5, .int (ii k))] [] hs (fun o hs' => o = .inl none ∧ RepR w mo ra (z_pushFrame S j p s q k) g b hs') := by
  refine V.iload_n (pc := 0) d_R_pushFrame_0 rfl ?_
  refine Vi.bipush (pc := 1) d_R_pushFrame_1 (by decide) ?_
  refine Vi.imul (pc := 3) d_R_pushFrame_3 ?_
  first | refine V.aload_nR (pc := 4) d_R_pushFrame_4 rfl ?_ | refine V.aload_n (pc := 4) d_R_pushFrame_4 rfl ?_
  refine Vr.get (pc := 5) d_R_pushFrame_5 g_R_75 hR rfl ?_
  refine V.iload_n (pc := 8) d_R_pushFrame_8 rfl ?_
  refine Vr.ald (pc := 9) (n := 24) d_R_pushFrame_9 hR (by decide) rfl (by first | omega | (simp [up] <;> omega)) ?_
  refine Vi.iadd (pc := 10) d_R_pushFrame_10 ?_
  refine V.istore (pc := 11) d_R_pushFrame_11 (by decide) ?_
  first | refine V.aload_nR (pc := 13) d_R_pushFrame_13 rfl ?_ | refine V.aload_n (pc := 13) d_R_pushFrame_13 rfl ?_
  refine Vr.get (pc := 14) d_R_pushFrame_14 g_R_112 hR rfl ?_
  refine V.iload (pc := 17) d_R_pushFrame_17 rfl ?_
  refine V.iload_n (pc := 19) d_R_pushFrame_19 rfl ?_
  refine Vr.ast (pc := 20) (n := 144) d_R_pushFrame_20 hR (by decide) rfl (by first | omega | (simp [up] <;> omega)) (fun hs hR => ?_)
  first | refine V.aload_nR (pc := 21) d_R_pushFrame_21 rfl ?_ | refine V.aload_n (pc := 21) d_R_pushFrame_21 rfl ?_
  refine Vr.get (pc := 22) d_R_pushFrame_22 g_R_115 hR rfl ?_
  refine V.iload (pc := 25) d_R_pushFrame_25 rfl ?_
  refine Vi.iconst (pc := 27) d_R_pushFrame_27 ?_
  refine Vr.ast (pc := 28) (n := 144) d_R_pushFrame_28 hR (by decide) rfl (by first | omega | (simp [up] <;> omega)) (fun hs hR => ?_)
  first | refine V.aload_nR (pc := 29) d_R_pushFrame_29 rfl ?_ | refine V.aload_n (pc := 29) d_R_pushFrame_29 rfl ?_
  refine Vr.get (pc := 30) d_R_pushFrame_30 g_R_118 hR rfl ?_
  refine V.iload (pc := 33) d_R_pushFrame_33 rfl ?_
  refine V.iload_n (pc := 35) d_R_pushFrame_35 rfl ?_
  refine Vr.ast (pc := 36) (n := 144) d_R_pushFrame_36 hR (by decide) rfl (by first | omega | (simp [up] <;> omega)) (fun hs hR => ?_)
  first | refine V.aload_nR (pc := 37) d_R_pushFrame_37 rfl ?_ | refine V.aload_n (pc := 37) d_R_pushFrame_37 rfl ?_
  refine Vr.get (pc := 38) d_R_pushFrame_38 g_R_121 hR rfl ?_
  refine V.iload (pc := 41) d_R_pushFrame_41 rfl ?_
  refine V.iload (pc := 43) d_R_pushFrame_43 rfl ?_
  refine Vr.ast (pc := 45) (n := 144) d_R_pushFrame_45 hR (by decide) rfl (by first | omega | (simp [up] <;> omega)) (fun hs hR => ?_)
  first | refine V.aload_nR (pc := 46) d_R_pushFrame_46 rfl ?_ | refine V.aload_n (pc := 46) d_R_pushFrame_46 rfl ?_
  refine Vr.get (pc := 47) d_R_pushFrame_47 g_R_124 hR rfl ?_
  refine V.iload (pc := 50) d_R_pushFrame_50 rfl ?_
  refine V.iload (pc := 52) d_R_pushFrame_52 rfl ?_
  refine Vr.ast (pc := 54) (n := 144) d_R_pushFrame_54 hR (by decide) rfl (by first | omega | (simp [up] <;> omega)) (fun hs hR => ?_)
  first | refine V.aload_nR (pc := 55) d_R_pushFrame_55 rfl ?_ | refine V.aload_n (pc := 55) d_R_pushFrame_55 rfl ?_
  refine Vr.get (pc := 56) d_R_pushFrame_56 g_R_75 hR rfl ?_
  refine V.iload_n (pc := 59) d_R_pushFrame_59 rfl ?_
  refine V.dup2 (pc := 60) d_R_pushFrame_60 (by first | rfl | exact vrf_cat _) (by first | rfl | exact vrf_cat _) ?_
  refine Vr.ald (pc := 61) (n := 24) d_R_pushFrame_61 hR (by decide) rfl (by first | omega | (simp [up] <;> omega)) ?_
  refine Vi.iconst (pc := 62) d_R_pushFrame_62 ?_
  refine Vi.iadd (pc := 63) d_R_pushFrame_63 ?_
  refine Vr.ast (pc := 64) (n := 24) d_R_pushFrame_64 hR (by decide) rfl (by first | omega | (simp [up] <;> omega)) (fun hs hR => ?_)
  refine V.return_ (pc := 65) d_R_pushFrame_65 rfl ?_
  exact ⟨rfl, by simpa [z_pushFrame, up_f] using hR⟩
def z_waitIn (S : js) (j x k : Int) : js := up (up (up (up (up S 26 j x) 27 j k) 28 j (S 6 0)) 6 0 (S 6 0 + 1)) 10 0 1
theorem r_waitIn {j x k : Int} (hR : RepR w mo ra S g b hs) (hj : 0 ≤ j ∧ j < 24) : V jcl w m_R_waitIn d 0 [(0, .ref mo), (1, .int (ii j)), (2, .int (ii x)), (3, .int (ii k))] [] hs (fun o hs' => o = .inl none ∧ RepR w mo ra (z_waitIn S j x k) g b hs') := by
  first | refine V.aload_nR (pc := 0) d_R_waitIn_0 rfl ?_ | refine V.aload_n (pc := 0) d_R_waitIn_0 rfl ?_
  refine Vr.get (pc := 1) d_R_waitIn_1 g_R_91 hR rfl ?_
  refine V.iload_n (pc := 4) d_R_waitIn_4 rfl ?_
  refine V.iload_n (pc := 5) d_R_waitIn_5 rfl ?_
  refine Vr.ast (pc := 6) (n := 24) d_R_waitIn_6 hR (by decide) rfl (by first | omega | (simp [up] <;> omega)) (fun hs hR => ?_)
  first | refine V.aload_nR (pc := 7) d_R_waitIn_7 rfl ?_ | refine V.aload_n (pc := 7) d_R_waitIn_7 rfl ?_
  refine Vr.get (pc := 8) d_R_waitIn_8 g_R_94 hR rfl ?_
  refine V.iload_n (pc := 11) d_R_waitIn_11 rfl ?_
  refine V.iload_n (pc := 12) d_R_waitIn_12 rfl ?_
  refine Vr.ast (pc := 13) (n := 24) d_R_waitIn_13 hR (by decide) rfl (by first | omega | (simp [up] <;> omega)) (fun hs hR => ?_)
  first | refine V.aload_nR (pc := 14) d_R_waitIn_14 rfl ?_ | refine V.aload_n (pc := 14) d_R_waitIn_14 rfl ?_
  refine Vr.get (pc := 15) d_R_waitIn_15 g_R_97 hR rfl ?_
  refine V.iload_n (pc := 18) d_R_waitIn_18 rfl ?_
  first | refine V.aload_nR (pc := 19) d_R_waitIn_19 rfl ?_ | refine V.aload_n (pc := 19) d_R_waitIn_19 rfl ?_
  refine Vr.get (pc := 20) d_R_waitIn_20 g_R_28 hR rfl ?_
  refine Vr.ast (pc := 23) (n := 24) d_R_waitIn_23 hR (by decide) rfl (by first | omega | (simp [up] <;> omega)) (fun hs hR => ?_)
  first | refine V.aload_nR (pc := 24) d_R_waitIn_24 rfl ?_ | refine V.aload_n (pc := 24) d_R_waitIn_24 rfl ?_
  refine V.dup (pc := 25) d_R_waitIn_25 (by first | rfl | exact vrf_cat _) ?_
  refine Vr.get (pc := 26) d_R_waitIn_26 g_R_28 hR rfl ?_
  refine Vi.iconst (pc := 29) d_R_waitIn_29 ?_
  refine Vi.iadd (pc := 30) d_R_waitIn_30 ?_
  refine Vr.put6 (pc := 31) d_R_waitIn_31 f_R_28 hR (fun hs hR => ?_)
  first | refine V.aload_nR (pc := 34) d_R_waitIn_34 rfl ?_ | refine V.aload_n (pc := 34) d_R_waitIn_34 rfl ?_
  refine Vi.iconst (pc := 35) d_R_waitIn_35 ?_
  refine Vr.put10 (pc := 36) d_R_waitIn_36 f_R_40 hR (by decide) (fun hs hR => ?_)
  refine V.return_ (pc := 39) d_R_waitIn_39 rfl ?_
  exact ⟨rfl, by simpa [z_waitIn, up_f] using hR⟩
/-- a frame of sort 4 among the frames f .. -/
def z_sh (S : js) (j : Int) : Nat → Int → Bool
  | 0, _ => false
  | n + 1, f => if f < j * 6 + S 21 j then (if S 35 f = 4 then true else z_sh S j n (f + 1)) else false
def z_shielded (S : js) (j : Int) : Bool := z_sh S j 7 (j * 6)
def zb (x : Bool) : Int := if x = true then 1 else 0
theorem r_sh {j : Int} (hR : RepR w mo ra S g b hs) (hj : 0 ≤ j ∧ j < 24) (hf : 0 ≤ S 21 j ∧ S 21 j ≤ 6) (hp : ∀ i, j * 6 ≤ i → i < j * 6 + S 21 j → jr (S 35 i)) : ∀ (n : Nat) (f : Int), j * 6 ≤ f → f ≤ j * 6 + 6 → j * 6 + 6 ≤ f + n →
    V jcl w m_R_shielded d 5 [(0, .ref mo), (1, .int (ii j)), (2, .int (ii f))] [] hs (fun o hs' => o = .inl (some (.int (ii (zb (z_sh S j (n + 1) f))))) ∧ hs' = hs) := by
  intro n
  induction n with
  | zero =>
    intro f h1 h2 h3
    refine V.iload_n (pc := 5) d_R_shielded_5 rfl ?_
    refine V.iload_n (pc := 6) d_R_shielded_6 rfl ?_
    refine Vi.bipush (pc := 7) d_R_shielded_7 (by decide) ?_
    refine Vi.imul (pc := 9) d_R_shielded_9 ?_
    first | refine V.aload_nR (pc := 10) d_R_shielded_10 rfl ?_ | refine V.aload_n (pc := 10) d_R_shielded_10 rfl ?_
    refine Vr.get (pc := 11) d_R_shielded_11 g_R_75 hR rfl ?_
    refine V.iload_n (pc := 14) d_R_shielded_14 rfl ?_
    refine Vr.ald (pc := 15) (n := 24) d_R_shielded_15 hR (by decide) rfl (by first | omega | (simp [up] <;> omega)) ?_
    refine Vi.iadd (pc := 16) d_R_shielded_16 ?_
    refine Vi.icmp_ge (pc := 17) (tgt := 38) d_R_shielded_17 (by decide) (by first | omega | (simp [up] <;> omega)) (by first | omega | (simp [up] <;> omega)) (fun c_17 => ?_) (fun c_17 => ?_)
    · refine Vi.iconst (pc := 38) d_R_shielded_38 ?_
      refine Vi.zreturn (pc := 39) d_R_shielded_39 rfl (by omega) ?_
      exact ⟨by rw [z_sh, if_neg (by omega)]; rfl, rfl⟩
    · omega
  | succ n ih =>
    intro f h1 h2 h3
    refine V.iload_n (pc := 5) d_R_shielded_5 rfl ?_
    refine V.iload_n (pc := 6) d_R_shielded_6 rfl ?_
    refine Vi.bipush (pc := 7) d_R_shielded_7 (by decide) ?_
    refine Vi.imul (pc := 9) d_R_shielded_9 ?_
    first | refine V.aload_nR (pc := 10) d_R_shielded_10 rfl ?_ | refine V.aload_n (pc := 10) d_R_shielded_10 rfl ?_
    refine Vr.get (pc := 11) d_R_shielded_11 g_R_75 hR rfl ?_
    refine V.iload_n (pc := 14) d_R_shielded_14 rfl ?_
    refine Vr.ald (pc := 15) (n := 24) d_R_shielded_15 hR (by decide) rfl (by first | omega | (simp [up] <;> omega)) ?_
    refine Vi.iadd (pc := 16) d_R_shielded_16 ?_
    refine Vi.icmp_ge (pc := 17) (tgt := 38) d_R_shielded_17 (by decide) (by first | omega | (simp [up] <;> omega)) (by first | omega | (simp [up] <;> omega)) (fun c_17 => ?_) (fun c_17 => ?_)
    · refine Vi.iconst (pc := 38) d_R_shielded_38 ?_
      refine Vi.zreturn (pc := 39) d_R_shielded_39 rfl (by omega) ?_
      exact ⟨by rw [z_sh, if_neg (by omega)]; rfl, rfl⟩
    · have h4 := hp f (by omega) (by omega)
      first | refine V.aload_nR (pc := 20) d_R_shielded_20 rfl ?_ | refine V.aload_n (pc := 20) d_R_shielded_20 rfl ?_
      refine Vr.get (pc := 21) d_R_shielded_21 g_R_118 hR rfl ?_
      refine V.iload_n (pc := 24) d_R_shielded_24 rfl ?_
      refine Vr.ald (pc := 25) (n := 144) d_R_shielded_25 hR (by decide) rfl (by first | omega | (simp [up] <;> omega)) ?_
      refine Vi.iconst (pc := 26) d_R_shielded_26 ?_
      refine Vi.icmp_ne (pc := 27) (tgt := 32) d_R_shielded_27 (by decide) (h4) (by decide) (fun c_27 => ?_) (fun c_27 => ?_)
      · refine Vi.iinc (pc := 32) d_R_shielded_32 rfl (by decide) ?_
        refine V.goto (pc := 35) (tgt := 5) d_R_shielded_35 (by decide) ?_
        refine V.loc (L' := [(0, .ref mo), (1, .int (ii j)), (2, .int (ii (f + 1)))]) ⟨rfl, rfl, rfl, trivial⟩ ?_
        rw [z_sh, if_pos (by omega), if_neg c_27]
        exact ih (f + 1) (by omega) (by omega) (by omega)
      · refine Vi.iconst (pc := 30) d_R_shielded_30 ?_
        refine Vi.zreturn (pc := 31) d_R_shielded_31 rfl (by omega) ?_
        exact ⟨by rw [z_sh, if_pos (by omega), if_pos c_27]; rfl, rfl⟩
theorem r_shielded {j : Int} (hR : RepR w mo ra S g b hs) (hj : 0 ≤ j ∧ j < 24) (hf : 0 ≤ S 21 j ∧ S 21 j ≤ 6) (hp : ∀ i, j * 6 ≤ i → i < j * 6 + S 21 j → jr (S 35 i)) : V jcl w m_R_shielded d 0 [(0, .ref mo), (1, .int (ii j))] [] hs (fun o hs' => o = .inl (some (.int (ii (zb (z_shielded S j))))) ∧ hs' = hs) := by
  refine V.iload_n (pc := 0) d_R_shielded_0 rfl ?_
  refine Vi.bipush (pc := 1) d_R_shielded_1 (by decide) ?_
  refine Vi.imul (pc := 3) d_R_shielded_3 ?_
  refine V.istore_n (pc := 4) d_R_shielded_4 (by decide) ?_
  refine V.loc (L' := [(0, .ref mo), (1, .int (ii j)), (2, .int (ii (j * 6)))]) ⟨rfl, rfl, rfl, trivial⟩ ?_
  exact r_sh hR hj hf hp 6 (j * 6) (by omega) (by omega) (by omega)
end R2
