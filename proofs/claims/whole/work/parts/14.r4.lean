/-! the reference's loops over the jobs: count, earliest, the timer that comes next; wake -/
section R4
variable {w : jw} {d : Nat} {hs : jh} {mo : Nat} {ra : Nat → Nat} {S : js} {g : Nat → Option va_E} {b : Nat × Nat}
/-- FINISHED jobs, and timers that run, from k on -/
def zcF (S : js) : Nat → Int → Int
  | 0, _ => 0
  | n + 1, k => if k < S 1 0 then (if S 25 k = 0 then 0 else 1) + zcF S n (k + 1) else 0
def zcT (S : js) : Nat → Int → Int
  | 0, _ => 0
  | n + 1, k => if k < S 1 0 then (if S 29 k < 0 then 0 else 1) + (if S 31 k < 0 ∨ S 25 k ≠ 0 then 0 else 1) + zcT S n (k + 1) else 0
def zsel (x : Int) (S : js) (o t : Int) : Int := if x = 0 then S 1 0 else if x = 1 then o else if x = 2 then S 3 0 else if x = 3 then S 2 0 else if x = 4 then S 7 0 else if x = 5 then S 4 0 else if x = 6 then t else if x = 7 then S 5 0 else -1
def z_count (S : js) (x : Int) : Int := zsel x S (zcF S 25 0) (zcT S 25 0)
theorem r_cl {x : Int} (hx : jr x) (hR : RepR w mo ra S g b hs) (hJ : 0 ≤ S 1 0 ∧ S 1 0 ≤ 24) (hp : ∀ i, 0 ≤ i → i < S 1 0 → jr (S 25 i) ∧ jr (S 29 i) ∧ jr (S 31 i)) : ∀ (n : Nat) (k o t : Int), 0 ≤ k → k ≤ 24 → 24 ≤ k + n →
    V jcl w m_R_count d 12 [(0, .ref mo), (1, .int (ii x)), (2, .int (ii o)), (3, .int (ii t)), (4, .int (ii k))] [] hs (fun r hs' => r = .inl (some (.int (ii (zsel x S (o + zcF S (n + 1) k) (t + zcT S (n + 1) k))))) ∧ hs' = hs) := by
  intro n
  induction n with
  | zero =>
    intro k o t h1 h2 h3
    refine V.iload (pc := 12) d_R_count_12 rfl ?_
    first | refine V.aload_nR (pc := 14) d_R_count_14 rfl ?_ | refine V.aload_n (pc := 14) d_R_count_14 rfl ?_
    refine Vr.get (pc := 15) d_R_count_15 g_R_13 hR rfl ?_
    refine Vi.icmp_ge (pc := 18) (tgt := 76) d_R_count_18 (by decide) (by first | omega | (simp [up] <;> omega)) (by first | omega | (simp [up] <;> omega)) (fun c_18 => ?_) (fun c_18 => ?_)
    · refine V.iload_n (pc := 76) d_R_count_76 rfl ?_
      refine Vi.if_ne (pc := 77) (tgt := 87) d_R_count_77 (by decide) (by first | omega | (simp [up] <;> omega)) (fun c_77 => ?_) (fun c_77 => ?_)
      · refine V.iload_n (pc := 87) d_R_count_87 rfl ?_
        refine Vi.iconst (pc := 88) d_R_count_88 ?_
        refine Vi.icmp_ne (pc := 89) (tgt := 96) d_R_count_89 (by decide) (by first | omega | (simp [up] <;> omega)) (by first | omega | (simp [up] <;> omega)) (fun c_89 => ?_) (fun c_89 => ?_)
        · refine V.iload_n (pc := 96) d_R_count_96 rfl ?_
          refine Vi.iconst (pc := 97) d_R_count_97 ?_
          refine Vi.icmp_ne (pc := 98) (tgt := 108) d_R_count_98 (by decide) (by first | omega | (simp [up] <;> omega)) (by first | omega | (simp [up] <;> omega)) (fun c_98 => ?_) (fun c_98 => ?_)
          · refine V.iload_n (pc := 108) d_R_count_108 rfl ?_
            refine Vi.iconst (pc := 109) d_R_count_109 ?_
            refine Vi.icmp_ne (pc := 110) (tgt := 120) d_R_count_110 (by decide) (by first | omega | (simp [up] <;> omega)) (by first | omega | (simp [up] <;> omega)) (fun c_110 => ?_) (fun c_110 => ?_)
            · refine V.iload_n (pc := 120) d_R_count_120 rfl ?_
              refine Vi.iconst (pc := 121) d_R_count_121 ?_
              refine Vi.icmp_ne (pc := 122) (tgt := 132) d_R_count_122 (by decide) (by first | omega | (simp [up] <;> omega)) (by first | omega | (simp [up] <;> omega)) (fun c_122 => ?_) (fun c_122 => ?_)
              · refine V.iload_n (pc := 132) d_R_count_132 rfl ?_
                refine Vi.iconst (pc := 133) d_R_count_133 ?_
                refine Vi.icmp_ne (pc := 134) (tgt := 144) d_R_count_134 (by decide) (by first | omega | (simp [up] <;> omega)) (by first | omega | (simp [up] <;> omega)) (fun c_134 => ?_) (fun c_134 => ?_)
                · refine V.iload_n (pc := 144) d_R_count_144 rfl ?_
                  refine Vi.bipush (pc := 145) d_R_count_145 (by decide) ?_
                  refine Vi.icmp_ne (pc := 147) (tgt := 154) d_R_count_147 (by decide) (by first | omega | (simp [up] <;> omega)) (by first | omega | (simp [up] <;> omega)) (fun c_147 => ?_) (fun c_147 => ?_)
                  · refine V.iload_n (pc := 154) d_R_count_154 rfl ?_
                    refine Vi.bipush (pc := 155) d_R_count_155 (by decide) ?_
                    refine Vi.icmp_ne (pc := 157) (tgt := 167) d_R_count_157 (by decide) (by first | omega | (simp [up] <;> omega)) (by first | omega | (simp [up] <;> omega)) (fun c_157 => ?_) (fun c_157 => ?_)
                    · refine Vi.iconst (pc := 167) d_R_count_167 ?_
                      refine Vi.ireturn (pc := 168) d_R_count_168 rfl ?_
                      refine ⟨?_, rfl⟩
                      rw [zcF, zcT, if_neg (by omega), if_neg (by omega), Int.add_zero, Int.add_zero]
                      unfold zsel
                      (repeat' split) <;> first | rfl | (exfalso; omega)
                    · first | refine V.aload_nR (pc := 160) d_R_count_160 rfl ?_ | refine V.aload_n (pc := 160) d_R_count_160 rfl ?_
                      refine Vr.get (pc := 161) d_R_count_161 g_R_25 hR rfl ?_
                      refine V.goto (pc := 164) (tgt := 168) d_R_count_164 (by decide) ?_
                      refine Vi.ireturn (pc := 168) d_R_count_168 rfl ?_
                      refine ⟨?_, rfl⟩
                      rw [zcF, zcT, if_neg (by omega), if_neg (by omega), Int.add_zero, Int.add_zero]
                      unfold zsel
                      (repeat' split) <;> first | rfl | (exfalso; omega)
                  · refine V.iload_n (pc := 150) d_R_count_150 rfl ?_
                    refine V.goto (pc := 151) (tgt := 168) d_R_count_151 (by decide) ?_
                    refine Vi.ireturn (pc := 168) d_R_count_168 rfl ?_
                    refine ⟨?_, rfl⟩
                    rw [zcF, zcT, if_neg (by omega), if_neg (by omega), Int.add_zero, Int.add_zero]
                    unfold zsel
                    (repeat' split) <;> first | rfl | (exfalso; omega)
                · first | refine V.aload_nR (pc := 137) d_R_count_137 rfl ?_ | refine V.aload_n (pc := 137) d_R_count_137 rfl ?_
                  refine Vr.get (pc := 138) d_R_count_138 g_R_22 hR rfl ?_
                  refine V.goto (pc := 141) (tgt := 168) d_R_count_141 (by decide) ?_
                  refine Vi.ireturn (pc := 168) d_R_count_168 rfl ?_
                  refine ⟨?_, rfl⟩
                  rw [zcF, zcT, if_neg (by omega), if_neg (by omega), Int.add_zero, Int.add_zero]
                  unfold zsel
                  (repeat' split) <;> first | rfl | (exfalso; omega)
              · first | refine V.aload_nR (pc := 125) d_R_count_125 rfl ?_ | refine V.aload_n (pc := 125) d_R_count_125 rfl ?_
                refine Vr.get (pc := 126) d_R_count_126 g_R_31 hR rfl ?_
                refine V.goto (pc := 129) (tgt := 168) d_R_count_129 (by decide) ?_
                refine Vi.ireturn (pc := 168) d_R_count_168 rfl ?_
                refine ⟨?_, rfl⟩
                rw [zcF, zcT, if_neg (by omega), if_neg (by omega), Int.add_zero, Int.add_zero]
                unfold zsel
                (repeat' split) <;> first | rfl | (exfalso; omega)
            · first | refine V.aload_nR (pc := 113) d_R_count_113 rfl ?_ | refine V.aload_n (pc := 113) d_R_count_113 rfl ?_
              refine Vr.get (pc := 114) d_R_count_114 g_R_16 hR rfl ?_
              refine V.goto (pc := 117) (tgt := 168) d_R_count_117 (by decide) ?_
              refine Vi.ireturn (pc := 168) d_R_count_168 rfl ?_
              refine ⟨?_, rfl⟩
              rw [zcF, zcT, if_neg (by omega), if_neg (by omega), Int.add_zero, Int.add_zero]
              unfold zsel
              (repeat' split) <;> first | rfl | (exfalso; omega)
          · first | refine V.aload_nR (pc := 101) d_R_count_101 rfl ?_ | refine V.aload_n (pc := 101) d_R_count_101 rfl ?_
            refine Vr.get (pc := 102) d_R_count_102 g_R_19 hR rfl ?_
            refine V.goto (pc := 105) (tgt := 168) d_R_count_105 (by decide) ?_
            refine Vi.ireturn (pc := 168) d_R_count_168 rfl ?_
            refine ⟨?_, rfl⟩
            rw [zcF, zcT, if_neg (by omega), if_neg (by omega), Int.add_zero, Int.add_zero]
            unfold zsel
            (repeat' split) <;> first | rfl | (exfalso; omega)
        · refine V.iload_n (pc := 92) d_R_count_92 rfl ?_
          refine V.goto (pc := 93) (tgt := 168) d_R_count_93 (by decide) ?_
          refine Vi.ireturn (pc := 168) d_R_count_168 rfl ?_
          refine ⟨?_, rfl⟩
          rw [zcF, zcT, if_neg (by omega), if_neg (by omega), Int.add_zero, Int.add_zero]
          unfold zsel
          (repeat' split) <;> first | rfl | (exfalso; omega)
      · first | refine V.aload_nR (pc := 80) d_R_count_80 rfl ?_ | refine V.aload_n (pc := 80) d_R_count_80 rfl ?_
        refine Vr.get (pc := 81) d_R_count_81 g_R_13 hR rfl ?_
        refine V.goto (pc := 84) (tgt := 168) d_R_count_84 (by decide) ?_
        refine Vi.ireturn (pc := 168) d_R_count_168 rfl ?_
        refine ⟨?_, rfl⟩
        rw [zcF, zcT, if_neg (by omega), if_neg (by omega), Int.add_zero, Int.add_zero]
        unfold zsel
        (repeat' split) <;> first | rfl | (exfalso; omega)
    · omega
  | succ n ih =>
    intro k o t h1 h2 h3
    have hp' : k < S 1 0 → jr (S 25 k) ∧ jr (S 29 k) ∧ jr (S 31 k) := fun z => hp k h1 z
    refine V.iload (pc := 12) d_R_count_12 rfl ?_
    first | refine V.aload_nR (pc := 14) d_R_count_14 rfl ?_ | refine V.aload_n (pc := 14) d_R_count_14 rfl ?_
    refine Vr.get (pc := 15) d_R_count_15 g_R_13 hR rfl ?_
    refine Vi.icmp_ge (pc := 18) (tgt := 76) d_R_count_18 (by decide) (by first | omega | (simp [up] <;> omega)) (by first | omega | (simp [up] <;> omega)) (fun c_18 => ?_) (fun c_18 => ?_)
    · refine V.iload_n (pc := 76) d_R_count_76 rfl ?_
      refine Vi.if_ne (pc := 77) (tgt := 87) d_R_count_77 (by decide) (by first | omega | (simp [up] <;> omega)) (fun c_77 => ?_) (fun c_77 => ?_)
      · refine V.iload_n (pc := 87) d_R_count_87 rfl ?_
        refine Vi.iconst (pc := 88) d_R_count_88 ?_
        refine Vi.icmp_ne (pc := 89) (tgt := 96) d_R_count_89 (by decide) (by first | omega | (simp [up] <;> omega)) (by first | omega | (simp [up] <;> omega)) (fun c_89 => ?_) (fun c_89 => ?_)
        · refine V.iload_n (pc := 96) d_R_count_96 rfl ?_
          refine Vi.iconst (pc := 97) d_R_count_97 ?_
          refine Vi.icmp_ne (pc := 98) (tgt := 108) d_R_count_98 (by decide) (by first | omega | (simp [up] <;> omega)) (by first | omega | (simp [up] <;> omega)) (fun c_98 => ?_) (fun c_98 => ?_)
          · refine V.iload_n (pc := 108) d_R_count_108 rfl ?_
            refine Vi.iconst (pc := 109) d_R_count_109 ?_
            refine Vi.icmp_ne (pc := 110) (tgt := 120) d_R_count_110 (by decide) (by first | omega | (simp [up] <;> omega)) (by first | omega | (simp [up] <;> omega)) (fun c_110 => ?_) (fun c_110 => ?_)
            · refine V.iload_n (pc := 120) d_R_count_120 rfl ?_
              refine Vi.iconst (pc := 121) d_R_count_121 ?_
              refine Vi.icmp_ne (pc := 122) (tgt := 132) d_R_count_122 (by decide) (by first | omega | (simp [up] <;> omega)) (by first | omega | (simp [up] <;> omega)) (fun c_122 => ?_) (fun c_122 => ?_)
              · refine V.iload_n (pc := 132) d_R_count_132 rfl ?_
                refine Vi.iconst (pc := 133) d_R_count_133 ?_
                refine Vi.icmp_ne (pc := 134) (tgt := 144) d_R_count_134 (by decide) (by first | omega | (simp [up] <;> omega)) (by first | omega | (simp [up] <;> omega)) (fun c_134 => ?_) (fun c_134 => ?_)
                · refine V.iload_n (pc := 144) d_R_count_144 rfl ?_
                  refine Vi.bipush (pc := 145) d_R_count_145 (by decide) ?_
                  refine Vi.icmp_ne (pc := 147) (tgt := 154) d_R_count_147 (by decide) (by first | omega | (simp [up] <;> omega)) (by first | omega | (simp [up] <;> omega)) (fun c_147 => ?_) (fun c_147 => ?_)
                  · refine V.iload_n (pc := 154) d_R_count_154 rfl ?_
                    refine Vi.bipush (pc := 155) d_R_count_155 (by decide) ?_
                    refine Vi.icmp_ne (pc := 157) (tgt := 167) d_R_count_157 (by decide) (by first | omega | (simp [up] <;> omega)) (by first | omega | (simp [up] <;> omega)) (fun c_157 => ?_) (fun c_157 => ?_)
                    · refine Vi.iconst (pc := 167) d_R_count_167 ?_
                      refine Vi.ireturn (pc := 168) d_R_count_168 rfl ?_
                      refine ⟨?_, rfl⟩
                      rw [zcF, zcT, if_neg (by omega), if_neg (by omega), Int.add_zero, Int.add_zero]
                      unfold zsel
                      (repeat' split) <;> first | rfl | (exfalso; omega)
                    · first | refine V.aload_nR (pc := 160) d_R_count_160 rfl ?_ | refine V.aload_n (pc := 160) d_R_count_160 rfl ?_
                      refine Vr.get (pc := 161) d_R_count_161 g_R_25 hR rfl ?_
                      refine V.goto (pc := 164) (tgt := 168) d_R_count_164 (by decide) ?_
                      refine Vi.ireturn (pc := 168) d_R_count_168 rfl ?_
                      refine ⟨?_, rfl⟩
                      rw [zcF, zcT, if_neg (by omega), if_neg (by omega), Int.add_zero, Int.add_zero]
                      unfold zsel
                      (repeat' split) <;> first | rfl | (exfalso; omega)
                  · refine V.iload_n (pc := 150) d_R_count_150 rfl ?_
                    refine V.goto (pc := 151) (tgt := 168) d_R_count_151 (by decide) ?_
                    refine Vi.ireturn (pc := 168) d_R_count_168 rfl ?_
                    refine ⟨?_, rfl⟩
                    rw [zcF, zcT, if_neg (by omega), if_neg (by omega), Int.add_zero, Int.add_zero]
                    unfold zsel
                    (repeat' split) <;> first | rfl | (exfalso; omega)
                · first | refine V.aload_nR (pc := 137) d_R_count_137 rfl ?_ | refine V.aload_n (pc := 137) d_R_count_137 rfl ?_
                  refine Vr.get (pc := 138) d_R_count_138 g_R_22 hR rfl ?_
                  refine V.goto (pc := 141) (tgt := 168) d_R_count_141 (by decide) ?_
                  refine Vi.ireturn (pc := 168) d_R_count_168 rfl ?_
                  refine ⟨?_, rfl⟩
                  rw [zcF, zcT, if_neg (by omega), if_neg (by omega), Int.add_zero, Int.add_zero]
                  unfold zsel
                  (repeat' split) <;> first | rfl | (exfalso; omega)
              · first | refine V.aload_nR (pc := 125) d_R_count_125 rfl ?_ | refine V.aload_n (pc := 125) d_R_count_125 rfl ?_
                refine Vr.get (pc := 126) d_R_count_126 g_R_31 hR rfl ?_
                refine V.goto (pc := 129) (tgt := 168) d_R_count_129 (by decide) ?_
                refine Vi.ireturn (pc := 168) d_R_count_168 rfl ?_
                refine ⟨?_, rfl⟩
                rw [zcF, zcT, if_neg (by omega), if_neg (by omega), Int.add_zero, Int.add_zero]
                unfold zsel
                (repeat' split) <;> first | rfl | (exfalso; omega)
            · first | refine V.aload_nR (pc := 113) d_R_count_113 rfl ?_ | refine V.aload_n (pc := 113) d_R_count_113 rfl ?_
              refine Vr.get (pc := 114) d_R_count_114 g_R_16 hR rfl ?_
              refine V.goto (pc := 117) (tgt := 168) d_R_count_117 (by decide) ?_
              refine Vi.ireturn (pc := 168) d_R_count_168 rfl ?_
              refine ⟨?_, rfl⟩
              rw [zcF, zcT, if_neg (by omega), if_neg (by omega), Int.add_zero, Int.add_zero]
              unfold zsel
              (repeat' split) <;> first | rfl | (exfalso; omega)
          · first | refine V.aload_nR (pc := 101) d_R_count_101 rfl ?_ | refine V.aload_n (pc := 101) d_R_count_101 rfl ?_
            refine Vr.get (pc := 102) d_R_count_102 g_R_19 hR rfl ?_
            refine V.goto (pc := 105) (tgt := 168) d_R_count_105 (by decide) ?_
            refine Vi.ireturn (pc := 168) d_R_count_168 rfl ?_
            refine ⟨?_, rfl⟩
            rw [zcF, zcT, if_neg (by omega), if_neg (by omega), Int.add_zero, Int.add_zero]
            unfold zsel
            (repeat' split) <;> first | rfl | (exfalso; omega)
        · refine V.iload_n (pc := 92) d_R_count_92 rfl ?_
          refine V.goto (pc := 93) (tgt := 168) d_R_count_93 (by decide) ?_
          refine Vi.ireturn (pc := 168) d_R_count_168 rfl ?_
          refine ⟨?_, rfl⟩
          rw [zcF, zcT, if_neg (by omega), if_neg (by omega), Int.add_zero, Int.add_zero]
          unfold zsel
          (repeat' split) <;> first | rfl | (exfalso; omega)
      · first | refine V.aload_nR (pc := 80) d_R_count_80 rfl ?_ | refine V.aload_n (pc := 80) d_R_count_80 rfl ?_
        refine Vr.get (pc := 81) d_R_count_81 g_R_13 hR rfl ?_
        refine V.goto (pc := 84) (tgt := 168) d_R_count_84 (by decide) ?_
        refine Vi.ireturn (pc := 168) d_R_count_168 rfl ?_
        refine ⟨?_, rfl⟩
        rw [zcF, zcT, if_neg (by omega), if_neg (by omega), Int.add_zero, Int.add_zero]
        unfold zsel
        (repeat' split) <;> first | rfl | (exfalso; omega)
    · first | refine V.aload_nR (pc := 21) d_R_count_21 rfl ?_ | refine V.aload_n (pc := 21) d_R_count_21 rfl ?_
      refine Vr.get (pc := 22) d_R_count_22 g_R_88 hR rfl ?_
      refine V.iload (pc := 25) d_R_count_25 rfl ?_
      refine Vr.zald (pc := 27) (n := 24) d_R_count_27 hR (by decide) rfl (by first | omega | (simp [up] <;> omega)) ?_
      refine Vi.if_eq (pc := 28) (tgt := 34) d_R_count_28 (by decide) (by first | omega | (simp [up] <;> omega)) (fun c_28 => ?_) (fun c_28 => ?_)
      · first | refine V.aload_nR (pc := 34) d_R_count_34 rfl ?_ | refine V.aload_n (pc := 34) d_R_count_34 rfl ?_
        refine Vr.get (pc := 35) d_R_count_35 g_R_100 hR rfl ?_
        refine V.iload (pc := 38) d_R_count_38 rfl ?_
        refine Vr.ald (pc := 40) (n := 24) d_R_count_40 hR (by decide) rfl (by first | omega | (simp [up] <;> omega)) ?_
        refine Vi.if_lt (pc := 41) (tgt := 47) d_R_count_41 (by decide) (by first | omega | (simp [up] <;> omega)) (fun c_41 => ?_) (fun c_41 => ?_)
        · first | refine V.aload_nR (pc := 47) d_R_count_47 rfl ?_ | refine V.aload_n (pc := 47) d_R_count_47 rfl ?_
          refine Vr.get (pc := 48) d_R_count_48 g_R_106 hR rfl ?_
          refine V.iload (pc := 51) d_R_count_51 rfl ?_
          refine Vr.ald (pc := 53) (n := 24) d_R_count_53 hR (by decide) rfl (by first | omega | (simp [up] <;> omega)) ?_
          refine Vi.if_lt (pc := 54) (tgt := 70) d_R_count_54 (by decide) (by first | omega | (simp [up] <;> omega)) (fun c_54 => ?_) (fun c_54 => ?_)
          · refine Vi.iinc (pc := 70) d_R_count_70 rfl (by decide) ?_
            refine V.goto (pc := 73) (tgt := 12) d_R_count_73 (by decide) ?_
            refine V.post (V.lop (ih ((k + 1)) (o) (t) (by omega) (by omega) (by omega)) ⟨rfl, rfl, rfl, rfl, rfl, trivial⟩) (fun r hs' ho => ?_)
            have hk : k < S 1 0 := (by omega)
            rw [zcF, if_pos hk, zcT, if_pos hk]
            (repeat' split) <;> first | (exfalso; omega) | (refine ⟨?_, ho.2⟩; rw [ho.1]; congr 5 <;> omega)
          · first | refine V.aload_nR (pc := 57) d_R_count_57 rfl ?_ | refine V.aload_n (pc := 57) d_R_count_57 rfl ?_
            refine Vr.get (pc := 58) d_R_count_58 g_R_88 hR rfl ?_
            refine V.iload (pc := 61) d_R_count_61 rfl ?_
            refine Vr.zald (pc := 63) (n := 24) d_R_count_63 hR (by decide) rfl (by first | omega | (simp [up] <;> omega)) ?_
            refine Vi.if_ne (pc := 64) (tgt := 70) d_R_count_64 (by decide) (by first | omega | (simp [up] <;> omega)) (fun c_64 => ?_) (fun c_64 => ?_)
            · refine Vi.iinc (pc := 70) d_R_count_70 rfl (by decide) ?_
              refine V.goto (pc := 73) (tgt := 12) d_R_count_73 (by decide) ?_
              refine V.post (V.lop (ih ((k + 1)) (o) (t) (by omega) (by omega) (by omega)) ⟨rfl, rfl, rfl, rfl, rfl, trivial⟩) (fun r hs' ho => ?_)
              have hk : k < S 1 0 := (by omega)
              rw [zcF, if_pos hk, zcT, if_pos hk]
              (repeat' split) <;> first | (exfalso; omega) | (refine ⟨?_, ho.2⟩; rw [ho.1]; congr 5 <;> omega)
            · refine Vi.iinc (pc := 67) d_R_count_67 rfl (by decide) ?_
              refine Vi.iinc (pc := 70) d_R_count_70 rfl (by decide) ?_
              refine V.goto (pc := 73) (tgt := 12) d_R_count_73 (by decide) ?_
              refine V.post (V.lop (ih ((k + 1)) (o) ((t + 1)) (by omega) (by omega) (by omega)) ⟨rfl, rfl, rfl, rfl, rfl, trivial⟩) (fun r hs' ho => ?_)
              have hk : k < S 1 0 := (by omega)
              rw [zcF, if_pos hk, zcT, if_pos hk]
              (repeat' split) <;> first | (exfalso; omega) | (refine ⟨?_, ho.2⟩; rw [ho.1]; congr 5 <;> omega)
        · refine Vi.iinc (pc := 44) d_R_count_44 rfl (by decide) ?_
          first | refine V.aload_nR (pc := 47) d_R_count_47 rfl ?_ | refine V.aload_n (pc := 47) d_R_count_47 rfl ?_
          refine Vr.get (pc := 48) d_R_count_48 g_R_106 hR rfl ?_
          refine V.iload (pc := 51) d_R_count_51 rfl ?_
          refine Vr.ald (pc := 53) (n := 24) d_R_count_53 hR (by decide) rfl (by first | omega | (simp [up] <;> omega)) ?_
          refine Vi.if_lt (pc := 54) (tgt := 70) d_R_count_54 (by decide) (by first | omega | (simp [up] <;> omega)) (fun c_54 => ?_) (fun c_54 => ?_)
          · refine Vi.iinc (pc := 70) d_R_count_70 rfl (by decide) ?_
            refine V.goto (pc := 73) (tgt := 12) d_R_count_73 (by decide) ?_
            refine V.post (V.lop (ih ((k + 1)) (o) ((t + 1)) (by omega) (by omega) (by omega)) ⟨rfl, rfl, rfl, rfl, rfl, trivial⟩) (fun r hs' ho => ?_)
            have hk : k < S 1 0 := (by omega)
            rw [zcF, if_pos hk, zcT, if_pos hk]
            (repeat' split) <;> first | (exfalso; omega) | (refine ⟨?_, ho.2⟩; rw [ho.1]; congr 5 <;> omega)
          · first | refine V.aload_nR (pc := 57) d_R_count_57 rfl ?_ | refine V.aload_n (pc := 57) d_R_count_57 rfl ?_
            refine Vr.get (pc := 58) d_R_count_58 g_R_88 hR rfl ?_
            refine V.iload (pc := 61) d_R_count_61 rfl ?_
            refine Vr.zald (pc := 63) (n := 24) d_R_count_63 hR (by decide) rfl (by first | omega | (simp [up] <;> omega)) ?_
            refine Vi.if_ne (pc := 64) (tgt := 70) d_R_count_64 (by decide) (by first | omega | (simp [up] <;> omega)) (fun c_64 => ?_) (fun c_64 => ?_)
            · refine Vi.iinc (pc := 70) d_R_count_70 rfl (by decide) ?_
              refine V.goto (pc := 73) (tgt := 12) d_R_count_73 (by decide) ?_
              refine V.post (V.lop (ih ((k + 1)) (o) ((t + 1)) (by omega) (by omega) (by omega)) ⟨rfl, rfl, rfl, rfl, rfl, trivial⟩) (fun r hs' ho => ?_)
              have hk : k < S 1 0 := (by omega)
              rw [zcF, if_pos hk, zcT, if_pos hk]
              (repeat' split) <;> first | (exfalso; omega) | (refine ⟨?_, ho.2⟩; rw [ho.1]; congr 5 <;> omega)
            · refine Vi.iinc (pc := 67) d_R_count_67 rfl (by decide) ?_
              refine Vi.iinc (pc := 70) d_R_count_70 rfl (by decide) ?_
              refine V.goto (pc := 73) (tgt := 12) d_R_count_73 (by decide) ?_
              refine V.post (V.lop (ih ((k + 1)) (o) (((t + 1) + 1)) (by omega) (by omega) (by omega)) ⟨rfl, rfl, rfl, rfl, rfl, trivial⟩) (fun r hs' ho => ?_)
              have hk : k < S 1 0 := (by omega)
              rw [zcF, if_pos hk, zcT, if_pos hk]
              (repeat' split) <;> first | (exfalso; omega) | (refine ⟨?_, ho.2⟩; rw [ho.1]; congr 5 <;> omega)
      · refine Vi.iinc (pc := 31) d_R_count_31 rfl (by decide) ?_
        first | refine V.aload_nR (pc := 34) d_R_count_34 rfl ?_ | refine V.aload_n (pc := 34) d_R_count_34 rfl ?_
        refine Vr.get (pc := 35) d_R_count_35 g_R_100 hR rfl ?_
        refine V.iload (pc := 38) d_R_count_38 rfl ?_
        refine Vr.ald (pc := 40) (n := 24) d_R_count_40 hR (by decide) rfl (by first | omega | (simp [up] <;> omega)) ?_
        refine Vi.if_lt (pc := 41) (tgt := 47) d_R_count_41 (by decide) (by first | omega | (simp [up] <;> omega)) (fun c_41 => ?_) (fun c_41 => ?_)
        · first | refine V.aload_nR (pc := 47) d_R_count_47 rfl ?_ | refine V.aload_n (pc := 47) d_R_count_47 rfl ?_
          refine Vr.get (pc := 48) d_R_count_48 g_R_106 hR rfl ?_
          refine V.iload (pc := 51) d_R_count_51 rfl ?_
          refine Vr.ald (pc := 53) (n := 24) d_R_count_53 hR (by decide) rfl (by first | omega | (simp [up] <;> omega)) ?_
          refine Vi.if_lt (pc := 54) (tgt := 70) d_R_count_54 (by decide) (by first | omega | (simp [up] <;> omega)) (fun c_54 => ?_) (fun c_54 => ?_)
          · refine Vi.iinc (pc := 70) d_R_count_70 rfl (by decide) ?_
            refine V.goto (pc := 73) (tgt := 12) d_R_count_73 (by decide) ?_
            refine V.post (V.lop (ih ((k + 1)) ((o + 1)) (t) (by omega) (by omega) (by omega)) ⟨rfl, rfl, rfl, rfl, rfl, trivial⟩) (fun r hs' ho => ?_)
            have hk : k < S 1 0 := (by omega)
            rw [zcF, if_pos hk, zcT, if_pos hk]
            (repeat' split) <;> first | (exfalso; omega) | (refine ⟨?_, ho.2⟩; rw [ho.1]; congr 5 <;> omega)
          · first | refine V.aload_nR (pc := 57) d_R_count_57 rfl ?_ | refine V.aload_n (pc := 57) d_R_count_57 rfl ?_
            refine Vr.get (pc := 58) d_R_count_58 g_R_88 hR rfl ?_
            refine V.iload (pc := 61) d_R_count_61 rfl ?_
            refine Vr.zald (pc := 63) (n := 24) d_R_count_63 hR (by decide) rfl (by first | omega | (simp [up] <;> omega)) ?_
            refine Vi.if_ne (pc := 64) (tgt := 70) d_R_count_64 (by decide) (by first | omega | (simp [up] <;> omega)) (fun c_64 => ?_) (fun c_64 => ?_)
            · refine Vi.iinc (pc := 70) d_R_count_70 rfl (by decide) ?_
              refine V.goto (pc := 73) (tgt := 12) d_R_count_73 (by decide) ?_
              refine V.post (V.lop (ih ((k + 1)) ((o + 1)) (t) (by omega) (by omega) (by omega)) ⟨rfl, rfl, rfl, rfl, rfl, trivial⟩) (fun r hs' ho => ?_)
              have hk : k < S 1 0 := (by omega)
              rw [zcF, if_pos hk, zcT, if_pos hk]
              (repeat' split) <;> first | (exfalso; omega) | (refine ⟨?_, ho.2⟩; rw [ho.1]; congr 5 <;> omega)
            · refine Vi.iinc (pc := 67) d_R_count_67 rfl (by decide) ?_
              refine Vi.iinc (pc := 70) d_R_count_70 rfl (by decide) ?_
              refine V.goto (pc := 73) (tgt := 12) d_R_count_73 (by decide) ?_
              refine V.post (V.lop (ih ((k + 1)) ((o + 1)) ((t + 1)) (by omega) (by omega) (by omega)) ⟨rfl, rfl, rfl, rfl, rfl, trivial⟩) (fun r hs' ho => ?_)
              have hk : k < S 1 0 := (by omega)
              rw [zcF, if_pos hk, zcT, if_pos hk]
              (repeat' split) <;> first | (exfalso; omega) | (refine ⟨?_, ho.2⟩; rw [ho.1]; congr 5 <;> omega)
        · refine Vi.iinc (pc := 44) d_R_count_44 rfl (by decide) ?_
          first | refine V.aload_nR (pc := 47) d_R_count_47 rfl ?_ | refine V.aload_n (pc := 47) d_R_count_47 rfl ?_
          refine Vr.get (pc := 48) d_R_count_48 g_R_106 hR rfl ?_
          refine V.iload (pc := 51) d_R_count_51 rfl ?_
          refine Vr.ald (pc := 53) (n := 24) d_R_count_53 hR (by decide) rfl (by first | omega | (simp [up] <;> omega)) ?_
          refine Vi.if_lt (pc := 54) (tgt := 70) d_R_count_54 (by decide) (by first | omega | (simp [up] <;> omega)) (fun c_54 => ?_) (fun c_54 => ?_)
          · refine Vi.iinc (pc := 70) d_R_count_70 rfl (by decide) ?_
            refine V.goto (pc := 73) (tgt := 12) d_R_count_73 (by decide) ?_
            refine V.post (V.lop (ih ((k + 1)) ((o + 1)) ((t + 1)) (by omega) (by omega) (by omega)) ⟨rfl, rfl, rfl, rfl, rfl, trivial⟩) (fun r hs' ho => ?_)
            have hk : k < S 1 0 := (by omega)
            rw [zcF, if_pos hk, zcT, if_pos hk]
            (repeat' split) <;> first | (exfalso; omega) | (refine ⟨?_, ho.2⟩; rw [ho.1]; congr 5 <;> omega)
          · first | refine V.aload_nR (pc := 57) d_R_count_57 rfl ?_ | refine V.aload_n (pc := 57) d_R_count_57 rfl ?_
            refine Vr.get (pc := 58) d_R_count_58 g_R_88 hR rfl ?_
            refine V.iload (pc := 61) d_R_count_61 rfl ?_
            refine Vr.zald (pc := 63) (n := 24) d_R_count_63 hR (by decide) rfl (by first | omega | (simp [up] <;> omega)) ?_
            refine Vi.if_ne (pc := 64) (tgt := 70) d_R_count_64 (by decide) (by first | omega | (simp [up] <;> omega)) (fun c_64 => ?_) (fun c_64 => ?_)
            · refine Vi.iinc (pc := 70) d_R_count_70 rfl (by decide) ?_
              refine V.goto (pc := 73) (tgt := 12) d_R_count_73 (by decide) ?_
              refine V.post (V.lop (ih ((k + 1)) ((o + 1)) ((t + 1)) (by omega) (by omega) (by omega)) ⟨rfl, rfl, rfl, rfl, rfl, trivial⟩) (fun r hs' ho => ?_)
              have hk : k < S 1 0 := (by omega)
              rw [zcF, if_pos hk, zcT, if_pos hk]
              (repeat' split) <;> first | (exfalso; omega) | (refine ⟨?_, ho.2⟩; rw [ho.1]; congr 5 <;> omega)
            · refine Vi.iinc (pc := 67) d_R_count_67 rfl (by decide) ?_
              refine Vi.iinc (pc := 70) d_R_count_70 rfl (by decide) ?_
              refine V.goto (pc := 73) (tgt := 12) d_R_count_73 (by decide) ?_
              refine V.post (V.lop (ih ((k + 1)) ((o + 1)) (((t + 1) + 1)) (by omega) (by omega) (by omega)) ⟨rfl, rfl, rfl, rfl, rfl, trivial⟩) (fun r hs' ho => ?_)
              have hk : k < S 1 0 := (by omega)
              rw [zcF, if_pos hk, zcT, if_pos hk]
              (repeat' split) <;> first | (exfalso; omega) | (refine ⟨?_, ho.2⟩; rw [ho.1]; congr 5 <;> omega)
theorem r_count {x : Int} (hx : jr x) (hR : RepR w mo ra S g b hs) (hJ : 0 ≤ S 1 0 ∧ S 1 0 ≤ 24) (hp : ∀ i, 0 ≤ i → i < S 1 0 → jr (S 25 i) ∧ jr (S 29 i) ∧ jr (S 31 i)) :
    V jcl w m_R_count d 0 [(0, .ref mo), (1, .int (ii x))] [] hs (fun r hs' => r = .inl (some (.int (ii (z_count S x)))) ∧ RepR w mo ra (up S 0 0 0) g b hs') := by
  first | refine V.aload_nR (pc := 0) d_R_count_0 rfl ?_ | refine V.aload_n (pc := 0) d_R_count_0 rfl ?_
  refine Vi.iconst (pc := 1) d_R_count_1 ?_
  refine Vr.put0 (pc := 2) d_R_count_2 f_R_7 hR (fun hs hR => ?_)
  refine Vi.iconst (pc := 5) d_R_count_5 ?_
  refine V.istore_n (pc := 6) d_R_count_6 (by decide) ?_
  refine Vi.iconst (pc := 7) d_R_count_7 ?_
  refine V.istore_n (pc := 8) d_R_count_8 (by decide) ?_
  refine Vi.iconst (pc := 9) d_R_count_9 ?_
  refine V.istore (pc := 10) d_R_count_10 (by decide) ?_
  have e1 : ∀ f i, f ≠ 0 → up S 0 0 0 f i = S f i := fun f i h => up_f h
  refine V.post (V.lop (r_cl hx hR ?hJ ?hp 24 0 0 0 (by omega) (by omega) (by omega)) ⟨rfl, rfl, rfl, rfl, rfl, trivial⟩) (fun r hs' ho => ?hq)
  case hJ => simpa [up] using hJ
  case hp => simpa [up] using hp
  case hq =>
    obtain ⟨h1, rfl⟩ := ho
    refine ⟨?_, hR⟩
    rw [h1, Int.zero_add, Int.zero_add]
    have a1 : ∀ n k, zcF (up S 0 0 0) n k = zcF S n k := by
      intro n
      induction n with
      | zero => intro k; rfl
      | succ n ih => intro k; rw [zcF, zcF, ih]; simp [up]
    have a2 : ∀ n k, zcT (up S 0 0 0) n k = zcT S n k := by
      intro n
      induction n with
      | zero => intro k; rfl
      | succ n ih => intro k; rw [zcT, zcT, ih]; simp [up]
    rw [a1, a2]
    unfold z_count zsel
    simp [up]
/-- the earliest time -/
def ze1 (S : js) (k t : Int) : Int := if 0 ≤ S 29 k ∧ (t < 0 ∨ S 29 k < t) then S 29 k else t
def ze2 (S : js) (k t : Int) : Int := if 0 ≤ S 31 k ∧ S 25 k = 0 ∧ (t < 0 ∨ S 31 k < t) then S 31 k else t
def zeL (S : js) : Nat → Int → Int → Int
  | 0, _, t => t
  | n + 1, k, t => if k < S 1 0 then zeL S n (k + 1) (ze2 S k (ze1 S k t)) else t
def z_earliest (S : js) : Int := zeL S 25 0 (-1)
theorem r_el (hR : RepR w mo ra S g b hs) (hJ : 0 ≤ S 1 0 ∧ S 1 0 ≤ 24) (hp : ∀ i, 0 ≤ i → i < S 1 0 → jr (S 25 i) ∧ jr (S 29 i) ∧ jr (S 31 i)) : ∀ (n : Nat) (k t : Int), 0 ≤ k → k ≤ 24 → 24 ≤ k + n → jr t →
    V jcl w m_R_earliest d 4 [(0, .ref mo), (1, .int (ii t)), (2, .int (ii k))] [] hs (fun r hs' => r = .inl (some (.int (ii (zeL S (n + 1) k t)))) ∧ hs' = hs) := by
  intro n
  induction n with
  | zero =>
    intro k t h1 h2 h3 ht
    refine V.iload_n (pc := 4) d_R_earliest_4 rfl ?_
    first | refine V.aload_nR (pc := 5) d_R_earliest_5 rfl ?_ | refine V.aload_n (pc := 5) d_R_earliest_5 rfl ?_
    refine Vr.get (pc := 6) d_R_earliest_6 g_R_13 hR rfl ?_
    refine Vi.icmp_ge (pc := 9) (tgt := 87) d_R_earliest_9 (by decide) (by first | omega | (simp [up] <;> omega)) (by first | omega | (simp [up] <;> omega)) (fun c_9 => ?_) (fun c_9 => ?_)
    · refine V.iload_n (pc := 87) d_R_earliest_87 rfl ?_
      refine Vi.ireturn (pc := 88) d_R_earliest_88 rfl ?_
      exact ⟨by rw [zeL, if_neg (by omega)], rfl⟩
    · omega
  | succ n ih =>
    intro k t h1 h2 h3 ht
    have hp' : k < S 1 0 → jr (S 25 k) ∧ jr (S 29 k) ∧ jr (S 31 k) := fun z => hp k h1 z
    refine V.iload_n (pc := 4) d_R_earliest_4 rfl ?_
    first | refine V.aload_nR (pc := 5) d_R_earliest_5 rfl ?_ | refine V.aload_n (pc := 5) d_R_earliest_5 rfl ?_
    refine Vr.get (pc := 6) d_R_earliest_6 g_R_13 hR rfl ?_
    refine Vi.icmp_ge (pc := 9) (tgt := 87) d_R_earliest_9 (by decide) (by first | omega | (simp [up] <;> omega)) (by first | omega | (simp [up] <;> omega)) (fun c_9 => ?_) (fun c_9 => ?_)
    · refine V.iload_n (pc := 87) d_R_earliest_87 rfl ?_
      refine Vi.ireturn (pc := 88) d_R_earliest_88 rfl ?_
      exact ⟨by rw [zeL, if_neg (by omega)], rfl⟩
    · first | refine V.aload_nR (pc := 12) d_R_earliest_12 rfl ?_ | refine V.aload_n (pc := 12) d_R_earliest_12 rfl ?_
      refine Vr.get (pc := 13) d_R_earliest_13 g_R_100 hR rfl ?_
      refine V.iload_n (pc := 16) d_R_earliest_16 rfl ?_
      refine Vr.ald (pc := 17) (n := 24) d_R_earliest_17 hR (by decide) rfl (by first | omega | (simp [up] <;> omega)) ?_
      refine Vi.if_lt (pc := 18) (tgt := 42) d_R_earliest_18 (by decide) (by first | omega | (simp [up] <;> omega)) (fun c_18 => ?_) (fun c_18 => ?_)
      · first | refine V.aload_nR (pc := 42) d_R_earliest_42 rfl ?_ | refine V.aload_n (pc := 42) d_R_earliest_42 rfl ?_
        refine Vr.get (pc := 43) d_R_earliest_43 g_R_106 hR rfl ?_
        refine V.iload_n (pc := 46) d_R_earliest_46 rfl ?_
        refine Vr.ald (pc := 47) (n := 24) d_R_earliest_47 hR (by decide) rfl (by first | omega | (simp [up] <;> omega)) ?_
        refine Vi.if_lt (pc := 48) (tgt := 81) d_R_earliest_48 (by decide) (by first | omega | (simp [up] <;> omega)) (fun c_48 => ?_) (fun c_48 => ?_)
        · refine Vi.iinc (pc := 81) d_R_earliest_81 rfl (by decide) ?_
          refine V.goto (pc := 84) (tgt := 4) d_R_earliest_84 (by decide) ?_
          refine V.post (V.lop (ih ((k + 1)) (t) (by omega) (by omega) (by omega) (by omega)) ⟨rfl, rfl, rfl, trivial⟩) (fun r hs' ho => ?_)
          rw [zeL, if_pos (by omega)]; refine ⟨?_, ho.2⟩; rw [ho.1]; congr 5; unfold ze2 ze1; (repeat' split) <;> first | rfl | (exfalso; omega)
        · first | refine V.aload_nR (pc := 51) d_R_earliest_51 rfl ?_ | refine V.aload_n (pc := 51) d_R_earliest_51 rfl ?_
          refine Vr.get (pc := 52) d_R_earliest_52 g_R_88 hR rfl ?_
          refine V.iload_n (pc := 55) d_R_earliest_55 rfl ?_
          refine Vr.zald (pc := 56) (n := 24) d_R_earliest_56 hR (by decide) rfl (by first | omega | (simp [up] <;> omega)) ?_
          refine Vi.if_ne (pc := 57) (tgt := 81) d_R_earliest_57 (by decide) (by first | omega | (simp [up] <;> omega)) (fun c_57 => ?_) (fun c_57 => ?_)
          · refine Vi.iinc (pc := 81) d_R_earliest_81 rfl (by decide) ?_
            refine V.goto (pc := 84) (tgt := 4) d_R_earliest_84 (by decide) ?_
            refine V.post (V.lop (ih ((k + 1)) (t) (by omega) (by omega) (by omega) (by omega)) ⟨rfl, rfl, rfl, trivial⟩) (fun r hs' ho => ?_)
            rw [zeL, if_pos (by omega)]; refine ⟨?_, ho.2⟩; rw [ho.1]; congr 5; unfold ze2 ze1; (repeat' split) <;> first | rfl | (exfalso; omega)
          · refine V.iload_n (pc := 60) d_R_earliest_60 rfl ?_
            refine Vi.if_lt (pc := 61) (tgt := 74) d_R_earliest_61 (by decide) (by first | omega | (simp [up] <;> omega)) (fun c_61 => ?_) (fun c_61 => ?_)
            · first | refine V.aload_nR (pc := 74) d_R_earliest_74 rfl ?_ | refine V.aload_n (pc := 74) d_R_earliest_74 rfl ?_
              refine Vr.get (pc := 75) d_R_earliest_75 g_R_106 hR rfl ?_
              refine V.iload_n (pc := 78) d_R_earliest_78 rfl ?_
              refine Vr.ald (pc := 79) (n := 24) d_R_earliest_79 hR (by decide) rfl (by first | omega | (simp [up] <;> omega)) ?_
              refine V.istore_n (pc := 80) d_R_earliest_80 (by decide) ?_
              refine Vi.iinc (pc := 81) d_R_earliest_81 rfl (by decide) ?_
              refine V.goto (pc := 84) (tgt := 4) d_R_earliest_84 (by decide) ?_
              refine V.post (V.lop (ih ((k + 1)) ((S 31 k)) (by omega) (by omega) (by omega) (by omega)) ⟨rfl, rfl, rfl, trivial⟩) (fun r hs' ho => ?_)
              rw [zeL, if_pos (by omega)]; refine ⟨?_, ho.2⟩; rw [ho.1]; congr 5; unfold ze2 ze1; (repeat' split) <;> first | rfl | (exfalso; omega)
            · first | refine V.aload_nR (pc := 64) d_R_earliest_64 rfl ?_ | refine V.aload_n (pc := 64) d_R_earliest_64 rfl ?_
              refine Vr.get (pc := 65) d_R_earliest_65 g_R_106 hR rfl ?_
              refine V.iload_n (pc := 68) d_R_earliest_68 rfl ?_
              refine Vr.ald (pc := 69) (n := 24) d_R_earliest_69 hR (by decide) rfl (by first | omega | (simp [up] <;> omega)) ?_
              refine V.iload_n (pc := 70) d_R_earliest_70 rfl ?_
              refine Vi.icmp_ge (pc := 71) (tgt := 81) d_R_earliest_71 (by decide) (by first | omega | (simp [up] <;> omega)) (by first | omega | (simp [up] <;> omega)) (fun c_71 => ?_) (fun c_71 => ?_)
              · refine Vi.iinc (pc := 81) d_R_earliest_81 rfl (by decide) ?_
                refine V.goto (pc := 84) (tgt := 4) d_R_earliest_84 (by decide) ?_
                refine V.post (V.lop (ih ((k + 1)) (t) (by omega) (by omega) (by omega) (by omega)) ⟨rfl, rfl, rfl, trivial⟩) (fun r hs' ho => ?_)
                rw [zeL, if_pos (by omega)]; refine ⟨?_, ho.2⟩; rw [ho.1]; congr 5; unfold ze2 ze1; (repeat' split) <;> first | rfl | (exfalso; omega)
              · first | refine V.aload_nR (pc := 74) d_R_earliest_74 rfl ?_ | refine V.aload_n (pc := 74) d_R_earliest_74 rfl ?_
                refine Vr.get (pc := 75) d_R_earliest_75 g_R_106 hR rfl ?_
                refine V.iload_n (pc := 78) d_R_earliest_78 rfl ?_
                refine Vr.ald (pc := 79) (n := 24) d_R_earliest_79 hR (by decide) rfl (by first | omega | (simp [up] <;> omega)) ?_
                refine V.istore_n (pc := 80) d_R_earliest_80 (by decide) ?_
                refine Vi.iinc (pc := 81) d_R_earliest_81 rfl (by decide) ?_
                refine V.goto (pc := 84) (tgt := 4) d_R_earliest_84 (by decide) ?_
                refine V.post (V.lop (ih ((k + 1)) ((S 31 k)) (by omega) (by omega) (by omega) (by omega)) ⟨rfl, rfl, rfl, trivial⟩) (fun r hs' ho => ?_)
                rw [zeL, if_pos (by omega)]; refine ⟨?_, ho.2⟩; rw [ho.1]; congr 5; unfold ze2 ze1; (repeat' split) <;> first | rfl | (exfalso; omega)
      · refine V.iload_n (pc := 21) d_R_earliest_21 rfl ?_
        refine Vi.if_lt (pc := 22) (tgt := 35) d_R_earliest_22 (by decide) (by first | omega | (simp [up] <;> omega)) (fun c_22 => ?_) (fun c_22 => ?_)
        · first | refine V.aload_nR (pc := 35) d_R_earliest_35 rfl ?_ | refine V.aload_n (pc := 35) d_R_earliest_35 rfl ?_
          refine Vr.get (pc := 36) d_R_earliest_36 g_R_100 hR rfl ?_
          refine V.iload_n (pc := 39) d_R_earliest_39 rfl ?_
          refine Vr.ald (pc := 40) (n := 24) d_R_earliest_40 hR (by decide) rfl (by first | omega | (simp [up] <;> omega)) ?_
          refine V.istore_n (pc := 41) d_R_earliest_41 (by decide) ?_
          first | refine V.aload_nR (pc := 42) d_R_earliest_42 rfl ?_ | refine V.aload_n (pc := 42) d_R_earliest_42 rfl ?_
          refine Vr.get (pc := 43) d_R_earliest_43 g_R_106 hR rfl ?_
          refine V.iload_n (pc := 46) d_R_earliest_46 rfl ?_
          refine Vr.ald (pc := 47) (n := 24) d_R_earliest_47 hR (by decide) rfl (by first | omega | (simp [up] <;> omega)) ?_
          refine Vi.if_lt (pc := 48) (tgt := 81) d_R_earliest_48 (by decide) (by first | omega | (simp [up] <;> omega)) (fun c_48 => ?_) (fun c_48 => ?_)
          · refine Vi.iinc (pc := 81) d_R_earliest_81 rfl (by decide) ?_
            refine V.goto (pc := 84) (tgt := 4) d_R_earliest_84 (by decide) ?_
            refine V.post (V.lop (ih ((k + 1)) ((S 29 k)) (by omega) (by omega) (by omega) (by omega)) ⟨rfl, rfl, rfl, trivial⟩) (fun r hs' ho => ?_)
            rw [zeL, if_pos (by omega)]; refine ⟨?_, ho.2⟩; rw [ho.1]; congr 5; unfold ze2 ze1; (repeat' split) <;> first | rfl | (exfalso; omega)
          · first | refine V.aload_nR (pc := 51) d_R_earliest_51 rfl ?_ | refine V.aload_n (pc := 51) d_R_earliest_51 rfl ?_
            refine Vr.get (pc := 52) d_R_earliest_52 g_R_88 hR rfl ?_
            refine V.iload_n (pc := 55) d_R_earliest_55 rfl ?_
            refine Vr.zald (pc := 56) (n := 24) d_R_earliest_56 hR (by decide) rfl (by first | omega | (simp [up] <;> omega)) ?_
            refine Vi.if_ne (pc := 57) (tgt := 81) d_R_earliest_57 (by decide) (by first | omega | (simp [up] <;> omega)) (fun c_57 => ?_) (fun c_57 => ?_)
            · refine Vi.iinc (pc := 81) d_R_earliest_81 rfl (by decide) ?_
              refine V.goto (pc := 84) (tgt := 4) d_R_earliest_84 (by decide) ?_
              refine V.post (V.lop (ih ((k + 1)) ((S 29 k)) (by omega) (by omega) (by omega) (by omega)) ⟨rfl, rfl, rfl, trivial⟩) (fun r hs' ho => ?_)
              rw [zeL, if_pos (by omega)]; refine ⟨?_, ho.2⟩; rw [ho.1]; congr 5; unfold ze2 ze1; (repeat' split) <;> first | rfl | (exfalso; omega)
            · refine V.iload_n (pc := 60) d_R_earliest_60 rfl ?_
              refine Vi.if_lt (pc := 61) (tgt := 74) d_R_earliest_61 (by decide) (by first | omega | (simp [up] <;> omega)) (fun c_61 => ?_) (fun c_61 => ?_)
              · first | refine V.aload_nR (pc := 74) d_R_earliest_74 rfl ?_ | refine V.aload_n (pc := 74) d_R_earliest_74 rfl ?_
                refine Vr.get (pc := 75) d_R_earliest_75 g_R_106 hR rfl ?_
                refine V.iload_n (pc := 78) d_R_earliest_78 rfl ?_
                refine Vr.ald (pc := 79) (n := 24) d_R_earliest_79 hR (by decide) rfl (by first | omega | (simp [up] <;> omega)) ?_
                refine V.istore_n (pc := 80) d_R_earliest_80 (by decide) ?_
                refine Vi.iinc (pc := 81) d_R_earliest_81 rfl (by decide) ?_
                refine V.goto (pc := 84) (tgt := 4) d_R_earliest_84 (by decide) ?_
                refine V.post (V.lop (ih ((k + 1)) ((S 31 k)) (by omega) (by omega) (by omega) (by omega)) ⟨rfl, rfl, rfl, trivial⟩) (fun r hs' ho => ?_)
                rw [zeL, if_pos (by omega)]; refine ⟨?_, ho.2⟩; rw [ho.1]; congr 5; unfold ze2 ze1; (repeat' split) <;> first | rfl | (exfalso; omega)
              · first | refine V.aload_nR (pc := 64) d_R_earliest_64 rfl ?_ | refine V.aload_n (pc := 64) d_R_earliest_64 rfl ?_
                refine Vr.get (pc := 65) d_R_earliest_65 g_R_106 hR rfl ?_
                refine V.iload_n (pc := 68) d_R_earliest_68 rfl ?_
                refine Vr.ald (pc := 69) (n := 24) d_R_earliest_69 hR (by decide) rfl (by first | omega | (simp [up] <;> omega)) ?_
                refine V.iload_n (pc := 70) d_R_earliest_70 rfl ?_
                refine Vi.icmp_ge (pc := 71) (tgt := 81) d_R_earliest_71 (by decide) (by first | omega | (simp [up] <;> omega)) (by first | omega | (simp [up] <;> omega)) (fun c_71 => ?_) (fun c_71 => ?_)
                · refine Vi.iinc (pc := 81) d_R_earliest_81 rfl (by decide) ?_
                  refine V.goto (pc := 84) (tgt := 4) d_R_earliest_84 (by decide) ?_
                  refine V.post (V.lop (ih ((k + 1)) ((S 29 k)) (by omega) (by omega) (by omega) (by omega)) ⟨rfl, rfl, rfl, trivial⟩) (fun r hs' ho => ?_)
                  rw [zeL, if_pos (by omega)]; refine ⟨?_, ho.2⟩; rw [ho.1]; congr 5; unfold ze2 ze1; (repeat' split) <;> first | rfl | (exfalso; omega)
                · first | refine V.aload_nR (pc := 74) d_R_earliest_74 rfl ?_ | refine V.aload_n (pc := 74) d_R_earliest_74 rfl ?_
                  refine Vr.get (pc := 75) d_R_earliest_75 g_R_106 hR rfl ?_
                  refine V.iload_n (pc := 78) d_R_earliest_78 rfl ?_
                  refine Vr.ald (pc := 79) (n := 24) d_R_earliest_79 hR (by decide) rfl (by first | omega | (simp [up] <;> omega)) ?_
                  refine V.istore_n (pc := 80) d_R_earliest_80 (by decide) ?_
                  refine Vi.iinc (pc := 81) d_R_earliest_81 rfl (by decide) ?_
                  refine V.goto (pc := 84) (tgt := 4) d_R_earliest_84 (by decide) ?_
                  refine V.post (V.lop (ih ((k + 1)) ((S 31 k)) (by omega) (by omega) (by omega) (by omega)) ⟨rfl, rfl, rfl, trivial⟩) (fun r hs' ho => ?_)
                  rw [zeL, if_pos (by omega)]; refine ⟨?_, ho.2⟩; rw [ho.1]; congr 5; unfold ze2 ze1; (repeat' split) <;> first | rfl | (exfalso; omega)
        · first | refine V.aload_nR (pc := 25) d_R_earliest_25 rfl ?_ | refine V.aload_n (pc := 25) d_R_earliest_25 rfl ?_
          refine Vr.get (pc := 26) d_R_earliest_26 g_R_100 hR rfl ?_
          refine V.iload_n (pc := 29) d_R_earliest_29 rfl ?_
          refine Vr.ald (pc := 30) (n := 24) d_R_earliest_30 hR (by decide) rfl (by first | omega | (simp [up] <;> omega)) ?_
          refine V.iload_n (pc := 31) d_R_earliest_31 rfl ?_
          refine Vi.icmp_ge (pc := 32) (tgt := 42) d_R_earliest_32 (by decide) (by first | omega | (simp [up] <;> omega)) (by first | omega | (simp [up] <;> omega)) (fun c_32 => ?_) (fun c_32 => ?_)
          · first | refine V.aload_nR (pc := 42) d_R_earliest_42 rfl ?_ | refine V.aload_n (pc := 42) d_R_earliest_42 rfl ?_
            refine Vr.get (pc := 43) d_R_earliest_43 g_R_106 hR rfl ?_
            refine V.iload_n (pc := 46) d_R_earliest_46 rfl ?_
            refine Vr.ald (pc := 47) (n := 24) d_R_earliest_47 hR (by decide) rfl (by first | omega | (simp [up] <;> omega)) ?_
            refine Vi.if_lt (pc := 48) (tgt := 81) d_R_earliest_48 (by decide) (by first | omega | (simp [up] <;> omega)) (fun c_48 => ?_) (fun c_48 => ?_)
            · refine Vi.iinc (pc := 81) d_R_earliest_81 rfl (by decide) ?_
              refine V.goto (pc := 84) (tgt := 4) d_R_earliest_84 (by decide) ?_
              refine V.post (V.lop (ih ((k + 1)) (t) (by omega) (by omega) (by omega) (by omega)) ⟨rfl, rfl, rfl, trivial⟩) (fun r hs' ho => ?_)
              rw [zeL, if_pos (by omega)]; refine ⟨?_, ho.2⟩; rw [ho.1]; congr 5; unfold ze2 ze1; (repeat' split) <;> first | rfl | (exfalso; omega)
            · first | refine V.aload_nR (pc := 51) d_R_earliest_51 rfl ?_ | refine V.aload_n (pc := 51) d_R_earliest_51 rfl ?_
              refine Vr.get (pc := 52) d_R_earliest_52 g_R_88 hR rfl ?_
              refine V.iload_n (pc := 55) d_R_earliest_55 rfl ?_
              refine Vr.zald (pc := 56) (n := 24) d_R_earliest_56 hR (by decide) rfl (by first | omega | (simp [up] <;> omega)) ?_
              refine Vi.if_ne (pc := 57) (tgt := 81) d_R_earliest_57 (by decide) (by first | omega | (simp [up] <;> omega)) (fun c_57 => ?_) (fun c_57 => ?_)
              · refine Vi.iinc (pc := 81) d_R_earliest_81 rfl (by decide) ?_
                refine V.goto (pc := 84) (tgt := 4) d_R_earliest_84 (by decide) ?_
                refine V.post (V.lop (ih ((k + 1)) (t) (by omega) (by omega) (by omega) (by omega)) ⟨rfl, rfl, rfl, trivial⟩) (fun r hs' ho => ?_)
                rw [zeL, if_pos (by omega)]; refine ⟨?_, ho.2⟩; rw [ho.1]; congr 5; unfold ze2 ze1; (repeat' split) <;> first | rfl | (exfalso; omega)
              · refine V.iload_n (pc := 60) d_R_earliest_60 rfl ?_
                refine Vi.if_lt (pc := 61) (tgt := 74) d_R_earliest_61 (by decide) (by first | omega | (simp [up] <;> omega)) (fun c_61 => ?_) (fun c_61 => ?_)
                · first | refine V.aload_nR (pc := 74) d_R_earliest_74 rfl ?_ | refine V.aload_n (pc := 74) d_R_earliest_74 rfl ?_
                  refine Vr.get (pc := 75) d_R_earliest_75 g_R_106 hR rfl ?_
                  refine V.iload_n (pc := 78) d_R_earliest_78 rfl ?_
                  refine Vr.ald (pc := 79) (n := 24) d_R_earliest_79 hR (by decide) rfl (by first | omega | (simp [up] <;> omega)) ?_
                  refine V.istore_n (pc := 80) d_R_earliest_80 (by decide) ?_
                  refine Vi.iinc (pc := 81) d_R_earliest_81 rfl (by decide) ?_
                  refine V.goto (pc := 84) (tgt := 4) d_R_earliest_84 (by decide) ?_
                  refine V.post (V.lop (ih ((k + 1)) ((S 31 k)) (by omega) (by omega) (by omega) (by omega)) ⟨rfl, rfl, rfl, trivial⟩) (fun r hs' ho => ?_)
                  rw [zeL, if_pos (by omega)]; refine ⟨?_, ho.2⟩; rw [ho.1]; congr 5; unfold ze2 ze1; (repeat' split) <;> first | rfl | (exfalso; omega)
                · first | refine V.aload_nR (pc := 64) d_R_earliest_64 rfl ?_ | refine V.aload_n (pc := 64) d_R_earliest_64 rfl ?_
                  refine Vr.get (pc := 65) d_R_earliest_65 g_R_106 hR rfl ?_
                  refine V.iload_n (pc := 68) d_R_earliest_68 rfl ?_
                  refine Vr.ald (pc := 69) (n := 24) d_R_earliest_69 hR (by decide) rfl (by first | omega | (simp [up] <;> omega)) ?_
                  refine V.iload_n (pc := 70) d_R_earliest_70 rfl ?_
                  refine Vi.icmp_ge (pc := 71) (tgt := 81) d_R_earliest_71 (by decide) (by first | omega | (simp [up] <;> omega)) (by first | omega | (simp [up] <;> omega)) (fun c_71 => ?_) (fun c_71 => ?_)
                  · refine Vi.iinc (pc := 81) d_R_earliest_81 rfl (by decide) ?_
                    refine V.goto (pc := 84) (tgt := 4) d_R_earliest_84 (by decide) ?_
                    refine V.post (V.lop (ih ((k + 1)) (t) (by omega) (by omega) (by omega) (by omega)) ⟨rfl, rfl, rfl, trivial⟩) (fun r hs' ho => ?_)
                    rw [zeL, if_pos (by omega)]; refine ⟨?_, ho.2⟩; rw [ho.1]; congr 5; unfold ze2 ze1; (repeat' split) <;> first | rfl | (exfalso; omega)
                  · first | refine V.aload_nR (pc := 74) d_R_earliest_74 rfl ?_ | refine V.aload_n (pc := 74) d_R_earliest_74 rfl ?_
                    refine Vr.get (pc := 75) d_R_earliest_75 g_R_106 hR rfl ?_
                    refine V.iload_n (pc := 78) d_R_earliest_78 rfl ?_
                    refine Vr.ald (pc := 79) (n := 24) d_R_earliest_79 hR (by decide) rfl (by first | omega | (simp [up] <;> omega)) ?_
                    refine V.istore_n (pc := 80) d_R_earliest_80 (by decide) ?_
                    refine Vi.iinc (pc := 81) d_R_earliest_81 rfl (by decide) ?_
                    refine V.goto (pc := 84) (tgt := 4) d_R_earliest_84 (by decide) ?_
                    refine V.post (V.lop (ih ((k + 1)) ((S 31 k)) (by omega) (by omega) (by omega) (by omega)) ⟨rfl, rfl, rfl, trivial⟩) (fun r hs' ho => ?_)
                    rw [zeL, if_pos (by omega)]; refine ⟨?_, ho.2⟩; rw [ho.1]; congr 5; unfold ze2 ze1; (repeat' split) <;> first | rfl | (exfalso; omega)
          · first | refine V.aload_nR (pc := 35) d_R_earliest_35 rfl ?_ | refine V.aload_n (pc := 35) d_R_earliest_35 rfl ?_
            refine Vr.get (pc := 36) d_R_earliest_36 g_R_100 hR rfl ?_
            refine V.iload_n (pc := 39) d_R_earliest_39 rfl ?_
            refine Vr.ald (pc := 40) (n := 24) d_R_earliest_40 hR (by decide) rfl (by first | omega | (simp [up] <;> omega)) ?_
            refine V.istore_n (pc := 41) d_R_earliest_41 (by decide) ?_
            first | refine V.aload_nR (pc := 42) d_R_earliest_42 rfl ?_ | refine V.aload_n (pc := 42) d_R_earliest_42 rfl ?_
            refine Vr.get (pc := 43) d_R_earliest_43 g_R_106 hR rfl ?_
            refine V.iload_n (pc := 46) d_R_earliest_46 rfl ?_
            refine Vr.ald (pc := 47) (n := 24) d_R_earliest_47 hR (by decide) rfl (by first | omega | (simp [up] <;> omega)) ?_
            refine Vi.if_lt (pc := 48) (tgt := 81) d_R_earliest_48 (by decide) (by first | omega | (simp [up] <;> omega)) (fun c_48 => ?_) (fun c_48 => ?_)
            · refine Vi.iinc (pc := 81) d_R_earliest_81 rfl (by decide) ?_
              refine V.goto (pc := 84) (tgt := 4) d_R_earliest_84 (by decide) ?_
              refine V.post (V.lop (ih ((k + 1)) ((S 29 k)) (by omega) (by omega) (by omega) (by omega)) ⟨rfl, rfl, rfl, trivial⟩) (fun r hs' ho => ?_)
              rw [zeL, if_pos (by omega)]; refine ⟨?_, ho.2⟩; rw [ho.1]; congr 5; unfold ze2 ze1; (repeat' split) <;> first | rfl | (exfalso; omega)
            · first | refine V.aload_nR (pc := 51) d_R_earliest_51 rfl ?_ | refine V.aload_n (pc := 51) d_R_earliest_51 rfl ?_
              refine Vr.get (pc := 52) d_R_earliest_52 g_R_88 hR rfl ?_
              refine V.iload_n (pc := 55) d_R_earliest_55 rfl ?_
              refine Vr.zald (pc := 56) (n := 24) d_R_earliest_56 hR (by decide) rfl (by first | omega | (simp [up] <;> omega)) ?_
              refine Vi.if_ne (pc := 57) (tgt := 81) d_R_earliest_57 (by decide) (by first | omega | (simp [up] <;> omega)) (fun c_57 => ?_) (fun c_57 => ?_)
              · refine Vi.iinc (pc := 81) d_R_earliest_81 rfl (by decide) ?_
                refine V.goto (pc := 84) (tgt := 4) d_R_earliest_84 (by decide) ?_
                refine V.post (V.lop (ih ((k + 1)) ((S 29 k)) (by omega) (by omega) (by omega) (by omega)) ⟨rfl, rfl, rfl, trivial⟩) (fun r hs' ho => ?_)
                rw [zeL, if_pos (by omega)]; refine ⟨?_, ho.2⟩; rw [ho.1]; congr 5; unfold ze2 ze1; (repeat' split) <;> first | rfl | (exfalso; omega)
              · refine V.iload_n (pc := 60) d_R_earliest_60 rfl ?_
                refine Vi.if_lt (pc := 61) (tgt := 74) d_R_earliest_61 (by decide) (by first | omega | (simp [up] <;> omega)) (fun c_61 => ?_) (fun c_61 => ?_)
                · first | refine V.aload_nR (pc := 74) d_R_earliest_74 rfl ?_ | refine V.aload_n (pc := 74) d_R_earliest_74 rfl ?_
                  refine Vr.get (pc := 75) d_R_earliest_75 g_R_106 hR rfl ?_
                  refine V.iload_n (pc := 78) d_R_earliest_78 rfl ?_
                  refine Vr.ald (pc := 79) (n := 24) d_R_earliest_79 hR (by decide) rfl (by first | omega | (simp [up] <;> omega)) ?_
                  refine V.istore_n (pc := 80) d_R_earliest_80 (by decide) ?_
                  refine Vi.iinc (pc := 81) d_R_earliest_81 rfl (by decide) ?_
                  refine V.goto (pc := 84) (tgt := 4) d_R_earliest_84 (by decide) ?_
                  refine V.post (V.lop (ih ((k + 1)) ((S 31 k)) (by omega) (by omega) (by omega) (by omega)) ⟨rfl, rfl, rfl, trivial⟩) (fun r hs' ho => ?_)
                  rw [zeL, if_pos (by omega)]; refine ⟨?_, ho.2⟩; rw [ho.1]; congr 5; unfold ze2 ze1; (repeat' split) <;> first | rfl | (exfalso; omega)
                · first | refine V.aload_nR (pc := 64) d_R_earliest_64 rfl ?_ | refine V.aload_n (pc := 64) d_R_earliest_64 rfl ?_
                  refine Vr.get (pc := 65) d_R_earliest_65 g_R_106 hR rfl ?_
                  refine V.iload_n (pc := 68) d_R_earliest_68 rfl ?_
                  refine Vr.ald (pc := 69) (n := 24) d_R_earliest_69 hR (by decide) rfl (by first | omega | (simp [up] <;> omega)) ?_
                  refine V.iload_n (pc := 70) d_R_earliest_70 rfl ?_
                  refine Vi.icmp_ge (pc := 71) (tgt := 81) d_R_earliest_71 (by decide) (by first | omega | (simp [up] <;> omega)) (by first | omega | (simp [up] <;> omega)) (fun c_71 => ?_) (fun c_71 => ?_)
                  · refine Vi.iinc (pc := 81) d_R_earliest_81 rfl (by decide) ?_
                    refine V.goto (pc := 84) (tgt := 4) d_R_earliest_84 (by decide) ?_
                    refine V.post (V.lop (ih ((k + 1)) ((S 29 k)) (by omega) (by omega) (by omega) (by omega)) ⟨rfl, rfl, rfl, trivial⟩) (fun r hs' ho => ?_)
                    rw [zeL, if_pos (by omega)]; refine ⟨?_, ho.2⟩; rw [ho.1]; congr 5; unfold ze2 ze1; (repeat' split) <;> first | rfl | (exfalso; omega)
                  · first | refine V.aload_nR (pc := 74) d_R_earliest_74 rfl ?_ | refine V.aload_n (pc := 74) d_R_earliest_74 rfl ?_
                    refine Vr.get (pc := 75) d_R_earliest_75 g_R_106 hR rfl ?_
                    refine V.iload_n (pc := 78) d_R_earliest_78 rfl ?_
                    refine Vr.ald (pc := 79) (n := 24) d_R_earliest_79 hR (by decide) rfl (by first | omega | (simp [up] <;> omega)) ?_
                    refine V.istore_n (pc := 80) d_R_earliest_80 (by decide) ?_
                    refine Vi.iinc (pc := 81) d_R_earliest_81 rfl (by decide) ?_
                    refine V.goto (pc := 84) (tgt := 4) d_R_earliest_84 (by decide) ?_
                    refine V.post (V.lop (ih ((k + 1)) ((S 31 k)) (by omega) (by omega) (by omega) (by omega)) ⟨rfl, rfl, rfl, trivial⟩) (fun r hs' ho => ?_)
                    rw [zeL, if_pos (by omega)]; refine ⟨?_, ho.2⟩; rw [ho.1]; congr 5; unfold ze2 ze1; (repeat' split) <;> first | rfl | (exfalso; omega)
theorem r_earliest (hR : RepR w mo ra S g b hs) (hJ : 0 ≤ S 1 0 ∧ S 1 0 ≤ 24) (hp : ∀ i, 0 ≤ i → i < S 1 0 → jr (S 25 i) ∧ jr (S 29 i) ∧ jr (S 31 i)) : V jcl w m_R_earliest d 0 [(0, .ref mo)] [] hs (fun r hs' => r = .inl (some (.int (ii (z_earliest S)))) ∧ hs' = hs) := by
  refine Vi.iconst (pc := 0) d_R_earliest_0 ?_
  refine V.istore_n (pc := 1) d_R_earliest_1 (by decide) ?_
  refine Vi.iconst (pc := 2) d_R_earliest_2 ?_
  refine V.istore_n (pc := 3) d_R_earliest_3 (by decide) ?_
  exact V.loc (L' := [(0, .ref mo), (1, .int (ii (-1))), (2, .int (ii 0))]) ⟨rfl, rfl, rfl, trivial⟩ (r_el hR hJ hp 24 0 (-1) (by omega) (by omega) (by omega) (by decide))
def z_wake (S : js) (v j : Int) : js := if S 26 v = 5 then z_putReady S v (-1) else if S 19 j < 0 then z_putReady (up S 18 v (S 18 v + S 18 j)) v (S 19 j) else z_putReady S v (S 19 j)
theorem r_wake {v j : Int} (hR : RepR w mo ra S g b hs) (hv : 0 ≤ v ∧ v < 24) (hj : 0 ≤ j ∧ j < 24) (hq : 0 ≤ S 7 0 ∧ S 7 0 < 24) (h1 : jr (S 26 v)) (h2 : jr (S 19 j)) : V jcl w m_R_wake (d + 1) 0 [(0, .ref mo), (1, .int (ii v)), (2, .int (ii j))] [] hs (fun r hs' => r = .inl none ∧ RepR w mo ra (z_wake S v j) g b hs') := by
  first | refine V.aload_nR (pc := 0) d_R_wake_0 rfl ?_ | refine V.aload_n (pc := 0) d_R_wake_0 rfl ?_
  refine Vr.get (pc := 1) d_R_wake_1 g_R_91 hR rfl ?_
  refine V.iload_n (pc := 4) d_R_wake_4 rfl ?_
  refine Vr.ald (pc := 5) (n := 24) d_R_wake_5 hR (by decide) rfl (by first | omega | (simp [up] <;> omega)) ?_
  refine Vi.iconst (pc := 6) d_R_wake_6 ?_
  refine Vi.icmp_ne (pc := 7) (tgt := 19) d_R_wake_7 (by decide) (by first | omega | (simp [up] <;> omega)) (by first | omega | (simp [up] <;> omega)) (fun c_7 => ?_) (fun c_7 => ?_)
  · first | refine V.aload_nR (pc := 19) d_R_wake_19 rfl ?_ | refine V.aload_n (pc := 19) d_R_wake_19 rfl ?_
    refine Vr.get (pc := 20) d_R_wake_20 g_R_69 hR rfl ?_
    refine V.iload_n (pc := 23) d_R_wake_23 rfl ?_
    refine Vr.ald (pc := 24) (n := 24) d_R_wake_24 hR (by decide) rfl (by first | omega | (simp [up] <;> omega)) ?_
    refine Vi.if_ge (pc := 25) (tgt := 43) d_R_wake_25 (by decide) (by first | omega | (simp [up] <;> omega)) (fun c_25 => ?_) (fun c_25 => ?_)
    · first | refine V.aload_nR (pc := 43) d_R_wake_43 rfl ?_ | refine V.aload_n (pc := 43) d_R_wake_43 rfl ?_
      refine V.iload_n (pc := 44) d_R_wake_44 rfl ?_
      first | refine V.aload_nR (pc := 45) d_R_wake_45 rfl ?_ | refine V.aload_n (pc := 45) d_R_wake_45 rfl ?_
      refine Vr.get (pc := 46) d_R_wake_46 g_R_69 hR rfl ?_
      refine V.iload_n (pc := 49) d_R_wake_49 rfl ?_
      refine Vr.ald (pc := 50) (n := 24) d_R_wake_50 hR (by decide) rfl (by first | omega | (simp [up] <;> omega)) ?_
      refine V.callV (pc := 51) d_R_wake_51 Y_R_putReady l_R_154 wi_R_putReady wv_R_putReady (ci := 6) rfl rfl [_, _] hR.o rfl rfl ⟨by repeat (first | exact trivial | refine ⟨(by first | rfl | exact vrf_cat _), ?_⟩), Nat.le_of_ble_eq_true rfl⟩ ⟨⟨rfl, (by first | rfl | exact vrf_cat _), (by first | rfl | exact vrf_cat _), trivial⟩, Nat.le_of_ble_eq_true rfl⟩ (r_putReady hR (by omega) (by first | omega | (simp [up] <;> omega))) (fun v hs ho => ?_) (fun E hs ho => by simp at ho)
      obtain ⟨ho, hR⟩ := ho
      cases ho
      refine V.return_ (pc := 54) d_R_wake_54 rfl ?_
      unfold z_wake
      (repeat' split) <;> first | exact ⟨rfl, by simpa [up_f] using hR⟩ | (exfalso; omega)
    · first | refine V.aload_nR (pc := 28) d_R_wake_28 rfl ?_ | refine V.aload_n (pc := 28) d_R_wake_28 rfl ?_
      refine Vr.get (pc := 29) d_R_wake_29 g_R_66 hR rfl ?_
      refine V.iload_n (pc := 32) d_R_wake_32 rfl ?_
      refine V.dup2 (pc := 33) d_R_wake_33 (by first | rfl | exact vrf_cat _) (by first | rfl | exact vrf_cat _) ?_
      refine Vr.ald (pc := 34) (n := 24) d_R_wake_34 hR (by decide) rfl (by first | omega | (simp [up] <;> omega)) ?_
      first | refine V.aload_nR (pc := 35) d_R_wake_35 rfl ?_ | refine V.aload_n (pc := 35) d_R_wake_35 rfl ?_
      refine Vr.get (pc := 36) d_R_wake_36 g_R_66 hR rfl ?_
      refine V.iload_n (pc := 39) d_R_wake_39 rfl ?_
      refine Vr.ald (pc := 40) (n := 24) d_R_wake_40 hR (by decide) rfl (by first | omega | (simp [up] <;> omega)) ?_
      refine Vi.iadd (pc := 41) d_R_wake_41 ?_
      refine Vr.ast (pc := 42) (n := 24) d_R_wake_42 hR (by decide) rfl (by first | omega | (simp [up] <;> omega)) (fun hs hR => ?_)
      first | refine V.aload_nR (pc := 43) d_R_wake_43 rfl ?_ | refine V.aload_n (pc := 43) d_R_wake_43 rfl ?_
      refine V.iload_n (pc := 44) d_R_wake_44 rfl ?_
      first | refine V.aload_nR (pc := 45) d_R_wake_45 rfl ?_ | refine V.aload_n (pc := 45) d_R_wake_45 rfl ?_
      refine Vr.get (pc := 46) d_R_wake_46 g_R_69 hR rfl ?_
      refine V.iload_n (pc := 49) d_R_wake_49 rfl ?_
      refine Vr.ald (pc := 50) (n := 24) d_R_wake_50 hR (by decide) rfl (by first | omega | (simp [up] <;> omega)) ?_
      refine V.callV (pc := 51) d_R_wake_51 Y_R_putReady l_R_154 wi_R_putReady wv_R_putReady (ci := 6) rfl rfl [_, _] hR.o rfl rfl ⟨by repeat (first | exact trivial | refine ⟨(by first | rfl | exact vrf_cat _), ?_⟩), Nat.le_of_ble_eq_true rfl⟩ ⟨⟨rfl, (by first | rfl | exact vrf_cat _), (by first | rfl | exact vrf_cat _), trivial⟩, Nat.le_of_ble_eq_true rfl⟩ (r_putReady hR (by omega) (by first | omega | (simp [up] <;> omega))) (fun v hs ho => ?_) (fun E hs ho => by simp at ho)
      obtain ⟨ho, hR⟩ := ho
      cases ho
      refine V.return_ (pc := 54) d_R_wake_54 rfl ?_
      unfold z_wake
      (repeat' split) <;> first | exact ⟨rfl, by simpa [up_f] using hR⟩ | (exfalso; omega)
  · first | refine V.aload_nR (pc := 10) d_R_wake_10 rfl ?_ | refine V.aload_n (pc := 10) d_R_wake_10 rfl ?_
    refine V.iload_n (pc := 11) d_R_wake_11 rfl ?_
    refine Vi.iconst (pc := 12) d_R_wake_12 ?_
    refine V.callV (pc := 13) d_R_wake_13 Y_R_putReady l_R_154 wi_R_putReady wv_R_putReady (ci := 6) rfl rfl [_, _] hR.o rfl rfl ⟨by repeat (first | exact trivial | refine ⟨(by first | rfl | exact vrf_cat _), ?_⟩), Nat.le_of_ble_eq_true rfl⟩ ⟨⟨rfl, (by first | rfl | exact vrf_cat _), (by first | rfl | exact vrf_cat _), trivial⟩, Nat.le_of_ble_eq_true rfl⟩ (r_putReady hR (by omega) (by first | omega | (simp [up] <;> omega))) (fun v hs ho => ?_) (fun E hs ho => by simp at ho)
    obtain ⟨ho, hR⟩ := ho
    cases ho
    refine V.goto (pc := 16) (tgt := 54) d_R_wake_16 (by decide) ?_
    refine V.return_ (pc := 54) d_R_wake_54 rfl ?_
    unfold z_wake
    (repeat' split) <;> first | exact ⟨rfl, by simpa [up_f] using hR⟩ | (exfalso; omega)
end R4
