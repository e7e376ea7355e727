/-! the reference: act, begin, start -/
abbrev WR1 (x a : Int) : Prop := ((x = 1 ∨ x = 10) ∧ (a < 1 ∨ 50 < a)) ∨ (x = 7 ∧ (a < 1 ∨ 89 < a))
abbrev WR2 (x a : Int) : Prop := ((x = 4 ∨ x = 5) ∧ (a < 0 ∨ 2 < a)) ∨ (x = 6 ∧ (a < -1 ∨ 2 < a)) ∨ WR1 x a
abbrev WR3 (x a b : Int) : Prop := ((9 < x ∧ x < 13) ∧ (b < 0 ∨ 9 < b)) ∨ (x = 3 ∧ (b < 0 ∨ 2 < b)) ∨ WR2 x a
/-- a, b that an action x does not take -/
abbrev WR0 (x a b : Int) : Prop := ((x = 3 ∨ x = 8 ∨ x = 9 ∨ (10 < x ∧ x < 14)) ∧ (a < 0 ∨ 9 < a)) ∨ WR3 x a b
/-- the same, as one word -/
def WR (x a b : Int) : Prop := WR0 x a b
def WRb (x a b : Int) : Bool := decide (WR0 x a b)
theorem WRb_iff {x a b : Int} : WRb x a b = true ↔ WR x a b := by unfold WRb WR; exact decide_eq_true_iff
section R5
variable {w : jw} {d : Nat} {hs : jh} {mo : Nat} {ra : Nat → Nat} {S : js} {g : Nat → Option va_E} {b : Nat × Nat} {x a c : Int}
theorem r_wr1 (hR : RepR w mo ra S g b hs) (hx : jr x) (ha : jr a) : V jcl w m_R_wrong (d + 1) 120 [(0, .ref mo), (1, .int (ii x)), (2, .int (ii a)), (3, .int (ii c))] [] hs (fun o hs' => ∃ r : Int, o = .inl (some (.int (ii r))) ∧ (r = 1 ∧ WR1 x a ∨ r = 0 ∧ ¬ WR1 x a) ∧ hs' = hs) := by
  refine V.iload_n (pc := 120) d_R_wrong_120 rfl ?_
  refine Vi.iconst (pc := 121) d_R_wrong_121 ?_
  refine Vi.icmp_eq (pc := 122) (tgt := 131) d_R_wrong_122 (by decide) (by first | assumption | decide | omega | (simp [up] <;> omega)) (by first | assumption | decide | omega | (simp [up] <;> omega)) (fun c_122 => ?_) (fun c_122 => ?_)
  · first | refine V.aload_nR (pc := 131) d_R_wrong_131 rfl ?_ | refine V.aload_n (pc := 131) d_R_wrong_131 rfl ?_
    refine V.iload_n (pc := 132) d_R_wrong_132 rfl ?_
    refine Vi.iconst (pc := 133) d_R_wrong_133 ?_
    refine Vi.bipush (pc := 134) d_R_wrong_134 (by decide) ?_
    refine V.callV (pc := 136) d_R_wrong_136 Y_R_out l_R_136 wi_R_out wv_R_out (ci := 6) rfl rfl [_, _, _] hR.o rfl rfl ⟨by repeat (first | exact trivial | refine ⟨(by first | rfl | exact vrf_cat _), ?_⟩), Nat.le_of_ble_eq_true rfl⟩ ⟨⟨rfl, (by first | rfl | exact vrf_cat _), (by first | rfl | exact vrf_cat _), (by first | rfl | exact vrf_cat _), trivial⟩, Nat.le_of_ble_eq_true rfl⟩ (r_out (by assumption) (by decide) (by decide)) (fun v hs ho => ?_) (fun E hs ho => by simp at ho)
    obtain ⟨r_136, ho, hr_136, rfl⟩ := ho
    cases ho
    refine Vi.if_ne (pc := 139) (tgt := 159) d_R_wrong_139 (by decide) (by first | assumption | decide | omega | (simp [up] <;> omega)) (fun c_139 => ?_) (fun c_139 => ?_)
    · refine Vi.iconst (pc := 159) d_R_wrong_159 ?_
      refine V.goto (pc := 160) (tgt := 164) d_R_wrong_160 (by decide) ?_
      refine Vi.zreturn (pc := 164) d_R_wrong_164 rfl (by omega) ?_
      exact ⟨_, rfl, by omega, rfl⟩
    · refine V.iload_n (pc := 142) d_R_wrong_142 rfl ?_
      refine Vi.bipush (pc := 143) d_R_wrong_143 (by decide) ?_
      refine Vi.icmp_ne (pc := 145) (tgt := 163) d_R_wrong_145 (by decide) (by first | assumption | decide | omega | (simp [up] <;> omega)) (by first | assumption | decide | omega | (simp [up] <;> omega)) (fun c_145 => ?_) (fun c_145 => ?_)
      · refine Vi.iconst (pc := 163) d_R_wrong_163 ?_
        refine Vi.zreturn (pc := 164) d_R_wrong_164 rfl (by omega) ?_
        exact ⟨_, rfl, by omega, rfl⟩
      · first | refine V.aload_nR (pc := 148) d_R_wrong_148 rfl ?_ | refine V.aload_n (pc := 148) d_R_wrong_148 rfl ?_
        refine V.iload_n (pc := 149) d_R_wrong_149 rfl ?_
        refine Vi.iconst (pc := 150) d_R_wrong_150 ?_
        refine Vi.bipush (pc := 151) d_R_wrong_151 (by decide) ?_
        refine V.callV (pc := 153) d_R_wrong_153 Y_R_out l_R_136 wi_R_out wv_R_out (ci := 6) rfl rfl [_, _, _] hR.o rfl rfl ⟨by repeat (first | exact trivial | refine ⟨(by first | rfl | exact vrf_cat _), ?_⟩), Nat.le_of_ble_eq_true rfl⟩ ⟨⟨rfl, (by first | rfl | exact vrf_cat _), (by first | rfl | exact vrf_cat _), (by first | rfl | exact vrf_cat _), trivial⟩, Nat.le_of_ble_eq_true rfl⟩ (r_out (by assumption) (by decide) (by decide)) (fun v hs ho => ?_) (fun E hs ho => by simp at ho)
        obtain ⟨r_153, ho, hr_153, rfl⟩ := ho
        cases ho
        refine Vi.if_eq (pc := 156) (tgt := 163) d_R_wrong_156 (by decide) (by first | assumption | decide | omega | (simp [up] <;> omega)) (fun c_156 => ?_) (fun c_156 => ?_)
        · refine Vi.iconst (pc := 163) d_R_wrong_163 ?_
          refine Vi.zreturn (pc := 164) d_R_wrong_164 rfl (by omega) ?_
          exact ⟨_, rfl, by omega, rfl⟩
        · refine Vi.iconst (pc := 159) d_R_wrong_159 ?_
          refine V.goto (pc := 160) (tgt := 164) d_R_wrong_160 (by decide) ?_
          refine Vi.zreturn (pc := 164) d_R_wrong_164 rfl (by omega) ?_
          exact ⟨_, rfl, by omega, rfl⟩
  · refine V.iload_n (pc := 125) d_R_wrong_125 rfl ?_
    refine Vi.bipush (pc := 126) d_R_wrong_126 (by decide) ?_
    refine Vi.icmp_ne (pc := 128) (tgt := 142) d_R_wrong_128 (by decide) (by first | assumption | decide | omega | (simp [up] <;> omega)) (by first | assumption | decide | omega | (simp [up] <;> omega)) (fun c_128 => ?_) (fun c_128 => ?_)
    · refine V.iload_n (pc := 142) d_R_wrong_142 rfl ?_
      refine Vi.bipush (pc := 143) d_R_wrong_143 (by decide) ?_
      refine Vi.icmp_ne (pc := 145) (tgt := 163) d_R_wrong_145 (by decide) (by first | assumption | decide | omega | (simp [up] <;> omega)) (by first | assumption | decide | omega | (simp [up] <;> omega)) (fun c_145 => ?_) (fun c_145 => ?_)
      · refine Vi.iconst (pc := 163) d_R_wrong_163 ?_
        refine Vi.zreturn (pc := 164) d_R_wrong_164 rfl (by omega) ?_
        exact ⟨_, rfl, by omega, rfl⟩
      · first | refine V.aload_nR (pc := 148) d_R_wrong_148 rfl ?_ | refine V.aload_n (pc := 148) d_R_wrong_148 rfl ?_
        refine V.iload_n (pc := 149) d_R_wrong_149 rfl ?_
        refine Vi.iconst (pc := 150) d_R_wrong_150 ?_
        refine Vi.bipush (pc := 151) d_R_wrong_151 (by decide) ?_
        refine V.callV (pc := 153) d_R_wrong_153 Y_R_out l_R_136 wi_R_out wv_R_out (ci := 6) rfl rfl [_, _, _] hR.o rfl rfl ⟨by repeat (first | exact trivial | refine ⟨(by first | rfl | exact vrf_cat _), ?_⟩), Nat.le_of_ble_eq_true rfl⟩ ⟨⟨rfl, (by first | rfl | exact vrf_cat _), (by first | rfl | exact vrf_cat _), (by first | rfl | exact vrf_cat _), trivial⟩, Nat.le_of_ble_eq_true rfl⟩ (r_out (by assumption) (by decide) (by decide)) (fun v hs ho => ?_) (fun E hs ho => by simp at ho)
        obtain ⟨r_153, ho, hr_153, rfl⟩ := ho
        cases ho
        refine Vi.if_eq (pc := 156) (tgt := 163) d_R_wrong_156 (by decide) (by first | assumption | decide | omega | (simp [up] <;> omega)) (fun c_156 => ?_) (fun c_156 => ?_)
        · refine Vi.iconst (pc := 163) d_R_wrong_163 ?_
          refine Vi.zreturn (pc := 164) d_R_wrong_164 rfl (by omega) ?_
          exact ⟨_, rfl, by omega, rfl⟩
        · refine Vi.iconst (pc := 159) d_R_wrong_159 ?_
          refine V.goto (pc := 160) (tgt := 164) d_R_wrong_160 (by decide) ?_
          refine Vi.zreturn (pc := 164) d_R_wrong_164 rfl (by omega) ?_
          exact ⟨_, rfl, by omega, rfl⟩
    · first | refine V.aload_nR (pc := 131) d_R_wrong_131 rfl ?_ | refine V.aload_n (pc := 131) d_R_wrong_131 rfl ?_
      refine V.iload_n (pc := 132) d_R_wrong_132 rfl ?_
      refine Vi.iconst (pc := 133) d_R_wrong_133 ?_
      refine Vi.bipush (pc := 134) d_R_wrong_134 (by decide) ?_
      refine V.callV (pc := 136) d_R_wrong_136 Y_R_out l_R_136 wi_R_out wv_R_out (ci := 6) rfl rfl [_, _, _] hR.o rfl rfl ⟨by repeat (first | exact trivial | refine ⟨(by first | rfl | exact vrf_cat _), ?_⟩), Nat.le_of_ble_eq_true rfl⟩ ⟨⟨rfl, (by first | rfl | exact vrf_cat _), (by first | rfl | exact vrf_cat _), (by first | rfl | exact vrf_cat _), trivial⟩, Nat.le_of_ble_eq_true rfl⟩ (r_out (by assumption) (by decide) (by decide)) (fun v hs ho => ?_) (fun E hs ho => by simp at ho)
      obtain ⟨r_136, ho, hr_136, rfl⟩ := ho
      cases ho
      refine Vi.if_ne (pc := 139) (tgt := 159) d_R_wrong_139 (by decide) (by first | assumption | decide | omega | (simp [up] <;> omega)) (fun c_139 => ?_) (fun c_139 => ?_)
      · refine Vi.iconst (pc := 159) d_R_wrong_159 ?_
        refine V.goto (pc := 160) (tgt := 164) d_R_wrong_160 (by decide) ?_
        refine Vi.zreturn (pc := 164) d_R_wrong_164 rfl (by omega) ?_
        exact ⟨_, rfl, by omega, rfl⟩
      · refine V.iload_n (pc := 142) d_R_wrong_142 rfl ?_
        refine Vi.bipush (pc := 143) d_R_wrong_143 (by decide) ?_
        refine Vi.icmp_ne (pc := 145) (tgt := 163) d_R_wrong_145 (by decide) (by first | assumption | decide | omega | (simp [up] <;> omega)) (by first | assumption | decide | omega | (simp [up] <;> omega)) (fun c_145 => ?_) (fun c_145 => ?_)
        · refine Vi.iconst (pc := 163) d_R_wrong_163 ?_
          refine Vi.zreturn (pc := 164) d_R_wrong_164 rfl (by omega) ?_
          exact ⟨_, rfl, by omega, rfl⟩
        · first | refine V.aload_nR (pc := 148) d_R_wrong_148 rfl ?_ | refine V.aload_n (pc := 148) d_R_wrong_148 rfl ?_
          refine V.iload_n (pc := 149) d_R_wrong_149 rfl ?_
          refine Vi.iconst (pc := 150) d_R_wrong_150 ?_
          refine Vi.bipush (pc := 151) d_R_wrong_151 (by decide) ?_
          refine V.callV (pc := 153) d_R_wrong_153 Y_R_out l_R_136 wi_R_out wv_R_out (ci := 6) rfl rfl [_, _, _] hR.o rfl rfl ⟨by repeat (first | exact trivial | refine ⟨(by first | rfl | exact vrf_cat _), ?_⟩), Nat.le_of_ble_eq_true rfl⟩ ⟨⟨rfl, (by first | rfl | exact vrf_cat _), (by first | rfl | exact vrf_cat _), (by first | rfl | exact vrf_cat _), trivial⟩, Nat.le_of_ble_eq_true rfl⟩ (r_out (by assumption) (by decide) (by decide)) (fun v hs ho => ?_) (fun E hs ho => by simp at ho)
          obtain ⟨r_153, ho, hr_153, rfl⟩ := ho
          cases ho
          refine Vi.if_eq (pc := 156) (tgt := 163) d_R_wrong_156 (by decide) (by first | assumption | decide | omega | (simp [up] <;> omega)) (fun c_156 => ?_) (fun c_156 => ?_)
          · refine Vi.iconst (pc := 163) d_R_wrong_163 ?_
            refine Vi.zreturn (pc := 164) d_R_wrong_164 rfl (by omega) ?_
            exact ⟨_, rfl, by omega, rfl⟩
          · refine Vi.iconst (pc := 159) d_R_wrong_159 ?_
            refine V.goto (pc := 160) (tgt := 164) d_R_wrong_160 (by decide) ?_
            refine Vi.zreturn (pc := 164) d_R_wrong_164 rfl (by omega) ?_
            exact ⟨_, rfl, by omega, rfl⟩
theorem r_wr2 (hR : RepR w mo ra S g b hs) (hx : jr x) (ha : jr a) : V jcl w m_R_wrong (d + 1) 82 [(0, .ref mo), (1, .int (ii x)), (2, .int (ii a)), (3, .int (ii c))] [] hs (fun o hs' => ∃ r : Int, o = .inl (some (.int (ii r))) ∧ (r = 1 ∧ WR2 x a ∨ r = 0 ∧ ¬ WR2 x a) ∧ hs' = hs) := by
  refine V.iload_n (pc := 82) d_R_wrong_82 rfl ?_
  refine Vi.iconst (pc := 83) d_R_wrong_83 ?_
  refine Vi.icmp_eq (pc := 84) (tgt := 98) d_R_wrong_84 (by decide) (by first | assumption | decide | omega | (simp [up] <;> omega)) (by first | assumption | decide | omega | (simp [up] <;> omega)) (fun c_84 => ?_) (fun c_84 => ?_)
  · first | refine V.aload_nR (pc := 98) d_R_wrong_98 rfl ?_ | refine V.aload_n (pc := 98) d_R_wrong_98 rfl ?_
    refine V.iload_n (pc := 99) d_R_wrong_99 rfl ?_
    refine V.iload_n (pc := 100) d_R_wrong_100 rfl ?_
    refine Vi.bipush (pc := 101) d_R_wrong_101 (by decide) ?_
    refine Vi.icmp_ne (pc := 103) (tgt := 110) d_R_wrong_103 (by decide) (by first | assumption | decide | omega | (simp [up] <;> omega)) (by first | assumption | decide | omega | (simp [up] <;> omega)) (fun c_103 => ?_) (fun c_103 => ?_)
    · refine Vi.iconst (pc := 110) d_R_wrong_110 ?_
      refine Vi.iconst (pc := 111) d_R_wrong_111 ?_
      refine V.callV (pc := 112) d_R_wrong_112 Y_R_out l_R_136 wi_R_out wv_R_out (ci := 6) rfl rfl [_, _, _] hR.o rfl rfl ⟨by repeat (first | exact trivial | refine ⟨(by first | rfl | exact vrf_cat _), ?_⟩), Nat.le_of_ble_eq_true rfl⟩ ⟨⟨rfl, (by first | rfl | exact vrf_cat _), (by first | rfl | exact vrf_cat _), (by first | rfl | exact vrf_cat _), trivial⟩, Nat.le_of_ble_eq_true rfl⟩ (r_out (by assumption) (by decide) (by decide)) (fun v hs ho => ?_) (fun E hs ho => by simp at ho)
      obtain ⟨r_112, ho, hr_112, rfl⟩ := ho
      cases ho
      refine Vi.if_eq (pc := 115) (tgt := 120) d_R_wrong_115 (by decide) (by first | assumption | decide | omega | (simp [up] <;> omega)) (fun c_115 => ?_) (fun c_115 => ?_)
      · exact (r_wr1 hR hx ha).post fun o hs' ⟨r, h1, h2, h3⟩ => ⟨r, h1, by omega, h3⟩
      · refine Vi.iconst (pc := 118) d_R_wrong_118 ?_
        refine Vi.zreturn (pc := 119) d_R_wrong_119 rfl (by omega) ?_
        exact ⟨_, rfl, by omega, rfl⟩
    · refine Vi.iconst (pc := 106) d_R_wrong_106 ?_
      refine V.goto (pc := 107) (tgt := 111) d_R_wrong_107 (by decide) ?_
      refine Vi.iconst (pc := 111) d_R_wrong_111 ?_
      refine V.callV (pc := 112) d_R_wrong_112 Y_R_out l_R_136 wi_R_out wv_R_out (ci := 6) rfl rfl [_, _, _] hR.o rfl rfl ⟨by repeat (first | exact trivial | refine ⟨(by first | rfl | exact vrf_cat _), ?_⟩), Nat.le_of_ble_eq_true rfl⟩ ⟨⟨rfl, (by first | rfl | exact vrf_cat _), (by first | rfl | exact vrf_cat _), (by first | rfl | exact vrf_cat _), trivial⟩, Nat.le_of_ble_eq_true rfl⟩ (r_out (by assumption) (by decide) (by decide)) (fun v hs ho => ?_) (fun E hs ho => by simp at ho)
      obtain ⟨r_112, ho, hr_112, rfl⟩ := ho
      cases ho
      refine Vi.if_eq (pc := 115) (tgt := 120) d_R_wrong_115 (by decide) (by first | assumption | decide | omega | (simp [up] <;> omega)) (fun c_115 => ?_) (fun c_115 => ?_)
      · exact (r_wr1 hR hx ha).post fun o hs' ⟨r, h1, h2, h3⟩ => ⟨r, h1, by omega, h3⟩
      · refine Vi.iconst (pc := 118) d_R_wrong_118 ?_
        refine Vi.zreturn (pc := 119) d_R_wrong_119 rfl (by omega) ?_
        exact ⟨_, rfl, by omega, rfl⟩
  · refine V.iload_n (pc := 87) d_R_wrong_87 rfl ?_
    refine Vi.iconst (pc := 88) d_R_wrong_88 ?_
    refine Vi.icmp_eq (pc := 89) (tgt := 98) d_R_wrong_89 (by decide) (by first | assumption | decide | omega | (simp [up] <;> omega)) (by first | assumption | decide | omega | (simp [up] <;> omega)) (fun c_89 => ?_) (fun c_89 => ?_)
    · first | refine V.aload_nR (pc := 98) d_R_wrong_98 rfl ?_ | refine V.aload_n (pc := 98) d_R_wrong_98 rfl ?_
      refine V.iload_n (pc := 99) d_R_wrong_99 rfl ?_
      refine V.iload_n (pc := 100) d_R_wrong_100 rfl ?_
      refine Vi.bipush (pc := 101) d_R_wrong_101 (by decide) ?_
      refine Vi.icmp_ne (pc := 103) (tgt := 110) d_R_wrong_103 (by decide) (by first | assumption | decide | omega | (simp [up] <;> omega)) (by first | assumption | decide | omega | (simp [up] <;> omega)) (fun c_103 => ?_) (fun c_103 => ?_)
      · refine Vi.iconst (pc := 110) d_R_wrong_110 ?_
        refine Vi.iconst (pc := 111) d_R_wrong_111 ?_
        refine V.callV (pc := 112) d_R_wrong_112 Y_R_out l_R_136 wi_R_out wv_R_out (ci := 6) rfl rfl [_, _, _] hR.o rfl rfl ⟨by repeat (first | exact trivial | refine ⟨(by first | rfl | exact vrf_cat _), ?_⟩), Nat.le_of_ble_eq_true rfl⟩ ⟨⟨rfl, (by first | rfl | exact vrf_cat _), (by first | rfl | exact vrf_cat _), (by first | rfl | exact vrf_cat _), trivial⟩, Nat.le_of_ble_eq_true rfl⟩ (r_out (by assumption) (by decide) (by decide)) (fun v hs ho => ?_) (fun E hs ho => by simp at ho)
        obtain ⟨r_112, ho, hr_112, rfl⟩ := ho
        cases ho
        refine Vi.if_eq (pc := 115) (tgt := 120) d_R_wrong_115 (by decide) (by first | assumption | decide | omega | (simp [up] <;> omega)) (fun c_115 => ?_) (fun c_115 => ?_)
        · exact (r_wr1 hR hx ha).post fun o hs' ⟨r, h1, h2, h3⟩ => ⟨r, h1, by omega, h3⟩
        · refine Vi.iconst (pc := 118) d_R_wrong_118 ?_
          refine Vi.zreturn (pc := 119) d_R_wrong_119 rfl (by omega) ?_
          exact ⟨_, rfl, by omega, rfl⟩
      · refine Vi.iconst (pc := 106) d_R_wrong_106 ?_
        refine V.goto (pc := 107) (tgt := 111) d_R_wrong_107 (by decide) ?_
        refine Vi.iconst (pc := 111) d_R_wrong_111 ?_
        refine V.callV (pc := 112) d_R_wrong_112 Y_R_out l_R_136 wi_R_out wv_R_out (ci := 6) rfl rfl [_, _, _] hR.o rfl rfl ⟨by repeat (first | exact trivial | refine ⟨(by first | rfl | exact vrf_cat _), ?_⟩), Nat.le_of_ble_eq_true rfl⟩ ⟨⟨rfl, (by first | rfl | exact vrf_cat _), (by first | rfl | exact vrf_cat _), (by first | rfl | exact vrf_cat _), trivial⟩, Nat.le_of_ble_eq_true rfl⟩ (r_out (by assumption) (by decide) (by decide)) (fun v hs ho => ?_) (fun E hs ho => by simp at ho)
        obtain ⟨r_112, ho, hr_112, rfl⟩ := ho
        cases ho
        refine Vi.if_eq (pc := 115) (tgt := 120) d_R_wrong_115 (by decide) (by first | assumption | decide | omega | (simp [up] <;> omega)) (fun c_115 => ?_) (fun c_115 => ?_)
        · exact (r_wr1 hR hx ha).post fun o hs' ⟨r, h1, h2, h3⟩ => ⟨r, h1, by omega, h3⟩
        · refine Vi.iconst (pc := 118) d_R_wrong_118 ?_
          refine Vi.zreturn (pc := 119) d_R_wrong_119 rfl (by omega) ?_
          exact ⟨_, rfl, by omega, rfl⟩
    · refine V.iload_n (pc := 92) d_R_wrong_92 rfl ?_
      refine Vi.bipush (pc := 93) d_R_wrong_93 (by decide) ?_
      refine Vi.icmp_ne (pc := 95) (tgt := 120) d_R_wrong_95 (by decide) (by first | assumption | decide | omega | (simp [up] <;> omega)) (by first | assumption | decide | omega | (simp [up] <;> omega)) (fun c_95 => ?_) (fun c_95 => ?_)
      · exact (r_wr1 hR hx ha).post fun o hs' ⟨r, h1, h2, h3⟩ => ⟨r, h1, by omega, h3⟩
      · first | refine V.aload_nR (pc := 98) d_R_wrong_98 rfl ?_ | refine V.aload_n (pc := 98) d_R_wrong_98 rfl ?_
        refine V.iload_n (pc := 99) d_R_wrong_99 rfl ?_
        refine V.iload_n (pc := 100) d_R_wrong_100 rfl ?_
        refine Vi.bipush (pc := 101) d_R_wrong_101 (by decide) ?_
        refine Vi.icmp_ne (pc := 103) (tgt := 110) d_R_wrong_103 (by decide) (by first | assumption | decide | omega | (simp [up] <;> omega)) (by first | assumption | decide | omega | (simp [up] <;> omega)) (fun c_103 => ?_) (fun c_103 => ?_)
        · refine Vi.iconst (pc := 110) d_R_wrong_110 ?_
          refine Vi.iconst (pc := 111) d_R_wrong_111 ?_
          refine V.callV (pc := 112) d_R_wrong_112 Y_R_out l_R_136 wi_R_out wv_R_out (ci := 6) rfl rfl [_, _, _] hR.o rfl rfl ⟨by repeat (first | exact trivial | refine ⟨(by first | rfl | exact vrf_cat _), ?_⟩), Nat.le_of_ble_eq_true rfl⟩ ⟨⟨rfl, (by first | rfl | exact vrf_cat _), (by first | rfl | exact vrf_cat _), (by first | rfl | exact vrf_cat _), trivial⟩, Nat.le_of_ble_eq_true rfl⟩ (r_out (by assumption) (by decide) (by decide)) (fun v hs ho => ?_) (fun E hs ho => by simp at ho)
          obtain ⟨r_112, ho, hr_112, rfl⟩ := ho
          cases ho
          refine Vi.if_eq (pc := 115) (tgt := 120) d_R_wrong_115 (by decide) (by first | assumption | decide | omega | (simp [up] <;> omega)) (fun c_115 => ?_) (fun c_115 => ?_)
          · exact (r_wr1 hR hx ha).post fun o hs' ⟨r, h1, h2, h3⟩ => ⟨r, h1, by omega, h3⟩
          · refine Vi.iconst (pc := 118) d_R_wrong_118 ?_
            refine Vi.zreturn (pc := 119) d_R_wrong_119 rfl (by omega) ?_
            exact ⟨_, rfl, by omega, rfl⟩
        · refine Vi.iconst (pc := 106) d_R_wrong_106 ?_
          refine V.goto (pc := 107) (tgt := 111) d_R_wrong_107 (by decide) ?_
          refine Vi.iconst (pc := 111) d_R_wrong_111 ?_
          refine V.callV (pc := 112) d_R_wrong_112 Y_R_out l_R_136 wi_R_out wv_R_out (ci := 6) rfl rfl [_, _, _] hR.o rfl rfl ⟨by repeat (first | exact trivial | refine ⟨(by first | rfl | exact vrf_cat _), ?_⟩), Nat.le_of_ble_eq_true rfl⟩ ⟨⟨rfl, (by first | rfl | exact vrf_cat _), (by first | rfl | exact vrf_cat _), (by first | rfl | exact vrf_cat _), trivial⟩, Nat.le_of_ble_eq_true rfl⟩ (r_out (by assumption) (by decide) (by decide)) (fun v hs ho => ?_) (fun E hs ho => by simp at ho)
          obtain ⟨r_112, ho, hr_112, rfl⟩ := ho
          cases ho
          refine Vi.if_eq (pc := 115) (tgt := 120) d_R_wrong_115 (by decide) (by first | assumption | decide | omega | (simp [up] <;> omega)) (fun c_115 => ?_) (fun c_115 => ?_)
          · exact (r_wr1 hR hx ha).post fun o hs' ⟨r, h1, h2, h3⟩ => ⟨r, h1, by omega, h3⟩
          · refine Vi.iconst (pc := 118) d_R_wrong_118 ?_
            refine Vi.zreturn (pc := 119) d_R_wrong_119 rfl (by omega) ?_
            exact ⟨_, rfl, by omega, rfl⟩
theorem r_wr3 (hR : RepR w mo ra S g b hs) (hx : jr x) (ha : jr a) (hc : jr c) : V jcl w m_R_wrong (d + 1) 42 [(0, .ref mo), (1, .int (ii x)), (2, .int (ii a)), (3, .int (ii c))] [] hs (fun o hs' => ∃ r : Int, o = .inl (some (.int (ii r))) ∧ (r = 1 ∧ WR3 x a c ∨ r = 0 ∧ ¬ WR3 x a c) ∧ hs' = hs) := by
  refine V.iload_n (pc := 42) d_R_wrong_42 rfl ?_
  refine Vi.bipush (pc := 43) d_R_wrong_43 (by decide) ?_
  refine Vi.icmp_le (pc := 45) (tgt := 65) d_R_wrong_45 (by decide) (by first | assumption | decide | omega | (simp [up] <;> omega)) (by first | assumption | decide | omega | (simp [up] <;> omega)) (fun c_45 => ?_) (fun c_45 => ?_)
  · refine V.iload_n (pc := 65) d_R_wrong_65 rfl ?_
    refine Vi.iconst (pc := 66) d_R_wrong_66 ?_
    refine Vi.icmp_ne (pc := 67) (tgt := 82) d_R_wrong_67 (by decide) (by first | assumption | decide | omega | (simp [up] <;> omega)) (by first | assumption | decide | omega | (simp [up] <;> omega)) (fun c_67 => ?_) (fun c_67 => ?_)
    · exact (r_wr2 hR hx ha).post fun o hs' ⟨r, h1, h2, h3⟩ => ⟨r, h1, by omega, h3⟩
    · first | refine V.aload_nR (pc := 70) d_R_wrong_70 rfl ?_ | refine V.aload_n (pc := 70) d_R_wrong_70 rfl ?_
      refine V.iload_n (pc := 71) d_R_wrong_71 rfl ?_
      refine Vi.iconst (pc := 72) d_R_wrong_72 ?_
      refine Vi.iconst (pc := 73) d_R_wrong_73 ?_
      refine V.callV (pc := 74) d_R_wrong_74 Y_R_out l_R_136 wi_R_out wv_R_out (ci := 6) rfl rfl [_, _, _] hR.o rfl rfl ⟨by repeat (first | exact trivial | refine ⟨(by first | rfl | exact vrf_cat _), ?_⟩), Nat.le_of_ble_eq_true rfl⟩ ⟨⟨rfl, (by first | rfl | exact vrf_cat _), (by first | rfl | exact vrf_cat _), (by first | rfl | exact vrf_cat _), trivial⟩, Nat.le_of_ble_eq_true rfl⟩ (r_out (by assumption) (by decide) (by decide)) (fun v hs ho => ?_) (fun E hs ho => by simp at ho)
      obtain ⟨r_74, ho, hr_74, rfl⟩ := ho
      cases ho
      refine Vi.if_eq (pc := 77) (tgt := 82) d_R_wrong_77 (by decide) (by first | assumption | decide | omega | (simp [up] <;> omega)) (fun c_77 => ?_) (fun c_77 => ?_)
      · exact (r_wr2 hR hx ha).post fun o hs' ⟨r, h1, h2, h3⟩ => ⟨r, h1, by omega, h3⟩
      · refine Vi.iconst (pc := 80) d_R_wrong_80 ?_
        refine Vi.zreturn (pc := 81) d_R_wrong_81 rfl (by omega) ?_
        exact ⟨_, rfl, by omega, rfl⟩
  · refine V.iload_n (pc := 48) d_R_wrong_48 rfl ?_
    refine Vi.bipush (pc := 49) d_R_wrong_49 (by decide) ?_
    refine Vi.icmp_ge (pc := 51) (tgt := 65) d_R_wrong_51 (by decide) (by first | assumption | decide | omega | (simp [up] <;> omega)) (by first | assumption | decide | omega | (simp [up] <;> omega)) (fun c_51 => ?_) (fun c_51 => ?_)
    · refine V.iload_n (pc := 65) d_R_wrong_65 rfl ?_
      refine Vi.iconst (pc := 66) d_R_wrong_66 ?_
      refine Vi.icmp_ne (pc := 67) (tgt := 82) d_R_wrong_67 (by decide) (by first | assumption | decide | omega | (simp [up] <;> omega)) (by first | assumption | decide | omega | (simp [up] <;> omega)) (fun c_67 => ?_) (fun c_67 => ?_)
      · exact (r_wr2 hR hx ha).post fun o hs' ⟨r, h1, h2, h3⟩ => ⟨r, h1, by omega, h3⟩
      · first | refine V.aload_nR (pc := 70) d_R_wrong_70 rfl ?_ | refine V.aload_n (pc := 70) d_R_wrong_70 rfl ?_
        refine V.iload_n (pc := 71) d_R_wrong_71 rfl ?_
        refine Vi.iconst (pc := 72) d_R_wrong_72 ?_
        refine Vi.iconst (pc := 73) d_R_wrong_73 ?_
        refine V.callV (pc := 74) d_R_wrong_74 Y_R_out l_R_136 wi_R_out wv_R_out (ci := 6) rfl rfl [_, _, _] hR.o rfl rfl ⟨by repeat (first | exact trivial | refine ⟨(by first | rfl | exact vrf_cat _), ?_⟩), Nat.le_of_ble_eq_true rfl⟩ ⟨⟨rfl, (by first | rfl | exact vrf_cat _), (by first | rfl | exact vrf_cat _), (by first | rfl | exact vrf_cat _), trivial⟩, Nat.le_of_ble_eq_true rfl⟩ (r_out (by assumption) (by decide) (by decide)) (fun v hs ho => ?_) (fun E hs ho => by simp at ho)
        obtain ⟨r_74, ho, hr_74, rfl⟩ := ho
        cases ho
        refine Vi.if_eq (pc := 77) (tgt := 82) d_R_wrong_77 (by decide) (by first | assumption | decide | omega | (simp [up] <;> omega)) (fun c_77 => ?_) (fun c_77 => ?_)
        · exact (r_wr2 hR hx ha).post fun o hs' ⟨r, h1, h2, h3⟩ => ⟨r, h1, by omega, h3⟩
        · refine Vi.iconst (pc := 80) d_R_wrong_80 ?_
          refine Vi.zreturn (pc := 81) d_R_wrong_81 rfl (by omega) ?_
          exact ⟨_, rfl, by omega, rfl⟩
    · first | refine V.aload_nR (pc := 54) d_R_wrong_54 rfl ?_ | refine V.aload_n (pc := 54) d_R_wrong_54 rfl ?_
      refine V.iload_n (pc := 55) d_R_wrong_55 rfl ?_
      refine Vi.iconst (pc := 56) d_R_wrong_56 ?_
      refine Vi.bipush (pc := 57) d_R_wrong_57 (by decide) ?_
      refine V.callV (pc := 59) d_R_wrong_59 Y_R_out l_R_136 wi_R_out wv_R_out (ci := 6) rfl rfl [_, _, _] hR.o rfl rfl ⟨by repeat (first | exact trivial | refine ⟨(by first | rfl | exact vrf_cat _), ?_⟩), Nat.le_of_ble_eq_true rfl⟩ ⟨⟨rfl, (by first | rfl | exact vrf_cat _), (by first | rfl | exact vrf_cat _), (by first | rfl | exact vrf_cat _), trivial⟩, Nat.le_of_ble_eq_true rfl⟩ (r_out (by assumption) (by decide) (by decide)) (fun v hs ho => ?_) (fun E hs ho => by simp at ho)
      obtain ⟨r_59, ho, hr_59, rfl⟩ := ho
      cases ho
      refine Vi.if_ne (pc := 62) (tgt := 80) d_R_wrong_62 (by decide) (by first | assumption | decide | omega | (simp [up] <;> omega)) (fun c_62 => ?_) (fun c_62 => ?_)
      · refine Vi.iconst (pc := 80) d_R_wrong_80 ?_
        refine Vi.zreturn (pc := 81) d_R_wrong_81 rfl (by omega) ?_
        exact ⟨_, rfl, by omega, rfl⟩
      · refine V.iload_n (pc := 65) d_R_wrong_65 rfl ?_
        refine Vi.iconst (pc := 66) d_R_wrong_66 ?_
        refine Vi.icmp_ne (pc := 67) (tgt := 82) d_R_wrong_67 (by decide) (by first | assumption | decide | omega | (simp [up] <;> omega)) (by first | assumption | decide | omega | (simp [up] <;> omega)) (fun c_67 => ?_) (fun c_67 => ?_)
        · exact (r_wr2 hR hx ha).post fun o hs' ⟨r, h1, h2, h3⟩ => ⟨r, h1, by omega, h3⟩
        · first | refine V.aload_nR (pc := 70) d_R_wrong_70 rfl ?_ | refine V.aload_n (pc := 70) d_R_wrong_70 rfl ?_
          refine V.iload_n (pc := 71) d_R_wrong_71 rfl ?_
          refine Vi.iconst (pc := 72) d_R_wrong_72 ?_
          refine Vi.iconst (pc := 73) d_R_wrong_73 ?_
          refine V.callV (pc := 74) d_R_wrong_74 Y_R_out l_R_136 wi_R_out wv_R_out (ci := 6) rfl rfl [_, _, _] hR.o rfl rfl ⟨by repeat (first | exact trivial | refine ⟨(by first | rfl | exact vrf_cat _), ?_⟩), Nat.le_of_ble_eq_true rfl⟩ ⟨⟨rfl, (by first | rfl | exact vrf_cat _), (by first | rfl | exact vrf_cat _), (by first | rfl | exact vrf_cat _), trivial⟩, Nat.le_of_ble_eq_true rfl⟩ (r_out (by assumption) (by decide) (by decide)) (fun v hs ho => ?_) (fun E hs ho => by simp at ho)
          obtain ⟨r_74, ho, hr_74, rfl⟩ := ho
          cases ho
          refine Vi.if_eq (pc := 77) (tgt := 82) d_R_wrong_77 (by decide) (by first | assumption | decide | omega | (simp [up] <;> omega)) (fun c_77 => ?_) (fun c_77 => ?_)
          · exact (r_wr2 hR hx ha).post fun o hs' ⟨r, h1, h2, h3⟩ => ⟨r, h1, by omega, h3⟩
          · refine Vi.iconst (pc := 80) d_R_wrong_80 ?_
            refine Vi.zreturn (pc := 81) d_R_wrong_81 rfl (by omega) ?_
            exact ⟨_, rfl, by omega, rfl⟩
theorem r_wrong (hR : RepR w mo ra S g b hs) (hx : jr x) (ha : jr a) (hc : jr c) : V jcl w m_R_wrong (d + 1) 0 [(0, .ref mo), (1, .int (ii x)), (2, .int (ii a)), (3, .int (ii c))] [] hs (fun o hs' => ∃ r : Int, o = .inl (some (.int (ii r))) ∧ (r = 1 ∧ WRb x a c = true ∨ r = 0 ∧ WRb x a c = false) ∧ hs' = hs) := by
  have e1 : WR0 x a c → WRb x a c = true := fun h => decide_eq_true h
  have e2 : ¬ WR0 x a c → WRb x a c = false := fun h => decide_eq_false h
  refine V.iload_n (pc := 0) d_R_wrong_0 rfl ?_
  refine Vi.iconst (pc := 1) d_R_wrong_1 ?_
  refine Vi.icmp_eq (pc := 2) (tgt := 29) d_R_wrong_2 (by decide) (by first | assumption | decide | omega | (simp [up] <;> omega)) (by first | assumption | decide | omega | (simp [up] <;> omega)) (fun c_2 => ?_) (fun c_2 => ?_)
  · first | refine V.aload_nR (pc := 29) d_R_wrong_29 rfl ?_ | refine V.aload_n (pc := 29) d_R_wrong_29 rfl ?_
    refine V.iload_n (pc := 30) d_R_wrong_30 rfl ?_
    refine Vi.iconst (pc := 31) d_R_wrong_31 ?_
    refine Vi.bipush (pc := 32) d_R_wrong_32 (by decide) ?_
    refine V.callV (pc := 34) d_R_wrong_34 Y_R_out l_R_136 wi_R_out wv_R_out (ci := 6) rfl rfl [_, _, _] hR.o rfl rfl ⟨by repeat (first | exact trivial | refine ⟨(by first | rfl | exact vrf_cat _), ?_⟩), Nat.le_of_ble_eq_true rfl⟩ ⟨⟨rfl, (by first | rfl | exact vrf_cat _), (by first | rfl | exact vrf_cat _), (by first | rfl | exact vrf_cat _), trivial⟩, Nat.le_of_ble_eq_true rfl⟩ (r_out (by assumption) (by decide) (by decide)) (fun v hs ho => ?_) (fun E hs ho => by simp at ho)
    obtain ⟨r_34, ho, hr_34, rfl⟩ := ho
    cases ho
    refine Vi.if_eq (pc := 37) (tgt := 42) d_R_wrong_37 (by decide) (by first | assumption | decide | omega | (simp [up] <;> omega)) (fun c_37 => ?_) (fun c_37 => ?_)
    · exact (r_wr3 hR hx ha hc).post fun o hs' ⟨r, h1, h2, h3⟩ => ⟨r, h1, by rcases h2 with ⟨h2, h4⟩ | ⟨h2, h4⟩ <;> first | exact Or.inl ⟨h2, e1 (by omega)⟩ | exact Or.inr ⟨h2, e2 (by omega)⟩, h3⟩
    · refine Vi.iconst (pc := 40) d_R_wrong_40 ?_
      refine Vi.zreturn (pc := 41) d_R_wrong_41 rfl (by omega) ?_
      exact ⟨_, rfl, by first | exact Or.inl ⟨rfl, e1 (by omega)⟩ | exact Or.inr ⟨rfl, e2 (by omega)⟩, rfl⟩
  · refine V.iload_n (pc := 5) d_R_wrong_5 rfl ?_
    refine Vi.bipush (pc := 6) d_R_wrong_6 (by decide) ?_
    refine Vi.icmp_eq (pc := 8) (tgt := 29) d_R_wrong_8 (by decide) (by first | assumption | decide | omega | (simp [up] <;> omega)) (by first | assumption | decide | omega | (simp [up] <;> omega)) (fun c_8 => ?_) (fun c_8 => ?_)
    · first | refine V.aload_nR (pc := 29) d_R_wrong_29 rfl ?_ | refine V.aload_n (pc := 29) d_R_wrong_29 rfl ?_
      refine V.iload_n (pc := 30) d_R_wrong_30 rfl ?_
      refine Vi.iconst (pc := 31) d_R_wrong_31 ?_
      refine Vi.bipush (pc := 32) d_R_wrong_32 (by decide) ?_
      refine V.callV (pc := 34) d_R_wrong_34 Y_R_out l_R_136 wi_R_out wv_R_out (ci := 6) rfl rfl [_, _, _] hR.o rfl rfl ⟨by repeat (first | exact trivial | refine ⟨(by first | rfl | exact vrf_cat _), ?_⟩), Nat.le_of_ble_eq_true rfl⟩ ⟨⟨rfl, (by first | rfl | exact vrf_cat _), (by first | rfl | exact vrf_cat _), (by first | rfl | exact vrf_cat _), trivial⟩, Nat.le_of_ble_eq_true rfl⟩ (r_out (by assumption) (by decide) (by decide)) (fun v hs ho => ?_) (fun E hs ho => by simp at ho)
      obtain ⟨r_34, ho, hr_34, rfl⟩ := ho
      cases ho
      refine Vi.if_eq (pc := 37) (tgt := 42) d_R_wrong_37 (by decide) (by first | assumption | decide | omega | (simp [up] <;> omega)) (fun c_37 => ?_) (fun c_37 => ?_)
      · exact (r_wr3 hR hx ha hc).post fun o hs' ⟨r, h1, h2, h3⟩ => ⟨r, h1, by rcases h2 with ⟨h2, h4⟩ | ⟨h2, h4⟩ <;> first | exact Or.inl ⟨h2, e1 (by omega)⟩ | exact Or.inr ⟨h2, e2 (by omega)⟩, h3⟩
      · refine Vi.iconst (pc := 40) d_R_wrong_40 ?_
        refine Vi.zreturn (pc := 41) d_R_wrong_41 rfl (by omega) ?_
        exact ⟨_, rfl, by first | exact Or.inl ⟨rfl, e1 (by omega)⟩ | exact Or.inr ⟨rfl, e2 (by omega)⟩, rfl⟩
    · refine V.iload_n (pc := 11) d_R_wrong_11 rfl ?_
      refine Vi.bipush (pc := 12) d_R_wrong_12 (by decide) ?_
      refine Vi.icmp_eq (pc := 14) (tgt := 29) d_R_wrong_14 (by decide) (by first | assumption | decide | omega | (simp [up] <;> omega)) (by first | assumption | decide | omega | (simp [up] <;> omega)) (fun c_14 => ?_) (fun c_14 => ?_)
      · first | refine V.aload_nR (pc := 29) d_R_wrong_29 rfl ?_ | refine V.aload_n (pc := 29) d_R_wrong_29 rfl ?_
        refine V.iload_n (pc := 30) d_R_wrong_30 rfl ?_
        refine Vi.iconst (pc := 31) d_R_wrong_31 ?_
        refine Vi.bipush (pc := 32) d_R_wrong_32 (by decide) ?_
        refine V.callV (pc := 34) d_R_wrong_34 Y_R_out l_R_136 wi_R_out wv_R_out (ci := 6) rfl rfl [_, _, _] hR.o rfl rfl ⟨by repeat (first | exact trivial | refine ⟨(by first | rfl | exact vrf_cat _), ?_⟩), Nat.le_of_ble_eq_true rfl⟩ ⟨⟨rfl, (by first | rfl | exact vrf_cat _), (by first | rfl | exact vrf_cat _), (by first | rfl | exact vrf_cat _), trivial⟩, Nat.le_of_ble_eq_true rfl⟩ (r_out (by assumption) (by decide) (by decide)) (fun v hs ho => ?_) (fun E hs ho => by simp at ho)
        obtain ⟨r_34, ho, hr_34, rfl⟩ := ho
        cases ho
        refine Vi.if_eq (pc := 37) (tgt := 42) d_R_wrong_37 (by decide) (by first | assumption | decide | omega | (simp [up] <;> omega)) (fun c_37 => ?_) (fun c_37 => ?_)
        · exact (r_wr3 hR hx ha hc).post fun o hs' ⟨r, h1, h2, h3⟩ => ⟨r, h1, by rcases h2 with ⟨h2, h4⟩ | ⟨h2, h4⟩ <;> first | exact Or.inl ⟨h2, e1 (by omega)⟩ | exact Or.inr ⟨h2, e2 (by omega)⟩, h3⟩
        · refine Vi.iconst (pc := 40) d_R_wrong_40 ?_
          refine Vi.zreturn (pc := 41) d_R_wrong_41 rfl (by omega) ?_
          exact ⟨_, rfl, by first | exact Or.inl ⟨rfl, e1 (by omega)⟩ | exact Or.inr ⟨rfl, e2 (by omega)⟩, rfl⟩
      · refine V.iload_n (pc := 17) d_R_wrong_17 rfl ?_
        refine Vi.bipush (pc := 18) d_R_wrong_18 (by decide) ?_
        refine Vi.icmp_le (pc := 20) (tgt := 42) d_R_wrong_20 (by decide) (by first | assumption | decide | omega | (simp [up] <;> omega)) (by first | assumption | decide | omega | (simp [up] <;> omega)) (fun c_20 => ?_) (fun c_20 => ?_)
        · exact (r_wr3 hR hx ha hc).post fun o hs' ⟨r, h1, h2, h3⟩ => ⟨r, h1, by rcases h2 with ⟨h2, h4⟩ | ⟨h2, h4⟩ <;> first | exact Or.inl ⟨h2, e1 (by omega)⟩ | exact Or.inr ⟨h2, e2 (by omega)⟩, h3⟩
        · refine V.iload_n (pc := 23) d_R_wrong_23 rfl ?_
          refine Vi.bipush (pc := 24) d_R_wrong_24 (by decide) ?_
          refine Vi.icmp_ge (pc := 26) (tgt := 42) d_R_wrong_26 (by decide) (by first | assumption | decide | omega | (simp [up] <;> omega)) (by first | assumption | decide | omega | (simp [up] <;> omega)) (fun c_26 => ?_) (fun c_26 => ?_)
          · exact (r_wr3 hR hx ha hc).post fun o hs' ⟨r, h1, h2, h3⟩ => ⟨r, h1, by rcases h2 with ⟨h2, h4⟩ | ⟨h2, h4⟩ <;> first | exact Or.inl ⟨h2, e1 (by omega)⟩ | exact Or.inr ⟨h2, e2 (by omega)⟩, h3⟩
          · first | refine V.aload_nR (pc := 29) d_R_wrong_29 rfl ?_ | refine V.aload_n (pc := 29) d_R_wrong_29 rfl ?_
            refine V.iload_n (pc := 30) d_R_wrong_30 rfl ?_
            refine Vi.iconst (pc := 31) d_R_wrong_31 ?_
            refine Vi.bipush (pc := 32) d_R_wrong_32 (by decide) ?_
            refine V.callV (pc := 34) d_R_wrong_34 Y_R_out l_R_136 wi_R_out wv_R_out (ci := 6) rfl rfl [_, _, _] hR.o rfl rfl ⟨by repeat (first | exact trivial | refine ⟨(by first | rfl | exact vrf_cat _), ?_⟩), Nat.le_of_ble_eq_true rfl⟩ ⟨⟨rfl, (by first | rfl | exact vrf_cat _), (by first | rfl | exact vrf_cat _), (by first | rfl | exact vrf_cat _), trivial⟩, Nat.le_of_ble_eq_true rfl⟩ (r_out (by assumption) (by decide) (by decide)) (fun v hs ho => ?_) (fun E hs ho => by simp at ho)
            obtain ⟨r_34, ho, hr_34, rfl⟩ := ho
            cases ho
            refine Vi.if_eq (pc := 37) (tgt := 42) d_R_wrong_37 (by decide) (by first | assumption | decide | omega | (simp [up] <;> omega)) (fun c_37 => ?_) (fun c_37 => ?_)
            · exact (r_wr3 hR hx ha hc).post fun o hs' ⟨r, h1, h2, h3⟩ => ⟨r, h1, by rcases h2 with ⟨h2, h4⟩ | ⟨h2, h4⟩ <;> first | exact Or.inl ⟨h2, e1 (by omega)⟩ | exact Or.inr ⟨h2, e2 (by omega)⟩, h3⟩
            · refine Vi.iconst (pc := 40) d_R_wrong_40 ?_
              refine Vi.zreturn (pc := 41) d_R_wrong_41 rfl (by omega) ?_
              exact ⟨_, rfl, by first | exact Or.inl ⟨rfl, e1 (by omega)⟩ | exact Or.inr ⟨rfl, e2 (by omega)⟩, rfl⟩
/-- act: the code, the answer, the new state -/
def z_actS (S : js) (p x a c : Int) : js := up (up (up (up S 12 (p * 8 + S 11 p) x) 13 (p * 8 + S 11 p) a) 14 (p * 8 + S 11 p) c) 11 p (S 11 p + 1)
def z_act (S : js) (p x a c : Int) : Int × Int × js := if (p < 0 ∨ 9 < p) ∨ (x < 0 ∨ 15 < x) ∨ WRb x a c = true then (1, 0, S) else if S 11 p = 8 then (2, 0, S) else (0, S 11 p + 1, z_actS S p x a c)
theorem r_act {p : Int} (hR : RepR w mo ra S g b hs) (hp : jr p) (hx : jr x) (ha : jr a) (hc : jr c) (hz : ∀ p, 0 ≤ p → p < 10 → 0 ≤ S 11 p ∧ S 11 p ≤ 8) : V jcl w m_R_act (d + 2) 0 [(0, .ref mo), (1, .int (ii p)), (2, .int (ii x)), (3, .int (ii a)), (4, .int (ii c))] [] hs (fun o hs' => o = .inl (some (.int (ii (z_act S p x a c).2.1))) ∧ RepR w mo ra (up (z_act S p x a c).2.2 0 0 (z_act S p x a c).1) g b hs') := by
  have hz' : 0 ≤ p ∧ p < 10 → 0 ≤ S 11 p ∧ S 11 p ≤ 8 := fun z => hz p z.1 z.2
  first | refine V.aload_nR (pc := 0) d_R_act_0 rfl ?_ | refine V.aload_n (pc := 0) d_R_act_0 rfl ?_
  refine V.iload_n (pc := 1) d_R_act_1 rfl ?_
  refine Vi.iconst (pc := 2) d_R_act_2 ?_
  refine Vi.bipush (pc := 3) d_R_act_3 (by decide) ?_
  refine V.callV (pc := 5) d_R_act_5 Y_R_out l_R_136 wi_R_out wv_R_out (ci := 6) rfl rfl [_, _, _] hR.o rfl rfl ⟨by repeat (first | exact trivial | refine ⟨(by first | rfl | exact vrf_cat _), ?_⟩), Nat.le_of_ble_eq_true rfl⟩ ⟨⟨rfl, (by first | rfl | exact vrf_cat _), (by first | rfl | exact vrf_cat _), (by first | rfl | exact vrf_cat _), trivial⟩, Nat.le_of_ble_eq_true rfl⟩ (r_out (by assumption) (by decide) (by decide)) (fun v hs ho => ?_) (fun E hs ho => by simp at ho)
  obtain ⟨r_5, ho, hr_5, rfl⟩ := ho
  cases ho
  refine Vi.if_ne (pc := 8) (tgt := 33) d_R_act_8 (by decide) (by first | assumption | decide | omega | (simp [up] <;> omega)) (fun c_8 => ?_) (fun c_8 => ?_)
  · first | refine V.aload_nR (pc := 33) d_R_act_33 rfl ?_ | refine V.aload_n (pc := 33) d_R_act_33 rfl ?_
    refine Vi.iconst (pc := 34) d_R_act_34 ?_
    refine V.callV (pc := 35) d_R_act_35 Y_R_refuse l_R_143 wi_R_refuse wv_R_refuse (ci := 6) rfl rfl [_] hR.o rfl rfl ⟨by repeat (first | exact trivial | refine ⟨(by first | rfl | exact vrf_cat _), ?_⟩), Nat.le_of_ble_eq_true rfl⟩ ⟨⟨rfl, (by first | rfl | exact vrf_cat _), trivial⟩, Nat.le_of_ble_eq_true rfl⟩ (r_refuse hR) (fun v hs ho => ?_) (fun E hs ho => by simp at ho)
    obtain ⟨ho, hR⟩ := ho
    cases ho
    refine Vi.ireturn (pc := 38) d_R_act_38 rfl ?_
    unfold z_act
    (repeat' split) <;> first | (refine ⟨?_, ?_⟩ <;> first | rfl | exact hR | (simp [up, z_actS]; done) | (simpa [z_actS, up_f, up_s] using hR)) | (exfalso; grind)
  · first | refine V.aload_nR (pc := 11) d_R_act_11 rfl ?_ | refine V.aload_n (pc := 11) d_R_act_11 rfl ?_
    refine V.iload_n (pc := 12) d_R_act_12 rfl ?_
    refine Vi.iconst (pc := 13) d_R_act_13 ?_
    refine Vi.bipush (pc := 14) d_R_act_14 (by decide) ?_
    refine V.callV (pc := 16) d_R_act_16 Y_R_out l_R_136 wi_R_out wv_R_out (ci := 6) rfl rfl [_, _, _] hR.o rfl rfl ⟨by repeat (first | exact trivial | refine ⟨(by first | rfl | exact vrf_cat _), ?_⟩), Nat.le_of_ble_eq_true rfl⟩ ⟨⟨rfl, (by first | rfl | exact vrf_cat _), (by first | rfl | exact vrf_cat _), (by first | rfl | exact vrf_cat _), trivial⟩, Nat.le_of_ble_eq_true rfl⟩ (r_out (by assumption) (by decide) (by decide)) (fun v hs ho => ?_) (fun E hs ho => by simp at ho)
    obtain ⟨r_16, ho, hr_16, rfl⟩ := ho
    cases ho
    refine Vi.if_ne (pc := 19) (tgt := 33) d_R_act_19 (by decide) (by first | assumption | decide | omega | (simp [up] <;> omega)) (fun c_19 => ?_) (fun c_19 => ?_)
    · first | refine V.aload_nR (pc := 33) d_R_act_33 rfl ?_ | refine V.aload_n (pc := 33) d_R_act_33 rfl ?_
      refine Vi.iconst (pc := 34) d_R_act_34 ?_
      refine V.callV (pc := 35) d_R_act_35 Y_R_refuse l_R_143 wi_R_refuse wv_R_refuse (ci := 6) rfl rfl [_] hR.o rfl rfl ⟨by repeat (first | exact trivial | refine ⟨(by first | rfl | exact vrf_cat _), ?_⟩), Nat.le_of_ble_eq_true rfl⟩ ⟨⟨rfl, (by first | rfl | exact vrf_cat _), trivial⟩, Nat.le_of_ble_eq_true rfl⟩ (r_refuse hR) (fun v hs ho => ?_) (fun E hs ho => by simp at ho)
      obtain ⟨ho, hR⟩ := ho
      cases ho
      refine Vi.ireturn (pc := 38) d_R_act_38 rfl ?_
      unfold z_act
      (repeat' split) <;> first | (refine ⟨?_, ?_⟩ <;> first | rfl | exact hR | (simp [up, z_actS]; done) | (simpa [z_actS, up_f, up_s] using hR)) | (exfalso; grind)
    · first | refine V.aload_nR (pc := 22) d_R_act_22 rfl ?_ | refine V.aload_n (pc := 22) d_R_act_22 rfl ?_
      refine V.iload_n (pc := 23) d_R_act_23 rfl ?_
      refine V.iload_n (pc := 24) d_R_act_24 rfl ?_
      refine V.iload (pc := 25) d_R_act_25 rfl ?_
      refine V.callV (pc := 27) d_R_act_27 Y_R_wrong l_R_140 wi_R_wrong wv_R_wrong (ci := 6) rfl rfl [_, _, _] hR.o rfl rfl ⟨by repeat (first | exact trivial | refine ⟨(by first | rfl | exact vrf_cat _), ?_⟩), Nat.le_of_ble_eq_true rfl⟩ ⟨⟨rfl, (by first | rfl | exact vrf_cat _), (by first | rfl | exact vrf_cat _), (by first | rfl | exact vrf_cat _), trivial⟩, Nat.le_of_ble_eq_true rfl⟩ (r_wrong hR hx ha hc) (fun v hs ho => ?_) (fun E hs ho => by simp at ho)
      obtain ⟨r_27, ho, hr_27, rfl⟩ := ho
      cases ho
      refine Vi.if_eq (pc := 30) (tgt := 39) d_R_act_30 (by decide) (by first | assumption | decide | omega | (simp [up] <;> omega)) (fun c_30 => ?_) (fun c_30 => ?_)
      · first | refine V.aload_nR (pc := 39) d_R_act_39 rfl ?_ | refine V.aload_n (pc := 39) d_R_act_39 rfl ?_
        refine Vr.get (pc := 40) d_R_act_40 g_R_44 hR rfl ?_
        refine V.iload_n (pc := 43) d_R_act_43 rfl ?_
        refine Vr.ald (pc := 44) (n := 10) d_R_act_44 hR (by decide) rfl (by first | assumption | decide | omega | (simp [up] <;> omega)) ?_
        refine Vi.bipush (pc := 45) d_R_act_45 (by decide) ?_
        refine Vi.icmp_ne (pc := 47) (tgt := 56) d_R_act_47 (by decide) (by first | assumption | decide | omega | (simp [up] <;> omega)) (by first | assumption | decide | omega | (simp [up] <;> omega)) (fun c_47 => ?_) (fun c_47 => ?_)
        · refine V.iload_n (pc := 56) d_R_act_56 rfl ?_
          refine Vi.bipush (pc := 57) d_R_act_57 (by decide) ?_
          refine Vi.imul (pc := 59) d_R_act_59 ?_
          first | refine V.aload_nR (pc := 60) d_R_act_60 rfl ?_ | refine V.aload_n (pc := 60) d_R_act_60 rfl ?_
          refine Vr.get (pc := 61) d_R_act_61 g_R_44 hR rfl ?_
          refine V.iload_n (pc := 64) d_R_act_64 rfl ?_
          refine Vr.ald (pc := 65) (n := 10) d_R_act_65 hR (by decide) rfl (by first | assumption | decide | omega | (simp [up] <;> omega)) ?_
          refine Vi.iadd (pc := 66) d_R_act_66 ?_
          refine V.istore (pc := 67) d_R_act_67 (by decide) ?_
          first | refine V.aload_nR (pc := 69) d_R_act_69 rfl ?_ | refine V.aload_n (pc := 69) d_R_act_69 rfl ?_
          refine Vr.get (pc := 70) d_R_act_70 g_R_48 hR rfl ?_
          refine V.iload (pc := 73) d_R_act_73 rfl ?_
          refine V.iload_n (pc := 75) d_R_act_75 rfl ?_
          refine Vr.ast (pc := 76) (n := 80) d_R_act_76 hR (by decide) rfl (by first | assumption | decide | omega | (simp [up] <;> omega)) (fun hs hR => ?_)
          first | refine V.aload_nR (pc := 77) d_R_act_77 rfl ?_ | refine V.aload_n (pc := 77) d_R_act_77 rfl ?_
          refine Vr.get (pc := 78) d_R_act_78 g_R_51 hR rfl ?_
          refine V.iload (pc := 81) d_R_act_81 rfl ?_
          refine V.iload_n (pc := 83) d_R_act_83 rfl ?_
          refine Vr.ast (pc := 84) (n := 80) d_R_act_84 hR (by decide) rfl (by first | assumption | decide | omega | (simp [up] <;> omega)) (fun hs hR => ?_)
          first | refine V.aload_nR (pc := 85) d_R_act_85 rfl ?_ | refine V.aload_n (pc := 85) d_R_act_85 rfl ?_
          refine Vr.get (pc := 86) d_R_act_86 g_R_54 hR rfl ?_
          refine V.iload (pc := 89) d_R_act_89 rfl ?_
          refine V.iload (pc := 91) d_R_act_91 rfl ?_
          refine Vr.ast (pc := 93) (n := 80) d_R_act_93 hR (by decide) rfl (by first | assumption | decide | omega | (simp [up] <;> omega)) (fun hs hR => ?_)
          first | refine V.aload_nR (pc := 94) d_R_act_94 rfl ?_ | refine V.aload_n (pc := 94) d_R_act_94 rfl ?_
          refine Vr.get (pc := 95) d_R_act_95 g_R_44 hR rfl ?_
          refine V.iload_n (pc := 98) d_R_act_98 rfl ?_
          refine V.dup2 (pc := 99) d_R_act_99 (by first | rfl | exact vrf_cat _) (by first | rfl | exact vrf_cat _) ?_
          refine Vr.ald (pc := 100) (n := 10) d_R_act_100 hR (by decide) rfl (by first | assumption | decide | omega | (simp [up] <;> omega)) ?_
          refine Vi.iconst (pc := 101) d_R_act_101 ?_
          refine Vi.iadd (pc := 102) d_R_act_102 ?_
          refine Vr.ast (pc := 103) (n := 10) d_R_act_103 hR (by decide) rfl (by first | assumption | decide | omega | (simp [up] <;> omega)) (fun hs hR => ?_)
          first | refine V.aload_nR (pc := 104) d_R_act_104 rfl ?_ | refine V.aload_n (pc := 104) d_R_act_104 rfl ?_
          first | refine V.aload_nR (pc := 105) d_R_act_105 rfl ?_ | refine V.aload_n (pc := 105) d_R_act_105 rfl ?_
          refine Vr.get (pc := 106) d_R_act_106 g_R_44 hR rfl ?_
          refine V.iload_n (pc := 109) d_R_act_109 rfl ?_
          refine Vr.ald (pc := 110) (n := 10) d_R_act_110 hR (by decide) rfl (by first | assumption | decide | omega | (simp [up] <;> omega)) ?_
          refine V.callV (pc := 111) d_R_act_111 Y_R_fine l_R_147 wi_R_fine wv_R_fine (ci := 6) rfl rfl [_] hR.o rfl rfl ⟨by repeat (first | exact trivial | refine ⟨(by first | rfl | exact vrf_cat _), ?_⟩), Nat.le_of_ble_eq_true rfl⟩ ⟨⟨rfl, (by first | rfl | exact vrf_cat _), trivial⟩, Nat.le_of_ble_eq_true rfl⟩ (r_fine hR) (fun v hs ho => ?_) (fun E hs ho => by simp at ho)
          obtain ⟨ho, hR⟩ := ho
          cases ho
          refine Vi.ireturn (pc := 114) d_R_act_114 rfl ?_
          unfold z_act
          (repeat' split) <;> first | (refine ⟨?_, ?_⟩ <;> first | rfl | exact hR | (simp [up, z_actS]; done) | (simpa [z_actS, up_f, up_s] using hR)) | (exfalso; grind)
        · first | refine V.aload_nR (pc := 50) d_R_act_50 rfl ?_ | refine V.aload_n (pc := 50) d_R_act_50 rfl ?_
          refine Vi.iconst (pc := 51) d_R_act_51 ?_
          refine V.callV (pc := 52) d_R_act_52 Y_R_refuse l_R_143 wi_R_refuse wv_R_refuse (ci := 6) rfl rfl [_] hR.o rfl rfl ⟨by repeat (first | exact trivial | refine ⟨(by first | rfl | exact vrf_cat _), ?_⟩), Nat.le_of_ble_eq_true rfl⟩ ⟨⟨rfl, (by first | rfl | exact vrf_cat _), trivial⟩, Nat.le_of_ble_eq_true rfl⟩ (r_refuse hR) (fun v hs ho => ?_) (fun E hs ho => by simp at ho)
          obtain ⟨ho, hR⟩ := ho
          cases ho
          refine Vi.ireturn (pc := 55) d_R_act_55 rfl ?_
          unfold z_act
          (repeat' split) <;> first | (refine ⟨?_, ?_⟩ <;> first | rfl | exact hR | (simp [up, z_actS]; done) | (simpa [z_actS, up_f, up_s] using hR)) | (exfalso; grind)
      · first | refine V.aload_nR (pc := 33) d_R_act_33 rfl ?_ | refine V.aload_n (pc := 33) d_R_act_33 rfl ?_
        refine Vi.iconst (pc := 34) d_R_act_34 ?_
        refine V.callV (pc := 35) d_R_act_35 Y_R_refuse l_R_143 wi_R_refuse wv_R_refuse (ci := 6) rfl rfl [_] hR.o rfl rfl ⟨by repeat (first | exact trivial | refine ⟨(by first | rfl | exact vrf_cat _), ?_⟩), Nat.le_of_ble_eq_true rfl⟩ ⟨⟨rfl, (by first | rfl | exact vrf_cat _), trivial⟩, Nat.le_of_ble_eq_true rfl⟩ (r_refuse hR) (fun v hs ho => ?_) (fun E hs ho => by simp at ho)
        obtain ⟨ho, hR⟩ := ho
        cases ho
        refine Vi.ireturn (pc := 38) d_R_act_38 rfl ?_
        unfold z_act
        (repeat' split) <;> first | (refine ⟨?_, ?_⟩ <;> first | rfl | exact hR | (simp [up, z_actS]; done) | (simpa [z_actS, up_f, up_s] using hR)) | (exfalso; grind)
def z_slots (S : js) (j : Int) : js := up (up (up S 22 (j * 3 + 0) (-1)) 22 (j * 3 + 1) (-1)) 22 (j * 3 + 2) (-1)
def z_begin0 (S : js) (q s : Int) : js := up (up (up (up (up S 1 0 (S 1 0 + 1)) 16 (S 1 0) q) 17 (S 1 0) s) 19 (S 1 0) (-1)) 31 (S 1 0) (-1)
/-- a new job of program p, parent q, sort s: the state; its number is S 1 0 -/
def z_begin (S : js) (p q s : Int) : js := z_putReady (z_pushFrame (up (z_slots (z_begin0 S q s) (S 1 0)) 21 (S 1 0) 0) (S 1 0) p 0 0 (-1)) (S 1 0) (-1)
theorem r_begin {p q s : Int} (hR : RepR w mo ra S g b hs) (hJ : 0 ≤ S 1 0 ∧ S 1 0 < 24) (hq : 0 ≤ S 7 0 ∧ S 7 0 < 24) : V jcl w m_R_begin (d + 1) 0 [(0, .ref mo), (1, .int (ii p)), (2, .int (ii q)), (3, .int (ii s))] [] hs (fun o hs' => o = .inl (some (.int (ii (S 1 0)))) ∧ RepR w mo ra (z_begin S p q s) g b hs') := by
  first | refine V.aload_nR (pc := 0) d_R_begin_0 rfl ?_ | refine V.aload_n (pc := 0) d_R_begin_0 rfl ?_
  refine Vr.get (pc := 1) d_R_begin_1 g_R_13 hR rfl ?_
  refine V.istore (pc := 4) d_R_begin_4 (by decide) ?_
  first | refine V.aload_nR (pc := 6) d_R_begin_6 rfl ?_ | refine V.aload_n (pc := 6) d_R_begin_6 rfl ?_
  refine V.dup (pc := 7) d_R_begin_7 (by first | rfl | exact vrf_cat _) ?_
  refine Vr.get (pc := 8) d_R_begin_8 g_R_13 hR rfl ?_
  refine Vi.iconst (pc := 11) d_R_begin_11 ?_
  refine Vi.iadd (pc := 12) d_R_begin_12 ?_
  refine Vr.put1 (pc := 13) d_R_begin_13 f_R_13 hR (fun hs hR => ?_)
  first | refine V.aload_nR (pc := 16) d_R_begin_16 rfl ?_ | refine V.aload_n (pc := 16) d_R_begin_16 rfl ?_
  refine Vr.get (pc := 17) d_R_begin_17 g_R_60 hR rfl ?_
  refine V.iload (pc := 20) d_R_begin_20 rfl ?_
  refine V.iload_n (pc := 22) d_R_begin_22 rfl ?_
  refine Vr.ast (pc := 23) (n := 24) d_R_begin_23 hR (by decide) rfl (by first | assumption | decide | omega | (simp [up] <;> omega)) (fun hs hR => ?_)
  first | refine V.aload_nR (pc := 24) d_R_begin_24 rfl ?_ | refine V.aload_n (pc := 24) d_R_begin_24 rfl ?_
  refine Vr.get (pc := 25) d_R_begin_25 g_R_63 hR rfl ?_
  refine V.iload (pc := 28) d_R_begin_28 rfl ?_
  refine V.iload_n (pc := 30) d_R_begin_30 rfl ?_
  refine Vr.ast (pc := 31) (n := 24) d_R_begin_31 hR (by decide) rfl (by first | assumption | decide | omega | (simp [up] <;> omega)) (fun hs hR => ?_)
  first | refine V.aload_nR (pc := 32) d_R_begin_32 rfl ?_ | refine V.aload_n (pc := 32) d_R_begin_32 rfl ?_
  refine Vr.get (pc := 33) d_R_begin_33 g_R_69 hR rfl ?_
  refine V.iload (pc := 36) d_R_begin_36 rfl ?_
  refine Vi.iconst (pc := 38) d_R_begin_38 ?_
  refine Vr.ast (pc := 39) (n := 24) d_R_begin_39 hR (by decide) rfl (by first | assumption | decide | omega | (simp [up] <;> omega)) (fun hs hR => ?_)
  first | refine V.aload_nR (pc := 40) d_R_begin_40 rfl ?_ | refine V.aload_n (pc := 40) d_R_begin_40 rfl ?_
  refine Vr.get (pc := 41) d_R_begin_41 g_R_106 hR rfl ?_
  refine V.iload (pc := 44) d_R_begin_44 rfl ?_
  refine Vi.iconst (pc := 46) d_R_begin_46 ?_
  refine Vr.ast (pc := 47) (n := 24) d_R_begin_47 hR (by decide) rfl (by first | assumption | decide | omega | (simp [up] <;> omega)) (fun hs hR => ?_)
  have hR : RepR w mo ra (z_begin0 S q s) g b hs := by simpa [z_begin0, up_f, up_s] using hR
  refine Vi.iconst (pc := 48) d_R_begin_48 ?_
  refine V.istore (pc := 49) d_R_begin_49 (by decide) ?_
  refine V.iload (pc := 51) d_R_begin_51 rfl ?_
  refine Vi.iconst (pc := 53) d_R_begin_53 ?_
  refine Vi.icmp_ge (pc := 54) (tgt := 76) d_R_begin_54 (by decide) (by first | assumption | decide | omega | (simp [up] <;> omega)) (by first | assumption | decide | omega | (simp [up] <;> omega)) (fun c_54 => ?_) (fun c_54 => ?_)
  · omega
  · first | refine V.aload_nR (pc := 57) d_R_begin_57 rfl ?_ | refine V.aload_n (pc := 57) d_R_begin_57 rfl ?_
    refine Vr.get (pc := 58) d_R_begin_58 g_R_78 hR rfl ?_
    refine V.iload (pc := 61) d_R_begin_61 rfl ?_
    refine Vi.iconst (pc := 63) d_R_begin_63 ?_
    refine Vi.imul (pc := 64) d_R_begin_64 ?_
    refine V.iload (pc := 65) d_R_begin_65 rfl ?_
    refine Vi.iadd (pc := 67) d_R_begin_67 ?_
    refine Vi.iconst (pc := 68) d_R_begin_68 ?_
    refine Vr.ast (pc := 69) (n := 72) d_R_begin_69 hR (by decide) rfl (by first | assumption | decide | omega | (simp [up] <;> omega)) (fun hs hR => ?_)
    refine Vi.iinc (pc := 70) d_R_begin_70 rfl (by decide) ?_
    refine V.goto (pc := 73) (tgt := 51) d_R_begin_73 (by decide) ?_
    refine V.iload (pc := 51) d_R_begin_51 rfl ?_
    refine Vi.iconst (pc := 53) d_R_begin_53 ?_
    refine Vi.icmp_ge (pc := 54) (tgt := 76) d_R_begin_54 (by decide) (by first | assumption | decide | omega | (simp [up] <;> omega)) (by first | assumption | decide | omega | (simp [up] <;> omega)) (fun c_54 => ?_) (fun c_54 => ?_)
    · omega
    · first | refine V.aload_nR (pc := 57) d_R_begin_57 rfl ?_ | refine V.aload_n (pc := 57) d_R_begin_57 rfl ?_
      refine Vr.get (pc := 58) d_R_begin_58 g_R_78 hR rfl ?_
      refine V.iload (pc := 61) d_R_begin_61 rfl ?_
      refine Vi.iconst (pc := 63) d_R_begin_63 ?_
      refine Vi.imul (pc := 64) d_R_begin_64 ?_
      refine V.iload (pc := 65) d_R_begin_65 rfl ?_
      refine Vi.iadd (pc := 67) d_R_begin_67 ?_
      refine Vi.iconst (pc := 68) d_R_begin_68 ?_
      refine Vr.ast (pc := 69) (n := 72) d_R_begin_69 hR (by decide) rfl (by first | assumption | decide | omega | (simp [up] <;> omega)) (fun hs hR => ?_)
      refine Vi.iinc (pc := 70) d_R_begin_70 rfl (by decide) ?_
      refine V.goto (pc := 73) (tgt := 51) d_R_begin_73 (by decide) ?_
      refine V.iload (pc := 51) d_R_begin_51 rfl ?_
      refine Vi.iconst (pc := 53) d_R_begin_53 ?_
      refine Vi.icmp_ge (pc := 54) (tgt := 76) d_R_begin_54 (by decide) (by first | assumption | decide | omega | (simp [up] <;> omega)) (by first | assumption | decide | omega | (simp [up] <;> omega)) (fun c_54 => ?_) (fun c_54 => ?_)
      · omega
      · first | refine V.aload_nR (pc := 57) d_R_begin_57 rfl ?_ | refine V.aload_n (pc := 57) d_R_begin_57 rfl ?_
        refine Vr.get (pc := 58) d_R_begin_58 g_R_78 hR rfl ?_
        refine V.iload (pc := 61) d_R_begin_61 rfl ?_
        refine Vi.iconst (pc := 63) d_R_begin_63 ?_
        refine Vi.imul (pc := 64) d_R_begin_64 ?_
        refine V.iload (pc := 65) d_R_begin_65 rfl ?_
        refine Vi.iadd (pc := 67) d_R_begin_67 ?_
        refine Vi.iconst (pc := 68) d_R_begin_68 ?_
        refine Vr.ast (pc := 69) (n := 72) d_R_begin_69 hR (by decide) rfl (by first | assumption | decide | omega | (simp [up] <;> omega)) (fun hs hR => ?_)
        refine Vi.iinc (pc := 70) d_R_begin_70 rfl (by decide) ?_
        refine V.goto (pc := 73) (tgt := 51) d_R_begin_73 (by decide) ?_
        refine V.iload (pc := 51) d_R_begin_51 rfl ?_
        refine Vi.iconst (pc := 53) d_R_begin_53 ?_
        refine Vi.icmp_ge (pc := 54) (tgt := 76) d_R_begin_54 (by decide) (by first | assumption | decide | omega | (simp [up] <;> omega)) (by first | assumption | decide | omega | (simp [up] <;> omega)) (fun c_54 => ?_) (fun c_54 => ?_)
        · have hR : RepR w mo ra (z_slots (z_begin0 S q s) (S 1 0)) g b hs := by simpa [z_slots] using hR
          first | refine V.aload_nR (pc := 76) d_R_begin_76 rfl ?_ | refine V.aload_n (pc := 76) d_R_begin_76 rfl ?_
          refine Vr.get (pc := 77) d_R_begin_77 g_R_75 hR rfl ?_
          refine V.iload (pc := 80) d_R_begin_80 rfl ?_
          refine Vi.iconst (pc := 82) d_R_begin_82 ?_
          refine Vr.ast (pc := 83) (n := 24) d_R_begin_83 hR (by decide) rfl (by first | assumption | decide | omega | (simp [up] <;> omega)) (fun hs hR => ?_)
          first | refine V.aload_nR (pc := 84) d_R_begin_84 rfl ?_ | refine V.aload_n (pc := 84) d_R_begin_84 rfl ?_
          refine V.iload (pc := 85) d_R_begin_85 rfl ?_
          refine V.iload_n (pc := 87) d_R_begin_87 rfl ?_
          refine Vi.iconst (pc := 88) d_R_begin_88 ?_
          refine Vi.iconst (pc := 89) d_R_begin_89 ?_
          refine Vi.iconst (pc := 90) d_R_begin_90 ?_
          refine V.callV (pc := 91) d_R_begin_91 Y_R_pushFrame l_R_150 wi_R_pushFrame wv_R_pushFrame (ci := 6) rfl rfl [_, _, _, _, _] hR.o rfl rfl ⟨by repeat (first | exact trivial | refine ⟨(by first | rfl | exact vrf_cat _), ?_⟩), Nat.le_of_ble_eq_true rfl⟩ ⟨⟨rfl, (by first | rfl | exact vrf_cat _), (by first | rfl | exact vrf_cat _), (by first | rfl | exact vrf_cat _), (by first | rfl | exact vrf_cat _), (by first | rfl | exact vrf_cat _), trivial⟩, Nat.le_of_ble_eq_true rfl⟩ (r_pushFrame hR (by omega) (by simp [up_s])) (fun v hs ho => ?_) (fun E hs ho => by simp at ho)
          obtain ⟨ho, hR⟩ := ho
          cases ho
          first | refine V.aload_nR (pc := 94) d_R_begin_94 rfl ?_ | refine V.aload_n (pc := 94) d_R_begin_94 rfl ?_
          refine V.iload (pc := 95) d_R_begin_95 rfl ?_
          refine Vi.iconst (pc := 97) d_R_begin_97 ?_
          refine V.callV (pc := 98) d_R_begin_98 Y_R_putReady l_R_154 wi_R_putReady wv_R_putReady (ci := 6) rfl rfl [_, _] hR.o rfl rfl ⟨by repeat (first | exact trivial | refine ⟨(by first | rfl | exact vrf_cat _), ?_⟩), Nat.le_of_ble_eq_true rfl⟩ ⟨⟨rfl, (by first | rfl | exact vrf_cat _), (by first | rfl | exact vrf_cat _), trivial⟩, Nat.le_of_ble_eq_true rfl⟩ (r_putReady hR (by omega) (by simp [z_pushFrame, z_slots, z_begin0, up]; omega)) (fun v hs ho => ?_) (fun E hs ho => by simp at ho)
          obtain ⟨ho, hR⟩ := ho
          cases ho
          refine V.iload (pc := 101) d_R_begin_101 rfl ?_
          refine Vi.ireturn (pc := 103) d_R_begin_103 rfl ?_
          exact ⟨rfl, hR⟩
        · omega
def z_start (S : js) (p : Int) : Int × Int × js := if p < 0 ∨ 9 < p then (1, 0, S) else if S 1 0 = 24 then (2, 0, S) else (0, S 1 0, z_begin S p (-1) 0)
theorem r_start {p : Int} (hR : RepR w mo ra S g b hs) (hp : jr p) (hJ : 0 ≤ S 1 0 ∧ S 1 0 ≤ 24) (hq : 0 ≤ S 7 0 ∧ (S 1 0 < 24 → S 7 0 < 24)) : V jcl w m_R_start (d + 2) 0 [(0, .ref mo), (1, .int (ii p))] [] hs (fun o hs' => o = .inl (some (.int (ii (z_start S p).2.1))) ∧ RepR w mo ra (up (z_start S p).2.2 0 0 (z_start S p).1) g b hs') := by
  first | refine V.aload_nR (pc := 0) d_R_start_0 rfl ?_ | refine V.aload_n (pc := 0) d_R_start_0 rfl ?_
  refine V.iload_n (pc := 1) d_R_start_1 rfl ?_
  refine Vi.iconst (pc := 2) d_R_start_2 ?_
  refine Vi.bipush (pc := 3) d_R_start_3 (by decide) ?_
  refine V.callV (pc := 5) d_R_start_5 Y_R_out l_R_136 wi_R_out wv_R_out (ci := 6) rfl rfl [_, _, _] hR.o rfl rfl ⟨by repeat (first | exact trivial | refine ⟨(by first | rfl | exact vrf_cat _), ?_⟩), Nat.le_of_ble_eq_true rfl⟩ ⟨⟨rfl, (by first | rfl | exact vrf_cat _), (by first | rfl | exact vrf_cat _), (by first | rfl | exact vrf_cat _), trivial⟩, Nat.le_of_ble_eq_true rfl⟩ (r_out (by assumption) (by decide) (by decide)) (fun v hs ho => ?_) (fun E hs ho => by simp at ho)
  obtain ⟨r_5, ho, hr_5, rfl⟩ := ho
  cases ho
  refine Vi.if_eq (pc := 8) (tgt := 17) d_R_start_8 (by decide) (by first | assumption | decide | omega | (simp [up] <;> omega)) (fun c_8 => ?_) (fun c_8 => ?_)
  · first | refine V.aload_nR (pc := 17) d_R_start_17 rfl ?_ | refine V.aload_n (pc := 17) d_R_start_17 rfl ?_
    refine Vr.get (pc := 18) d_R_start_18 g_R_13 hR rfl ?_
    refine Vi.bipush (pc := 21) d_R_start_21 (by decide) ?_
    refine Vi.icmp_ne (pc := 23) (tgt := 34) d_R_start_23 (by decide) (by first | assumption | decide | omega | (simp [up] <;> omega)) (by first | assumption | decide | omega | (simp [up] <;> omega)) (fun c_23 => ?_) (fun c_23 => ?_)
    · first | refine V.aload_nR (pc := 34) d_R_start_34 rfl ?_ | refine V.aload_n (pc := 34) d_R_start_34 rfl ?_
      first | refine V.aload_nR (pc := 35) d_R_start_35 rfl ?_ | refine V.aload_n (pc := 35) d_R_start_35 rfl ?_
      refine V.iload_n (pc := 36) d_R_start_36 rfl ?_
      refine Vi.iconst (pc := 37) d_R_start_37 ?_
      refine Vi.iconst (pc := 38) d_R_start_38 ?_
      refine V.callV (pc := 39) d_R_start_39 Y_R_begin l_R_158 wi_R_begin wv_R_begin (ci := 6) rfl rfl [_, _, _] hR.o rfl rfl ⟨by repeat (first | exact trivial | refine ⟨(by first | rfl | exact vrf_cat _), ?_⟩), Nat.le_of_ble_eq_true rfl⟩ ⟨⟨rfl, (by first | rfl | exact vrf_cat _), (by first | rfl | exact vrf_cat _), (by first | rfl | exact vrf_cat _), trivial⟩, Nat.le_of_ble_eq_true rfl⟩ (r_begin hR (by omega) (by omega)) (fun v hs ho => ?_) (fun E hs ho => by simp at ho)
      obtain ⟨ho, hR⟩ := ho
      cases ho
      refine V.callV (pc := 42) d_R_start_42 Y_R_fine l_R_147 wi_R_fine wv_R_fine (ci := 6) rfl rfl [_] hR.o rfl rfl ⟨by repeat (first | exact trivial | refine ⟨(by first | rfl | exact vrf_cat _), ?_⟩), Nat.le_of_ble_eq_true rfl⟩ ⟨⟨rfl, (by first | rfl | exact vrf_cat _), trivial⟩, Nat.le_of_ble_eq_true rfl⟩ (r_fine hR) (fun v hs ho => ?_) (fun E hs ho => by simp at ho)
      obtain ⟨ho, hR⟩ := ho
      cases ho
      refine Vi.ireturn (pc := 45) d_R_start_45 rfl ?_
      unfold z_start
      (repeat' split) <;> first | exact ⟨rfl, hR⟩ | (exfalso; omega)
    · first | refine V.aload_nR (pc := 26) d_R_start_26 rfl ?_ | refine V.aload_n (pc := 26) d_R_start_26 rfl ?_
      refine Vi.iconst (pc := 27) d_R_start_27 ?_
      refine V.callV (pc := 28) d_R_start_28 Y_R_refuse l_R_143 wi_R_refuse wv_R_refuse (ci := 6) rfl rfl [_] hR.o rfl rfl ⟨by repeat (first | exact trivial | refine ⟨(by first | rfl | exact vrf_cat _), ?_⟩), Nat.le_of_ble_eq_true rfl⟩ ⟨⟨rfl, (by first | rfl | exact vrf_cat _), trivial⟩, Nat.le_of_ble_eq_true rfl⟩ (r_refuse hR) (fun v hs ho => ?_) (fun E hs ho => by simp at ho)
      obtain ⟨ho, hR⟩ := ho
      cases ho
      refine V.goto (pc := 31) (tgt := 45) d_R_start_31 (by decide) ?_
      refine Vi.ireturn (pc := 45) d_R_start_45 rfl ?_
      unfold z_start
      (repeat' split) <;> first | exact ⟨rfl, hR⟩ | (exfalso; omega)
  · first | refine V.aload_nR (pc := 11) d_R_start_11 rfl ?_ | refine V.aload_n (pc := 11) d_R_start_11 rfl ?_
    refine Vi.iconst (pc := 12) d_R_start_12 ?_
    refine V.callV (pc := 13) d_R_start_13 Y_R_refuse l_R_143 wi_R_refuse wv_R_refuse (ci := 6) rfl rfl [_] hR.o rfl rfl ⟨by repeat (first | exact trivial | refine ⟨(by first | rfl | exact vrf_cat _), ?_⟩), Nat.le_of_ble_eq_true rfl⟩ ⟨⟨rfl, (by first | rfl | exact vrf_cat _), trivial⟩, Nat.le_of_ble_eq_true rfl⟩ (r_refuse hR) (fun v hs ho => ?_) (fun E hs ho => by simp at ho)
    obtain ⟨ho, hR⟩ := ho
    cases ho
    refine Vi.ireturn (pc := 16) d_R_start_16 rfl ?_
    unfold z_start
    (repeat' split) <;> first | exact ⟨rfl, hR⟩ | (exfalso; omega)
end R5
