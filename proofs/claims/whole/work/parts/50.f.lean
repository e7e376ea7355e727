/-! the face of the class -/
section KK
variable {w : jw} {d : Nat} {hs : jh} {am : Nat → Int → Nat} {C S T U : js} {g : Nat → Option va_E} {b : Nat × Nat} {j m x a c p n : Int}
theorem c_isWithin {v lo hi : Int} (hv : jr v) (hl : jr lo) (hh : jr hi) : V jcl w m_J_isWithin d 0 [(0, .int (ii v)), (1, .int (ii lo)), (2, .int (ii hi))] [] hs (fun o hs' => ∃ r : Int, o = .inl (some (.int (ii r))) ∧ (r = 1 ∧ lo ≤ v ∧ v ≤ hi ∨ r = 0 ∧ (v < lo ∨ hi < v)) ∧ hs' = hs) := by
  refine V.iload_n (pc := 0) d_J_isWithin_0 rfl ?_
  refine V.iload_n (pc := 1) d_J_isWithin_1 rfl ?_
  refine Vi.icmp_lt (pc := 2) (tgt := 14) d_J_isWithin_2 (by decide) (by first | assumption | decide | omega | (simp [up] <;> omega)) (by first | assumption | decide | omega | (simp [up] <;> omega)) (fun c_2 => ?_) (fun c_2 => ?_)
  · refine Vi.iconst (pc := 14) d_J_isWithin_14 ?_
    refine Vi.zreturn (pc := 15) d_J_isWithin_15 rfl (by omega) ?_
    exact ⟨_, rfl, by omega, rfl⟩
  · refine V.iload_n (pc := 5) d_J_isWithin_5 rfl ?_
    refine V.iload_n (pc := 6) d_J_isWithin_6 rfl ?_
    refine Vi.icmp_gt (pc := 7) (tgt := 14) d_J_isWithin_7 (by decide) (by first | assumption | decide | omega | (simp [up] <;> omega)) (by first | assumption | decide | omega | (simp [up] <;> omega)) (fun c_7 => ?_) (fun c_7 => ?_)
    · refine Vi.iconst (pc := 14) d_J_isWithin_14 ?_
      refine Vi.zreturn (pc := 15) d_J_isWithin_15 rfl (by omega) ?_
      exact ⟨_, rfl, by omega, rfl⟩
    · refine Vi.iconst (pc := 10) d_J_isWithin_10 ?_
      refine V.goto (pc := 11) (tgt := 15) d_J_isWithin_11 (by decide) ?_
      refine Vi.zreturn (pc := 15) d_J_isWithin_15 rfl (by omega) ?_
      exact ⟨_, rfl, by omega, rfl⟩
theorem c_isProgram (hp : jr p) : V jcl w m_J_isProgram (d + 1) 0 [(0, .int (ii p))] [] hs (fun o hs' => ∃ r : Int, o = .inl (some (.int (ii r))) ∧ (r = 1 ∧ 0 ≤ p ∧ p ≤ 9 ∨ r = 0 ∧ (p < 0 ∨ 9 < p)) ∧ hs' = hs) := by
  refine V.iload_n (pc := 0) d_J_isProgram_0 rfl ?_
  refine Vi.iconst (pc := 1) d_J_isProgram_1 ?_
  refine Vi.bipush (pc := 2) d_J_isProgram_2 (by decide) ?_
  refine V.callS (pc := 4) d_J_isProgram_4 Y_J_isWithin l_J_82 ws_J_isWithin wn_J_isWithin [_, _, _] rfl rfl ⟨by repeat (first | exact trivial | refine ⟨(by first | rfl | exact vrf_cat _), ?_⟩), Nat.le_of_ble_eq_true rfl⟩ ⟨⟨(by first | rfl | exact vrf_cat _), (by first | rfl | exact vrf_cat _), (by first | rfl | exact vrf_cat _), trivial⟩, Nat.le_of_ble_eq_true rfl⟩ (c_isWithin (by omega) (by decide) (by decide)) (fun v hs ho => ?_) (fun E hs ho => by first | (simp at ho; done) | (obtain ⟨_, _, ho, _⟩ := ho; cases ho))
  obtain ⟨r_4, ho, hr_4, rfl⟩ := ho
  cases ho
  refine Vi.zreturn (pc := 7) d_J_isProgram_7 rfl (by omega) ?_
  exact ⟨_, rfl, by omega, rfl⟩
theorem c_isSlot (hp : jr p) : V jcl w m_J_isSlot (d + 1) 0 [(0, .int (ii p))] [] hs (fun o hs' => ∃ r : Int, o = .inl (some (.int (ii r))) ∧ (r = 1 ∧ 0 ≤ p ∧ p ≤ 2 ∨ r = 0 ∧ (p < 0 ∨ 2 < p)) ∧ hs' = hs) := by
  refine V.iload_n (pc := 0) d_J_isSlot_0 rfl ?_
  refine Vi.iconst (pc := 1) d_J_isSlot_1 ?_
  refine Vi.iconst (pc := 2) d_J_isSlot_2 ?_
  refine V.callS (pc := 3) d_J_isSlot_3 Y_J_isWithin l_J_82 ws_J_isWithin wn_J_isWithin [_, _, _] rfl rfl ⟨by repeat (first | exact trivial | refine ⟨(by first | rfl | exact vrf_cat _), ?_⟩), Nat.le_of_ble_eq_true rfl⟩ ⟨⟨(by first | rfl | exact vrf_cat _), (by first | rfl | exact vrf_cat _), (by first | rfl | exact vrf_cat _), trivial⟩, Nat.le_of_ble_eq_true rfl⟩ (c_isWithin (by omega) (by decide) (by decide)) (fun v hs ho => ?_) (fun E hs ho => by first | (simp at ho; done) | (obtain ⟨_, _, ho, _⟩ := ho; cases ho))
  obtain ⟨r_3, ho, hr_3, rfl⟩ := ho
  cases ho
  refine Vi.zreturn (pc := 6) d_J_isSlot_6 rfl (by omega) ?_
  exact ⟨_, rfl, by omega, rfl⟩
theorem c_isOne (hx : jr x) (ha : jr a) (hc : jr c) : V jcl w m_A_isOne (d + 2) 0 [(0, .int (ii x)), (1, .int (ii a)), (2, .int (ii c))] [] hs (fun o hs' => ∃ r : Int, o = .inl (some (.int (ii r))) ∧ (r = 1 ∧ (0 ≤ x ∧ x ≤ 15) ∧ ¬ WR x a c ∨ r = 0 ∧ ((x < 0 ∨ 15 < x) ∨ WR x a c)) ∧ hs' = hs) := by
  refine V.iload_n (pc := 0) d_A_isOne_0 rfl ?_
  refine Vi.tsw (pc := 1) (tgt := 175) d_A_isOne_1 (by first | assumption | omega | (simp [up, up_f] <;> omega)) (by decide) (fun s_1 => ?_) (fun n_1 s_1 z_1 => ?_)
  · refine V.iload_n (pc := 175) d_A_isOne_175 rfl ?_
    refine Vi.iconst (pc := 176) d_A_isOne_176 ?_
    refine Vi.bipush (pc := 177) d_A_isOne_177 (by decide) ?_
    refine V.callSN (pc := 179) d_A_isOne_179 Y_J_isWithin l_A_9 ws_J_isWithin wn_J_isWithin [_, _, _] rfl rfl ⟨by repeat (first | exact trivial | refine ⟨(by first | rfl | exact vrf_cat _), ?_⟩), Nat.le_of_ble_eq_true rfl⟩ ⟨⟨(by first | rfl | exact vrf_cat _), (by first | rfl | exact vrf_cat _), (by first | rfl | exact vrf_cat _), trivial⟩, Nat.le_of_ble_eq_true rfl⟩ (c_isWithin (by assumption) (by decide) (by decide)) (fun v hs ho => ?_) (fun E hs ho => by first | (simp at ho; done) | (obtain ⟨_, _, ho, _⟩ := ho; cases ho))
    obtain ⟨r_179, ho, hr_179, rfl⟩ := ho
    cases ho
    refine Vi.zreturn (pc := 182) d_A_isOne_182 rfl (by omega) ?_
    exact ⟨_, rfl, by unfold WR; omega, rfl⟩
  · have z_1 : n_1 < 13 := z_1
    have q_1 : n_1 = 0 ∨ n_1 = 1 ∨ n_1 = 2 ∨ n_1 = 3 ∨ n_1 = 4 ∨ n_1 = 5 ∨ n_1 = 6 ∨ n_1 = 7 ∨ n_1 = 8 ∨ n_1 = 9 ∨ n_1 = 10 ∨ n_1 = 11 ∨ n_1 = 12 := by omega
    rcases q_1 with rfl | rfl | rfl | rfl | rfl | rfl | rfl | rfl | rfl | rfl | rfl | rfl | rfl
    · refine Vi.atpc (pc := 68) (by rfl) ?_
      simp at s_1
      refine V.iload_n (pc := 68) d_A_isOne_68 rfl ?_
      refine Vi.iconst (pc := 69) d_A_isOne_69 ?_
      refine Vi.bipush (pc := 70) d_A_isOne_70 (by decide) ?_
      refine V.callSN (pc := 72) d_A_isOne_72 Y_J_isWithin l_A_9 ws_J_isWithin wn_J_isWithin [_, _, _] rfl rfl ⟨by repeat (first | exact trivial | refine ⟨(by first | rfl | exact vrf_cat _), ?_⟩), Nat.le_of_ble_eq_true rfl⟩ ⟨⟨(by first | rfl | exact vrf_cat _), (by first | rfl | exact vrf_cat _), (by first | rfl | exact vrf_cat _), trivial⟩, Nat.le_of_ble_eq_true rfl⟩ (c_isWithin (by assumption) (by decide) (by decide)) (fun v hs ho => ?_) (fun E hs ho => by first | (simp at ho; done) | (obtain ⟨_, _, ho, _⟩ := ho; cases ho))
      obtain ⟨r_72, ho, hr_72, rfl⟩ := ho
      cases ho
      refine Vi.zreturn (pc := 75) d_A_isOne_75 rfl (by omega) ?_
      exact ⟨_, rfl, by unfold WR; omega, rfl⟩
    · refine Vi.atpc (pc := 175) (by rfl) ?_
      simp at s_1
      refine V.iload_n (pc := 175) d_A_isOne_175 rfl ?_
      refine Vi.iconst (pc := 176) d_A_isOne_176 ?_
      refine Vi.bipush (pc := 177) d_A_isOne_177 (by decide) ?_
      refine V.callSN (pc := 179) d_A_isOne_179 Y_J_isWithin l_A_9 ws_J_isWithin wn_J_isWithin [_, _, _] rfl rfl ⟨by repeat (first | exact trivial | refine ⟨(by first | rfl | exact vrf_cat _), ?_⟩), Nat.le_of_ble_eq_true rfl⟩ ⟨⟨(by first | rfl | exact vrf_cat _), (by first | rfl | exact vrf_cat _), (by first | rfl | exact vrf_cat _), trivial⟩, Nat.le_of_ble_eq_true rfl⟩ (c_isWithin (by assumption) (by decide) (by decide)) (fun v hs ho => ?_) (fun E hs ho => by first | (simp at ho; done) | (obtain ⟨_, _, ho, _⟩ := ho; cases ho))
      obtain ⟨r_179, ho, hr_179, rfl⟩ := ho
      cases ho
      refine Vi.zreturn (pc := 182) d_A_isOne_182 rfl (by omega) ?_
      exact ⟨_, rfl, by unfold WR; omega, rfl⟩
    · refine Vi.atpc (pc := 76) (by rfl) ?_
      simp at s_1
      refine V.iload_n (pc := 76) d_A_isOne_76 rfl ?_
      refine V.callSN (pc := 77) d_A_isOne_77 Y_J_isProgram l_A_13 ws_J_isProgram wn_J_isProgram [_] rfl rfl ⟨by repeat (first | exact trivial | refine ⟨(by first | rfl | exact vrf_cat _), ?_⟩), Nat.le_of_ble_eq_true rfl⟩ ⟨⟨(by first | rfl | exact vrf_cat _), trivial⟩, Nat.le_of_ble_eq_true rfl⟩ (c_isProgram (by assumption)) (fun v hs ho => ?_) (fun E hs ho => by first | (simp at ho; done) | (obtain ⟨_, _, ho, _⟩ := ho; cases ho))
      obtain ⟨r_77, ho, hr_77, rfl⟩ := ho
      cases ho
      refine Vi.if_eq (pc := 80) (tgt := 94) d_A_isOne_80 (by decide) (by first | assumption | decide | omega | (simp [up] <;> omega)) (fun c_80 => ?_) (fun c_80 => ?_)
      · refine Vi.iconst (pc := 94) d_A_isOne_94 ?_
        refine Vi.zreturn (pc := 95) d_A_isOne_95 rfl (by omega) ?_
        exact ⟨_, rfl, by unfold WR; omega, rfl⟩
      · refine V.iload_n (pc := 83) d_A_isOne_83 rfl ?_
        refine V.callSN (pc := 84) d_A_isOne_84 Y_J_isSlot l_A_17 ws_J_isSlot wn_J_isSlot [_] rfl rfl ⟨by repeat (first | exact trivial | refine ⟨(by first | rfl | exact vrf_cat _), ?_⟩), Nat.le_of_ble_eq_true rfl⟩ ⟨⟨(by first | rfl | exact vrf_cat _), trivial⟩, Nat.le_of_ble_eq_true rfl⟩ (c_isSlot (by assumption)) (fun v hs ho => ?_) (fun E hs ho => by first | (simp at ho; done) | (obtain ⟨_, _, ho, _⟩ := ho; cases ho))
        obtain ⟨r_84, ho, hr_84, rfl⟩ := ho
        cases ho
        refine Vi.if_eq (pc := 87) (tgt := 94) d_A_isOne_87 (by decide) (by first | assumption | decide | omega | (simp [up] <;> omega)) (fun c_87 => ?_) (fun c_87 => ?_)
        · refine Vi.iconst (pc := 94) d_A_isOne_94 ?_
          refine Vi.zreturn (pc := 95) d_A_isOne_95 rfl (by omega) ?_
          exact ⟨_, rfl, by unfold WR; omega, rfl⟩
        · refine Vi.iconst (pc := 90) d_A_isOne_90 ?_
          refine V.goto (pc := 91) (tgt := 95) d_A_isOne_91 (by decide) ?_
          refine Vi.zreturn (pc := 95) d_A_isOne_95 rfl (by omega) ?_
          exact ⟨_, rfl, by unfold WR; omega, rfl⟩
    · refine Vi.atpc (pc := 96) (by rfl) ?_
      simp at s_1
      refine V.iload_n (pc := 96) d_A_isOne_96 rfl ?_
      refine V.callSN (pc := 97) d_A_isOne_97 Y_J_isSlot l_A_17 ws_J_isSlot wn_J_isSlot [_] rfl rfl ⟨by repeat (first | exact trivial | refine ⟨(by first | rfl | exact vrf_cat _), ?_⟩), Nat.le_of_ble_eq_true rfl⟩ ⟨⟨(by first | rfl | exact vrf_cat _), trivial⟩, Nat.le_of_ble_eq_true rfl⟩ (c_isSlot (by assumption)) (fun v hs ho => ?_) (fun E hs ho => by first | (simp at ho; done) | (obtain ⟨_, _, ho, _⟩ := ho; cases ho))
      obtain ⟨r_97, ho, hr_97, rfl⟩ := ho
      cases ho
      refine Vi.zreturn (pc := 100) d_A_isOne_100 rfl (by omega) ?_
      exact ⟨_, rfl, by unfold WR; omega, rfl⟩
    · refine Vi.atpc (pc := 96) (by rfl) ?_
      simp at s_1
      refine V.iload_n (pc := 96) d_A_isOne_96 rfl ?_
      refine V.callSN (pc := 97) d_A_isOne_97 Y_J_isSlot l_A_17 ws_J_isSlot wn_J_isSlot [_] rfl rfl ⟨by repeat (first | exact trivial | refine ⟨(by first | rfl | exact vrf_cat _), ?_⟩), Nat.le_of_ble_eq_true rfl⟩ ⟨⟨(by first | rfl | exact vrf_cat _), trivial⟩, Nat.le_of_ble_eq_true rfl⟩ (c_isSlot (by assumption)) (fun v hs ho => ?_) (fun E hs ho => by first | (simp at ho; done) | (obtain ⟨_, _, ho, _⟩ := ho; cases ho))
      obtain ⟨r_97, ho, hr_97, rfl⟩ := ho
      cases ho
      refine Vi.zreturn (pc := 100) d_A_isOne_100 rfl (by omega) ?_
      exact ⟨_, rfl, by unfold WR; omega, rfl⟩
    · refine Vi.atpc (pc := 101) (by rfl) ?_
      simp at s_1
      refine V.iload_n (pc := 101) d_A_isOne_101 rfl ?_
      refine Vi.iconst (pc := 102) d_A_isOne_102 ?_
      refine Vi.icmp_eq (pc := 103) (tgt := 113) d_A_isOne_103 (by decide) (by first | assumption | decide | omega | (simp [up] <;> omega)) (by first | assumption | decide | omega | (simp [up] <;> omega)) (fun c_103 => ?_) (fun c_103 => ?_)
      · refine Vi.iconst (pc := 113) d_A_isOne_113 ?_
        refine V.goto (pc := 114) (tgt := 118) d_A_isOne_114 (by decide) ?_
        refine Vi.zreturn (pc := 118) d_A_isOne_118 rfl (by omega) ?_
        exact ⟨_, rfl, by unfold WR; omega, rfl⟩
      · refine V.iload_n (pc := 106) d_A_isOne_106 rfl ?_
        refine V.callSN (pc := 107) d_A_isOne_107 Y_J_isSlot l_A_17 ws_J_isSlot wn_J_isSlot [_] rfl rfl ⟨by repeat (first | exact trivial | refine ⟨(by first | rfl | exact vrf_cat _), ?_⟩), Nat.le_of_ble_eq_true rfl⟩ ⟨⟨(by first | rfl | exact vrf_cat _), trivial⟩, Nat.le_of_ble_eq_true rfl⟩ (c_isSlot (by assumption)) (fun v hs ho => ?_) (fun E hs ho => by first | (simp at ho; done) | (obtain ⟨_, _, ho, _⟩ := ho; cases ho))
        obtain ⟨r_107, ho, hr_107, rfl⟩ := ho
        cases ho
        refine Vi.if_eq (pc := 110) (tgt := 117) d_A_isOne_110 (by decide) (by first | assumption | decide | omega | (simp [up] <;> omega)) (fun c_110 => ?_) (fun c_110 => ?_)
        · refine Vi.iconst (pc := 117) d_A_isOne_117 ?_
          refine Vi.zreturn (pc := 118) d_A_isOne_118 rfl (by omega) ?_
          exact ⟨_, rfl, by unfold WR; omega, rfl⟩
        · refine Vi.iconst (pc := 113) d_A_isOne_113 ?_
          refine V.goto (pc := 114) (tgt := 118) d_A_isOne_114 (by decide) ?_
          refine Vi.zreturn (pc := 118) d_A_isOne_118 rfl (by omega) ?_
          exact ⟨_, rfl, by unfold WR; omega, rfl⟩
    · refine Vi.atpc (pc := 119) (by rfl) ?_
      simp at s_1
      refine V.iload_n (pc := 119) d_A_isOne_119 rfl ?_
      refine Vi.iconst (pc := 120) d_A_isOne_120 ?_
      refine Vi.bipush (pc := 121) d_A_isOne_121 (by decide) ?_
      refine V.callSN (pc := 123) d_A_isOne_123 Y_J_isWithin l_A_9 ws_J_isWithin wn_J_isWithin [_, _, _] rfl rfl ⟨by repeat (first | exact trivial | refine ⟨(by first | rfl | exact vrf_cat _), ?_⟩), Nat.le_of_ble_eq_true rfl⟩ ⟨⟨(by first | rfl | exact vrf_cat _), (by first | rfl | exact vrf_cat _), (by first | rfl | exact vrf_cat _), trivial⟩, Nat.le_of_ble_eq_true rfl⟩ (c_isWithin (by assumption) (by decide) (by decide)) (fun v hs ho => ?_) (fun E hs ho => by first | (simp at ho; done) | (obtain ⟨_, _, ho, _⟩ := ho; cases ho))
      obtain ⟨r_123, ho, hr_123, rfl⟩ := ho
      cases ho
      refine Vi.zreturn (pc := 126) d_A_isOne_126 rfl (by omega) ?_
      exact ⟨_, rfl, by unfold WR; omega, rfl⟩
    · refine Vi.atpc (pc := 127) (by rfl) ?_
      simp at s_1
      refine V.iload_n (pc := 127) d_A_isOne_127 rfl ?_
      refine V.callSN (pc := 128) d_A_isOne_128 Y_J_isProgram l_A_13 ws_J_isProgram wn_J_isProgram [_] rfl rfl ⟨by repeat (first | exact trivial | refine ⟨(by first | rfl | exact vrf_cat _), ?_⟩), Nat.le_of_ble_eq_true rfl⟩ ⟨⟨(by first | rfl | exact vrf_cat _), trivial⟩, Nat.le_of_ble_eq_true rfl⟩ (c_isProgram (by assumption)) (fun v hs ho => ?_) (fun E hs ho => by first | (simp at ho; done) | (obtain ⟨_, _, ho, _⟩ := ho; cases ho))
      obtain ⟨r_128, ho, hr_128, rfl⟩ := ho
      cases ho
      refine Vi.zreturn (pc := 131) d_A_isOne_131 rfl (by omega) ?_
      exact ⟨_, rfl, by unfold WR; omega, rfl⟩
    · refine Vi.atpc (pc := 127) (by rfl) ?_
      simp at s_1
      refine V.iload_n (pc := 127) d_A_isOne_127 rfl ?_
      refine V.callSN (pc := 128) d_A_isOne_128 Y_J_isProgram l_A_13 ws_J_isProgram wn_J_isProgram [_] rfl rfl ⟨by repeat (first | exact trivial | refine ⟨(by first | rfl | exact vrf_cat _), ?_⟩), Nat.le_of_ble_eq_true rfl⟩ ⟨⟨(by first | rfl | exact vrf_cat _), trivial⟩, Nat.le_of_ble_eq_true rfl⟩ (c_isProgram (by assumption)) (fun v hs ho => ?_) (fun E hs ho => by first | (simp at ho; done) | (obtain ⟨_, _, ho, _⟩ := ho; cases ho))
      obtain ⟨r_128, ho, hr_128, rfl⟩ := ho
      cases ho
      refine Vi.zreturn (pc := 131) d_A_isOne_131 rfl (by omega) ?_
      exact ⟨_, rfl, by unfold WR; omega, rfl⟩
    · refine Vi.atpc (pc := 132) (by rfl) ?_
      simp at s_1
      refine V.iload_n (pc := 132) d_A_isOne_132 rfl ?_
      refine Vi.iconst (pc := 133) d_A_isOne_133 ?_
      refine Vi.bipush (pc := 134) d_A_isOne_134 (by decide) ?_
      refine V.callSN (pc := 136) d_A_isOne_136 Y_J_isWithin l_A_9 ws_J_isWithin wn_J_isWithin [_, _, _] rfl rfl ⟨by repeat (first | exact trivial | refine ⟨(by first | rfl | exact vrf_cat _), ?_⟩), Nat.le_of_ble_eq_true rfl⟩ ⟨⟨(by first | rfl | exact vrf_cat _), (by first | rfl | exact vrf_cat _), (by first | rfl | exact vrf_cat _), trivial⟩, Nat.le_of_ble_eq_true rfl⟩ (c_isWithin (by assumption) (by decide) (by decide)) (fun v hs ho => ?_) (fun E hs ho => by first | (simp at ho; done) | (obtain ⟨_, _, ho, _⟩ := ho; cases ho))
      obtain ⟨r_136, ho, hr_136, rfl⟩ := ho
      cases ho
      refine Vi.if_eq (pc := 139) (tgt := 153) d_A_isOne_139 (by decide) (by first | assumption | decide | omega | (simp [up] <;> omega)) (fun c_139 => ?_) (fun c_139 => ?_)
      · refine Vi.iconst (pc := 153) d_A_isOne_153 ?_
        refine Vi.zreturn (pc := 154) d_A_isOne_154 rfl (by omega) ?_
        exact ⟨_, rfl, by unfold WR; omega, rfl⟩
      · refine V.iload_n (pc := 142) d_A_isOne_142 rfl ?_
        refine V.callSN (pc := 143) d_A_isOne_143 Y_J_isProgram l_A_13 ws_J_isProgram wn_J_isProgram [_] rfl rfl ⟨by repeat (first | exact trivial | refine ⟨(by first | rfl | exact vrf_cat _), ?_⟩), Nat.le_of_ble_eq_true rfl⟩ ⟨⟨(by first | rfl | exact vrf_cat _), trivial⟩, Nat.le_of_ble_eq_true rfl⟩ (c_isProgram (by assumption)) (fun v hs ho => ?_) (fun E hs ho => by first | (simp at ho; done) | (obtain ⟨_, _, ho, _⟩ := ho; cases ho))
        obtain ⟨r_143, ho, hr_143, rfl⟩ := ho
        cases ho
        refine Vi.if_eq (pc := 146) (tgt := 153) d_A_isOne_146 (by decide) (by first | assumption | decide | omega | (simp [up] <;> omega)) (fun c_146 => ?_) (fun c_146 => ?_)
        · refine Vi.iconst (pc := 153) d_A_isOne_153 ?_
          refine Vi.zreturn (pc := 154) d_A_isOne_154 rfl (by omega) ?_
          exact ⟨_, rfl, by unfold WR; omega, rfl⟩
        · refine Vi.iconst (pc := 149) d_A_isOne_149 ?_
          refine V.goto (pc := 150) (tgt := 154) d_A_isOne_150 (by decide) ?_
          refine Vi.zreturn (pc := 154) d_A_isOne_154 rfl (by omega) ?_
          exact ⟨_, rfl, by unfold WR; omega, rfl⟩
    · refine Vi.atpc (pc := 155) (by rfl) ?_
      simp at s_1
      refine V.iload_n (pc := 155) d_A_isOne_155 rfl ?_
      refine V.callSN (pc := 156) d_A_isOne_156 Y_J_isProgram l_A_13 ws_J_isProgram wn_J_isProgram [_] rfl rfl ⟨by repeat (first | exact trivial | refine ⟨(by first | rfl | exact vrf_cat _), ?_⟩), Nat.le_of_ble_eq_true rfl⟩ ⟨⟨(by first | rfl | exact vrf_cat _), trivial⟩, Nat.le_of_ble_eq_true rfl⟩ (c_isProgram (by assumption)) (fun v hs ho => ?_) (fun E hs ho => by first | (simp at ho; done) | (obtain ⟨_, _, ho, _⟩ := ho; cases ho))
      obtain ⟨r_156, ho, hr_156, rfl⟩ := ho
      cases ho
      refine Vi.if_eq (pc := 159) (tgt := 173) d_A_isOne_159 (by decide) (by first | assumption | decide | omega | (simp [up] <;> omega)) (fun c_159 => ?_) (fun c_159 => ?_)
      · refine Vi.iconst (pc := 173) d_A_isOne_173 ?_
        refine Vi.zreturn (pc := 174) d_A_isOne_174 rfl (by omega) ?_
        exact ⟨_, rfl, by unfold WR; omega, rfl⟩
      · refine V.iload_n (pc := 162) d_A_isOne_162 rfl ?_
        refine V.callSN (pc := 163) d_A_isOne_163 Y_J_isProgram l_A_13 ws_J_isProgram wn_J_isProgram [_] rfl rfl ⟨by repeat (first | exact trivial | refine ⟨(by first | rfl | exact vrf_cat _), ?_⟩), Nat.le_of_ble_eq_true rfl⟩ ⟨⟨(by first | rfl | exact vrf_cat _), trivial⟩, Nat.le_of_ble_eq_true rfl⟩ (c_isProgram (by assumption)) (fun v hs ho => ?_) (fun E hs ho => by first | (simp at ho; done) | (obtain ⟨_, _, ho, _⟩ := ho; cases ho))
        obtain ⟨r_163, ho, hr_163, rfl⟩ := ho
        cases ho
        refine Vi.if_eq (pc := 166) (tgt := 173) d_A_isOne_166 (by decide) (by first | assumption | decide | omega | (simp [up] <;> omega)) (fun c_166 => ?_) (fun c_166 => ?_)
        · refine Vi.iconst (pc := 173) d_A_isOne_173 ?_
          refine Vi.zreturn (pc := 174) d_A_isOne_174 rfl (by omega) ?_
          exact ⟨_, rfl, by unfold WR; omega, rfl⟩
        · refine Vi.iconst (pc := 169) d_A_isOne_169 ?_
          refine V.goto (pc := 170) (tgt := 174) d_A_isOne_170 (by decide) ?_
          refine Vi.zreturn (pc := 174) d_A_isOne_174 rfl (by omega) ?_
          exact ⟨_, rfl, by unfold WR; omega, rfl⟩
    · refine Vi.atpc (pc := 155) (by rfl) ?_
      simp at s_1
      refine V.iload_n (pc := 155) d_A_isOne_155 rfl ?_
      refine V.callSN (pc := 156) d_A_isOne_156 Y_J_isProgram l_A_13 ws_J_isProgram wn_J_isProgram [_] rfl rfl ⟨by repeat (first | exact trivial | refine ⟨(by first | rfl | exact vrf_cat _), ?_⟩), Nat.le_of_ble_eq_true rfl⟩ ⟨⟨(by first | rfl | exact vrf_cat _), trivial⟩, Nat.le_of_ble_eq_true rfl⟩ (c_isProgram (by assumption)) (fun v hs ho => ?_) (fun E hs ho => by first | (simp at ho; done) | (obtain ⟨_, _, ho, _⟩ := ho; cases ho))
      obtain ⟨r_156, ho, hr_156, rfl⟩ := ho
      cases ho
      refine Vi.if_eq (pc := 159) (tgt := 173) d_A_isOne_159 (by decide) (by first | assumption | decide | omega | (simp [up] <;> omega)) (fun c_159 => ?_) (fun c_159 => ?_)
      · refine Vi.iconst (pc := 173) d_A_isOne_173 ?_
        refine Vi.zreturn (pc := 174) d_A_isOne_174 rfl (by omega) ?_
        exact ⟨_, rfl, by unfold WR; omega, rfl⟩
      · refine V.iload_n (pc := 162) d_A_isOne_162 rfl ?_
        refine V.callSN (pc := 163) d_A_isOne_163 Y_J_isProgram l_A_13 ws_J_isProgram wn_J_isProgram [_] rfl rfl ⟨by repeat (first | exact trivial | refine ⟨(by first | rfl | exact vrf_cat _), ?_⟩), Nat.le_of_ble_eq_true rfl⟩ ⟨⟨(by first | rfl | exact vrf_cat _), trivial⟩, Nat.le_of_ble_eq_true rfl⟩ (c_isProgram (by assumption)) (fun v hs ho => ?_) (fun E hs ho => by first | (simp at ho; done) | (obtain ⟨_, _, ho, _⟩ := ho; cases ho))
        obtain ⟨r_163, ho, hr_163, rfl⟩ := ho
        cases ho
        refine Vi.if_eq (pc := 166) (tgt := 173) d_A_isOne_166 (by decide) (by first | assumption | decide | omega | (simp [up] <;> omega)) (fun c_166 => ?_) (fun c_166 => ?_)
        · refine Vi.iconst (pc := 173) d_A_isOne_173 ?_
          refine Vi.zreturn (pc := 174) d_A_isOne_174 rfl (by omega) ?_
          exact ⟨_, rfl, by unfold WR; omega, rfl⟩
        · refine Vi.iconst (pc := 169) d_A_isOne_169 ?_
          refine V.goto (pc := 170) (tgt := 174) d_A_isOne_170 (by decide) ?_
          refine Vi.zreturn (pc := 174) d_A_isOne_174 rfl (by omega) ?_
          exact ⟨_, rfl, by unfold WR; omega, rfl⟩
    · refine Vi.atpc (pc := 127) (by rfl) ?_
      simp at s_1
      refine V.iload_n (pc := 127) d_A_isOne_127 rfl ?_
      refine V.callSN (pc := 128) d_A_isOne_128 Y_J_isProgram l_A_13 ws_J_isProgram wn_J_isProgram [_] rfl rfl ⟨by repeat (first | exact trivial | refine ⟨(by first | rfl | exact vrf_cat _), ?_⟩), Nat.le_of_ble_eq_true rfl⟩ ⟨⟨(by first | rfl | exact vrf_cat _), trivial⟩, Nat.le_of_ble_eq_true rfl⟩ (c_isProgram (by assumption)) (fun v hs ho => ?_) (fun E hs ho => by first | (simp at ho; done) | (obtain ⟨_, _, ho, _⟩ := ho; cases ho))
      obtain ⟨r_128, ho, hr_128, rfl⟩ := ho
      cases ho
      refine Vi.zreturn (pc := 131) d_A_isOne_131 rfl (by omega) ?_
      exact ⟨_, rfl, by unfold WR; omega, rfl⟩
theorem c_numberOf {k : Int} (hC : RepC w am C g b hs) (hk : k < C 1 0) (hk1 : -1 ≤ k) : V jcl w m_J_numberOf d 0 [(0, va_rf (rj am k))] [] hs (fun o hs' => o = .inl (some (.int (ii k))) ∧ hs' = hs) := by
  first | refine V.aload_nR (pc := 0) d_J_numberOf_0 rfl ?_ | refine V.aload_n (pc := 0) d_J_numberOf_0 rfl ?_
  refine Vc.ifnonnull (pc := 1) (tgt := 8) d_J_numberOf_1 (by decide) (fun c_1 => ?_) (fun c_1 => ?_)
  · rw [rj_pos c_1]
    first | refine V.aload_nR (pc := 8) d_J_numberOf_8 rfl ?_ | refine V.aload_n (pc := 8) d_J_numberOf_8 rfl ?_
    refine Vc.get_B (pc := 9) d_J_numberOf_9 g_J_64 hC (by first | assumption | omega | (simp [up, up_f] <;> omega)) rfl ?_
    refine Vi.ireturn (pc := 12) d_J_numberOf_12 rfl ?_
    exact ⟨rfl, rfl⟩
  · refine Vi.iconst (pc := 4) d_J_numberOf_4 ?_
    refine V.goto (pc := 5) (tgt := 12) d_J_numberOf_5 (by decide) ?_
    refine Vi.ireturn (pc := 12) d_J_numberOf_12 rfl ?_
    exact ⟨by rw [show k = -1 by omega], rfl⟩
theorem c_Padd (hC : RepC w am C g b hs) (hp : 0 ≤ p ∧ p < 10) (hl : 0 ≤ C 11 p ∧ C 11 p < 8) : V jcl w m_P_add d 0 [(0, .ref (am 6 p)), (1, .int (ii x)), (2, .int (ii a)), (3, .int (ii c))] [] hs (fun o hs' => o = .inl none ∧ RepC w am (z_actS C p x a c) g b hs') := by
  first | refine V.aload_nR (pc := 0) d_P_add_0 rfl ?_ | refine V.aload_n (pc := 0) d_P_add_0 rfl ?_
  refine Vc.get_P (pc := 1) d_P_add_1 g_P_21 hC (by first | assumption | omega | (simp [up, up_f] <;> omega)) rfl ?_
  refine Vi.bipush (pc := 4) d_P_add_4 (by decide) ?_
  refine Vi.icmp_ge (pc := 6) (tgt := 49) d_P_add_6 (by decide) (by first | assumption | decide | omega | (simp [up] <;> omega)) (by first | assumption | decide | omega | (simp [up] <;> omega)) (fun c_6 => ?_) (fun c_6 => ?_)
  · refine V.return_ (pc := 49) d_P_add_49 rfl ?_
    first | omega | exact ⟨rfl, by simpa [z_actS, up_f] using hC⟩
  · first | refine V.aload_nR (pc := 9) d_P_add_9 rfl ?_ | refine V.aload_n (pc := 9) d_P_add_9 rfl ?_
    refine Vc.get_P (pc := 10) d_P_add_10 g_P_9 hC (by first | assumption | omega | (simp [up, up_f] <;> omega)) rfl ?_
    first | refine V.aload_nR (pc := 13) d_P_add_13 rfl ?_ | refine V.aload_n (pc := 13) d_P_add_13 rfl ?_
    refine Vc.get_P (pc := 14) d_P_add_14 g_P_21 hC (by first | assumption | omega | (simp [up, up_f] <;> omega)) rfl ?_
    refine V.iload_n (pc := 17) d_P_add_17 rfl ?_
    refine Vc.ast_kinds (pc := 18) d_P_add_18 hC (by first | assumption | omega | (simp [up, up_f] <;> omega)) (by first | assumption | omega | (simp [up, up_f] <;> omega)) (fun hs hC => ?_)
    first | refine V.aload_nR (pc := 19) d_P_add_19 rfl ?_ | refine V.aload_n (pc := 19) d_P_add_19 rfl ?_
    refine Vc.get_P (pc := 20) d_P_add_20 g_P_15 hC (by first | assumption | omega | (simp [up, up_f] <;> omega)) rfl ?_
    first | refine V.aload_nR (pc := 23) d_P_add_23 rfl ?_ | refine V.aload_n (pc := 23) d_P_add_23 rfl ?_
    refine Vc.get_P (pc := 24) d_P_add_24 g_P_21 hC (by first | assumption | omega | (simp [up, up_f] <;> omega)) rfl ?_
    refine V.iload_n (pc := 27) d_P_add_27 rfl ?_
    refine Vc.ast_as (pc := 28) d_P_add_28 hC (by first | assumption | omega | (simp [up, up_f] <;> omega)) (by first | assumption | omega | (simp [up, up_f] <;> omega)) (fun hs hC => ?_)
    first | refine V.aload_nR (pc := 29) d_P_add_29 rfl ?_ | refine V.aload_n (pc := 29) d_P_add_29 rfl ?_
    refine Vc.get_P (pc := 30) d_P_add_30 g_P_18 hC (by first | assumption | omega | (simp [up, up_f] <;> omega)) rfl ?_
    first | refine V.aload_nR (pc := 33) d_P_add_33 rfl ?_ | refine V.aload_n (pc := 33) d_P_add_33 rfl ?_
    refine Vc.get_P (pc := 34) d_P_add_34 g_P_21 hC (by first | assumption | omega | (simp [up, up_f] <;> omega)) rfl ?_
    refine V.iload_n (pc := 37) d_P_add_37 rfl ?_
    refine Vc.ast_bs (pc := 38) d_P_add_38 hC (by first | assumption | omega | (simp [up, up_f] <;> omega)) (by first | assumption | omega | (simp [up, up_f] <;> omega)) (fun hs hC => ?_)
    first | refine V.aload_nR (pc := 39) d_P_add_39 rfl ?_ | refine V.aload_n (pc := 39) d_P_add_39 rfl ?_
    refine V.dup (pc := 40) d_P_add_40 (by first | rfl | exact vrf_cat _) ?_
    refine Vc.get_P (pc := 41) d_P_add_41 g_P_21 hC (by first | assumption | omega | (simp [up, up_f] <;> omega)) rfl ?_
    refine Vi.iconst (pc := 44) d_P_add_44 ?_
    refine Vi.iadd (pc := 45) d_P_add_45 ?_
    refine Vc.put_P3 (pc := 46) d_P_add_46 f_P_21 hC (by first | assumption | omega | (simp [up, up_f] <;> omega)) (fun hs hC => ?_)
    refine V.return_ (pc := 49) d_P_add_49 rfl ?_
    first | omega | exact ⟨rfl, by simpa [z_actS, up_f] using hC⟩
theorem RepC.le {b' : Nat × Nat} (hC : RepC w am C g b hs) (h : b'.1 ≤ b.1 ∧ b'.2 ≤ b.2) : RepC w am C g b' hs := ⟨⟨by have := hC.1.1; omega, by have := hC.1.2; omega⟩, hC.2⟩
theorem PR.le {b' : Nat × Nat} (hP : PR w am S g b hs) (h : b'.1 ≤ b.1 ∧ b'.2 ≤ b.2) : PR w am S g b' hs := by
  obtain ⟨C, hC, hA, h6⟩ := hP
  exact ⟨C, hC.le h, hA, h6⟩
theorem PR.thr (hP : PR w am S g b hs) (h1 : 1 ≤ b.1) (h6 : 6 ≤ b.2) : PR w am S g (b.1 - 1, b.2 - 6) (hs.1, hs.2.1 - 1, hs.2.2 - 6) := by
  obtain ⟨C, hC, hA, h66⟩ := hP
  exact ⟨C, ⟨⟨by have := hC.1.1; show b.1 - 1 + _ ≤ hs.2.1 - 1; omega, by have := hC.1.2; show b.2 - 6 + _ ≤ hs.2.2 - 6; omega⟩, hC.2⟩, hA, h66⟩
theorem PR.room (hP : PR w am S g b hs) : b.1 ≤ hs.2.1 ∧ b.2 ≤ hs.2.2 := by
  obtain ⟨C, hC, hA, h66⟩ := hP
  exact ⟨by have := hC.1.1; omega, by have := hC.1.2; omega⟩
/-- the names of what is thrown, by their codes -/
def xA (k : Int) : String := if k = 1 then "java/lang/IllegalArgumentException" else if k = 2 then "java/lang/IllegalStateException" else if k = 3 then "java/lang/ArithmeticException" else "java/util/NoSuchElementException"
def xC (k : Int) : String := if k = 1 then "java/lang/IllegalArgumentException" else "java/util/NoSuchElementException"
def xN (_ : Int) : String := "java/util/NoSuchElementException"
/-- a call's end: the state T, the code and the answer kv -/
def Fz (w : jw) (th : Nat) (g : Nat → Option va_E) (b : Nat × Nat) (T : js) (nm : Int → String) (kv : Int × Int) (o : jo) (hs' : jh) : Prop := ∃ am', am' 0 0 = th ∧ PR w am' T g (b.1 - 1, b.2 - 6) hs' ∧ (kv.1 = 0 ∧ o = .inl (some (.int (ii kv.2))) ∨ 0 < kv.1 ∧ o = .inr (nm kv.1))
theorem Fz.ok {nm : Int → String} {v : Int} (hP : PR w am S g b hs) : Fz w (am 0 0) g b S nm (0, v) (.inl (some (.int (ii v)))) hs := ⟨am, rfl, hP.le ⟨by show b.1 - 1 ≤ _; omega, by show b.2 - 6 ≤ _; omega⟩, Or.inl ⟨rfl, rfl⟩⟩
theorem Fz.no {nm : Int → String} {k v : Int} (hP : PR w am S g b hs) (h1 : 1 ≤ b.1) (h6 : 6 ≤ b.2) (hk : 0 < k) : Fz w (am 0 0) g b S nm (k, v) (.inr (nm k)) (hs.1, hs.2.1 - 1, hs.2.2 - 6) := ⟨am, rfl, hP.thr h1 h6, Or.inr ⟨hk, rfl⟩⟩
theorem f_act (hP : PR w am S g b hs) (hI : Iv S) (hb : 1 ≤ b.1 ∧ 6 ≤ b.2) (hp : jr p) (hx : jr x) (ha : jr a) (hc : jr c) : V jcl w m_J_act (d + 6) 0 [(0, .ref (am 0 0)), (1, .int (ii p)), (2, .int (ii x)), (3, .int (ii a)), (4, .int (ii c))] [] hs (Fz w (am 0 0) g b (z_act S p x a c).2.2 xA ((z_act S p x a c).1, (z_act S p x a c).2.1)) := by
  have hP' := hP
  have hrm := hP.room
  obtain ⟨C, hC, hA, h6⟩ := hP
  have h11 : ∀ p, C 11 p = S 11 p := fun p => hA.a1 11 p (by unfold cm; omega)
  have hsz : 0 ≤ p ∧ p < 10 → 0 ≤ S 11 p ∧ S 11 p ≤ 8 := fun z => hI.pg.1 p z.1 z.2
  have iae : ((p < 0 ∨ 9 < p) ∨ (x < 0 ∨ 15 < x) ∨ WR x a c) → V jcl w m_J_act (d + 6) 17 [(0, .ref (am 0 0))] [] hs (Fz w (am 0 0) g b (z_act S p x a c).2.2 xA ((z_act S p x a c).1, (z_act S p x a c).2.1)) := by
    intro z
    have e : z_act S p x a c = (1, 0, S) := by
      unfold z_act
      rw [if_pos]
      rcases z with z | z | z
      · exact Or.inl z
      · exact Or.inr (Or.inl z)
      · exact Or.inr (Or.inr (WRb_iff.2 z))
    rw [e]
    refine V.throw0 (pc := 17) d_J_act_17 d_J_act_20 d_J_act_21 d_J_act_24 x_J_43 rfl (by omega) (by omega) (by omega) (Nat.le_of_ble_eq_true rfl) ?_
    exact Fz.no (k := 1) hP' hb.1 hb.2 (by omega)
  refine V.iload_n (pc := 0) d_J_act_0 rfl ?_
  refine V.callS (pc := 1) d_J_act_1 Y_J_isProgram l_J_33 ws_J_isProgram wn_J_isProgram [_] rfl rfl ⟨by repeat (first | exact trivial | refine ⟨(by first | rfl | exact vrf_cat _), ?_⟩), Nat.le_of_ble_eq_true rfl⟩ ⟨⟨(by first | rfl | exact vrf_cat _), trivial⟩, Nat.le_of_ble_eq_true rfl⟩ (c_isProgram hp) (fun v hs ho => ?_) (fun E hs ho => by first | (simp at ho; done) | (obtain ⟨_, _, ho, _⟩ := ho; cases ho))
  obtain ⟨r_1, ho, hr_1, rfl⟩ := ho
  cases ho
  refine Vi.if_eq (pc := 4) (tgt := 17) d_J_act_4 (by decide) (by omega) (fun c_4 => ?_) (fun c_4 => ?_)
  · exact V.lop (iae (Or.inl (by omega))) ⟨rfl, trivial⟩
  · refine V.iload_n (pc := 7) d_J_act_7 rfl ?_
    refine V.iload_n (pc := 8) d_J_act_8 rfl ?_
    refine V.iload (pc := 9) d_J_act_9 rfl ?_
    refine V.callS (pc := 11) d_J_act_11 Y_A_isOne l_J_37 ws_A_isOne wn_A_isOne [_, _, _] rfl rfl ⟨by repeat (first | exact trivial | refine ⟨(by first | rfl | exact vrf_cat _), ?_⟩), Nat.le_of_ble_eq_true rfl⟩ ⟨⟨(by first | rfl | exact vrf_cat _), (by first | rfl | exact vrf_cat _), (by first | rfl | exact vrf_cat _), trivial⟩, Nat.le_of_ble_eq_true rfl⟩ (c_isOne (d := d + 3) hx ha hc) (fun v hs ho => ?_) (fun E hs ho => by first | (simp at ho; done) | (obtain ⟨_, _, ho, _⟩ := ho; cases ho))
    obtain ⟨r_11, ho, hr_11, rfl⟩ := ho
    cases ho
    refine Vi.if_ne (pc := 14) (tgt := 25) d_J_act_14 (by decide) (by omega) (fun c_14 => ?_) (fun c_14 => ?_)
    · have hok : (0 ≤ x ∧ x ≤ 15) ∧ ¬ WR x a c := by
        rcases hr_11 with z | z
        · exact z.2
        · omega
      have hp9 : 0 ≤ p ∧ p < 10 := by omega
      have hs8 := hsz hp9
      have hnot : ¬ ((p < 0 ∨ 9 < p) ∨ (x < 0 ∨ 15 < x) ∨ WRb x a c = true) := by
        intro z
        rcases z with z | z | z
        · omega
        · omega
        · exact hok.2 (WRb_iff.1 z)
      clear hr_11
      first | refine V.aload_nR (pc := 25) d_J_act_25 rfl ?_ | refine V.aload_n (pc := 25) d_J_act_25 rfl ?_
      refine Vc.get_J (pc := 26) d_J_act_26 g_J_11 hC rfl ?_
      refine V.iload_n (pc := 29) d_J_act_29 rfl ?_
      refine Vc.ald_programs (pc := 30) d_J_act_30 hC  (by first | assumption | omega | (simp [up, up_f] <;> omega)) ?_
      first | refine V.astoreR (pc := 31) d_J_act_31 (by decide) ?_ | refine V.astore (pc := 31) d_J_act_31 (by decide) ?_
      first | refine V.aloadR (pc := 33) d_J_act_33 rfl ?_ | refine V.aload (pc := 33) d_J_act_33 rfl ?_
      refine Vc.get_P (pc := 35) d_J_act_35 g_J_46 hC (by first | assumption | omega | (simp [up, up_f] <;> omega)) rfl ?_
      rw [h11]
      refine Vi.bipush (pc := 38) d_J_act_38 (by decide) ?_
      refine Vi.icmp_lt (pc := 40) (tgt := 51) d_J_act_40 (by decide) (by first | assumption | decide | omega | (simp [up] <;> omega)) (by first | assumption | decide | omega | (simp [up] <;> omega)) (fun c_40 => ?_) (fun c_40 => ?_)
      · have e : z_act S p x a c = (0, S 11 p + 1, z_actS S p x a c) := by
          unfold z_act
          rw [if_neg hnot, if_neg (by omega)]
        rw [e]
        have e11 : z_actS C p x a c 11 p = S 11 p + 1 := by simp [z_actS, up, h11]
        have eS : Ag (z_actS C p x a c) (z_actS S p x a c) := by
          unfold z_actS
          rw [h11]
          exact (((hA.cm1 (by omega)).cm1 (by omega)).cm1 (by omega)).cm1 (by omega)
        have h62 : A6 (z_actS C p x a c) := h6.cg fun f i hf => by
          unfold z_actS
          rw [up_f (by omega), up_f (by omega), up_f (by omega), up_f (by omega)]
        first | refine V.aloadR (pc := 51) d_J_act_51 rfl ?_ | refine V.aload (pc := 51) d_J_act_51 rfl ?_
        refine V.iload_n (pc := 53) d_J_act_53 rfl ?_
        refine V.iload_n (pc := 54) d_J_act_54 rfl ?_
        refine V.iload (pc := 55) d_J_act_55 rfl ?_
        refine V.callV (pc := 57) d_J_act_57 Y_P_add l_J_53 wi_P_add wv_P_add (ci := 1) rfl rfl [_, _, _] (hC.oP (by first | assumption | omega | (simp [up, up_f] <;> omega))) rfl rfl ⟨by repeat (first | exact trivial | refine ⟨(by first | rfl | exact vrf_cat _), ?_⟩), Nat.le_of_ble_eq_true rfl⟩ ⟨⟨rfl, (by first | rfl | exact vrf_cat _), (by first | rfl | exact vrf_cat _), (by first | rfl | exact vrf_cat _), trivial⟩, Nat.le_of_ble_eq_true rfl⟩ (c_Padd hC hp9 (by rw [h11]; omega)) (fun v hs ho => ?_) (fun E hs ho => by first | (simp at ho; done) | (obtain ⟨_, _, ho, _⟩ := ho; cases ho))
        obtain ⟨ho, hC⟩ := ho
        cases ho
        have hP2 : PR w am (z_actS S p x a c) g b hs := ⟨_, hC, eS, h62⟩
        generalize z_actS C p x a c = D at hC e11
        first | refine V.aloadR (pc := 60) d_J_act_60 rfl ?_ | refine V.aload (pc := 60) d_J_act_60 rfl ?_
        refine Vc.get_P (pc := 62) d_J_act_62 g_J_46 hC (by first | assumption | omega | (simp [up, up_f] <;> omega)) rfl ?_
        rw [e11]
        refine Vi.ireturn (pc := 65) d_J_act_65 rfl ?_
        exact Fz.ok hP2
      · have e : z_act S p x a c = (2, 0, S) := by
          unfold z_act
          rw [if_neg hnot, if_pos (by omega)]
        rw [e]
        refine V.throw0 (pc := 43) d_J_act_43 d_J_act_46 d_J_act_47 d_J_act_50 x_J_50 rfl (by omega) (by omega) (by omega) (Nat.le_of_ble_eq_true rfl) ?_
        exact Fz.no (k := 2) hP' hb.1 hb.2 (by omega)
    · refine V.lop (iae (Or.inr ?_)) ⟨rfl, trivial⟩
      rcases hr_11 with z | z
      · omega
      · exact z.2
theorem f_start (hP : PR w am S g b hs) (hI : Iv S) (hb : 1 ≤ b.1 ∧ 6 ≤ b.2) (hp : jr p) : V jcl w m_J_start (d + 6) 0 [(0, .ref (am 0 0)), (1, .int (ii p))] [] hs (Fz w (am 0 0) g b (z_start S p).2.2 xA ((z_start S p).1, (z_start S p).2.1)) := by
  have hP' := hP
  have hrm := hP.room
  have ha2 := hP.a2
  obtain ⟨C, hC, hA, h6⟩ := hP
  have hC1 := hA.j1
  have hJ := hI.J
  refine V.iload_n (pc := 0) d_J_start_0 rfl ?_
  refine V.callS (pc := 1) d_J_start_1 Y_J_isProgram l_J_33 ws_J_isProgram wn_J_isProgram [_] rfl rfl ⟨by repeat (first | exact trivial | refine ⟨(by first | rfl | exact vrf_cat _), ?_⟩), Nat.le_of_ble_eq_true rfl⟩ ⟨⟨(by first | rfl | exact vrf_cat _), trivial⟩, Nat.le_of_ble_eq_true rfl⟩ (c_isProgram hp) (fun v hs ho => ?_) (fun E hs ho => by first | (simp at ho; done) | (obtain ⟨_, _, ho, _⟩ := ho; cases ho))
  obtain ⟨r_1, ho, hr_1, rfl⟩ := ho
  cases ho
  refine Vi.if_ne (pc := 4) (tgt := 15) d_J_start_4 (by decide) (by omega) (fun c_4 => ?_) (fun c_4 => ?_)
  · have hp9 : 0 ≤ p ∧ p < 10 := by omega
    first | refine V.aload_nR (pc := 15) d_J_start_15 rfl ?_ | refine V.aload_n (pc := 15) d_J_start_15 rfl ?_
    refine Vc.get_J (pc := 16) d_J_start_16 g_J_57 hC rfl ?_
    refine Vi.bipush (pc := 19) d_J_start_19 (by decide) ?_
    refine Vi.icmp_lt (pc := 21) (tgt := 32) d_J_start_21 (by decide) (by first | assumption | decide | omega | (simp [up] <;> omega)) (by first | assumption | decide | omega | (simp [up] <;> omega)) (fun c_21 => ?_) (fun c_21 => ?_)
    · have hq : 0 ≤ S 7 0 ∧ S 7 0 < 24 := ⟨hI.gd.2.2.1.1, hI.gd.2.2.room hJ.2 (k := S 1 0) (by omega) (fun i z1 z2 e => by have := (hI.gd.2.2.2.1 i z1 z2).2.1; omega)⟩
      have e : z_start S p = (0, S 1 0, z_begin S p (-1) 0) := by
        unfold z_start
        rw [if_neg (by omega), if_neg (by omega)]
      rw [e]
      have kb := k_begin (d := d + 2) (p := -1) (s := 0) (pr := p) hP' hI (by omega) hq (by omega)
      rw [rj_neg (by decide)] at kb
      first | refine V.aload_nR (pc := 32) d_J_start_32 rfl ?_ | refine V.aload_n (pc := 32) d_J_start_32 rfl ?_
      refine V.null (pc := 33) d_J_start_33 ?_
      refine Vi.iconst (pc := 34) d_J_start_34 ?_
      first | refine V.aload_nR (pc := 35) d_J_start_35 rfl ?_ | refine V.aload_n (pc := 35) d_J_start_35 rfl ?_
      refine Vc.get_J (pc := 36) d_J_start_36 g_J_11 hC rfl ?_
      refine V.iload_n (pc := 39) d_J_start_39 rfl ?_
      refine Vc.ald_programs (pc := 40) d_J_start_40 hC  (by first | assumption | omega | (simp [up, up_f] <;> omega)) ?_
      refine V.callV (pc := 41) d_J_start_41 Y_J_begin l_J_60 wi_J_begin wv_J_begin (ci := 0) rfl rfl [_, _, _] hC.oJ rfl rfl ⟨by repeat (first | exact trivial | refine ⟨(by first | rfl | exact vrf_cat _), ?_⟩), Nat.le_of_ble_eq_true rfl⟩ ⟨⟨rfl, (by first | rfl | exact vrf_cat _), (by first | rfl | exact vrf_cat _), (by first | rfl | exact vrf_cat _), trivial⟩, Nat.le_of_ble_eq_true rfl⟩ (kb) (fun v hs ho => ?_) (fun E hs ho => by first | (simp at ho; done) | (obtain ⟨_, _, ho, _⟩ := ho; cases ho))
      obtain ⟨am', ho, hE, hP2⟩ := ho
      cases ho
      have hP2' := hP2
      obtain ⟨D, hC, hA2, h62⟩ := hP2
      have hD1 := hA2.j1
      have e1 := (z_begin_f (S := S) (pr := p) (p := -1) (s := 0)).1
      refine Vc.get_B (pc := 44) d_J_start_44 g_J_64 hC (by first | assumption | omega | (simp [up, up_f] <;> omega)) rfl ?_
      refine Vi.ireturn (pc := 47) d_J_start_47 rfl ?_
      rw [← hE 0 0 (vdJ (by decide))]
      exact Fz.ok hP2'
    · have e : z_start S p = (2, 0, S) := by
        unfold z_start
        rw [if_neg (by omega), if_pos (by omega)]
      rw [e]
      refine V.throw0 (pc := 24) d_J_start_24 d_J_start_27 d_J_start_28 d_J_start_31 x_J_50 rfl (by omega) (by omega) (by omega) (Nat.le_of_ble_eq_true rfl) ?_
      exact Fz.no (k := 2) hP' hb.1 hb.2 (by omega)
  · have e : z_start S p = (1, 0, S) := by
      unfold z_start
      rw [if_pos (by omega)]
    rw [e]
    refine V.throw0 (pc := 7) d_J_start_7 d_J_start_10 d_J_start_11 d_J_start_14 x_J_43 rfl (by omega) (by omega) (by omega) (Nat.le_of_ble_eq_true rfl) ?_
    exact Fz.no (k := 1) hP' hb.1 hb.2 (by omega)
theorem c_jobOf (hP : PR w am S g b hs) (hb : 1 ≤ b.1 ∧ 6 ≤ b.2) (hJ : S 1 0 ≤ 24 ∧ 0 ≤ S 1 0) (hj : jr j) : V jcl w m_J_jobOfNumber (d + 6) 0 [(0, .ref (am 0 0)), (1, .int (ii j))] [] hs (fun o hs' => ((0 ≤ j ∧ j < S 1 0) ∧ o = .inl (some (.ref (am 10 j))) ∧ hs' = hs) ∨ ((j < 0 ∨ S 1 0 ≤ j) ∧ o = .inr "java/lang/IllegalArgumentException" ∧ hs' = (hs.1, hs.2.1 - 1, hs.2.2 - 6))) := by
  have hrm := hP.room
  obtain ⟨C, hC, hA, h6⟩ := hP
  have hC1 := hA.j1
  refine V.iload_n (pc := 0) d_J_jobOfNumber_0 rfl ?_
  refine Vi.if_lt (pc := 1) (tgt := 12) d_J_jobOfNumber_1 (by decide) (by first | assumption | decide | omega | (simp [up] <;> omega)) (fun c_1 => ?_) (fun c_1 => ?_)
  · refine V.throw0 (pc := 12) d_J_jobOfNumber_12 d_J_jobOfNumber_15 d_J_jobOfNumber_16 d_J_jobOfNumber_19 x_J_43 rfl (by omega) (by omega) (by omega) (Nat.le_of_ble_eq_true rfl) ?_
    first | exact Or.inl ⟨by omega, rfl, rfl⟩ | exact Or.inr ⟨by omega, rfl, rfl⟩
  · refine V.iload_n (pc := 4) d_J_jobOfNumber_4 rfl ?_
    first | refine V.aload_nR (pc := 5) d_J_jobOfNumber_5 rfl ?_ | refine V.aload_n (pc := 5) d_J_jobOfNumber_5 rfl ?_
    refine Vc.get_J (pc := 6) d_J_jobOfNumber_6 g_J_57 hC rfl ?_
    refine Vi.icmp_lt (pc := 9) (tgt := 20) d_J_jobOfNumber_9 (by decide) (by first | assumption | decide | omega | (simp [up] <;> omega)) (by first | assumption | decide | omega | (simp [up] <;> omega)) (fun c_9 => ?_) (fun c_9 => ?_)
    · first | refine V.aload_nR (pc := 20) d_J_jobOfNumber_20 rfl ?_ | refine V.aload_n (pc := 20) d_J_jobOfNumber_20 rfl ?_
      refine Vc.get_J (pc := 21) d_J_jobOfNumber_21 g_J_18 hC rfl ?_
      refine V.iload_n (pc := 24) d_J_jobOfNumber_24 rfl ?_
      refine Vc.ald_jobs (pc := 25) d_J_jobOfNumber_25 hC (by first | assumption | omega | (simp [up, up_f] <;> omega)) (by first | assumption | omega | (simp [up, up_f] <;> omega)) ?_
      first | refine Vc.areturnR (pc := 26) d_J_jobOfNumber_26 rfl ?_ | refine V.areturn (pc := 26) d_J_jobOfNumber_26 rfl ?_
      first | exact Or.inl ⟨by omega, rfl, rfl⟩ | exact Or.inr ⟨by omega, rfl, rfl⟩
    · refine V.throw0 (pc := 12) d_J_jobOfNumber_12 d_J_jobOfNumber_15 d_J_jobOfNumber_16 d_J_jobOfNumber_19 x_J_43 rfl (by omega) (by omega) (by omega) (Nat.le_of_ble_eq_true rfl) ?_
      first | exact Or.inl ⟨by omega, rfl, rfl⟩ | exact Or.inr ⟨by omega, rfl, rfl⟩
theorem f_cancel (hP : PR w am S g b hs) (hI : Iv S) (hb : 1 ≤ b.1 ∧ 6 ≤ b.2) (hj : jr j) : V jcl w m_J_cancel (d + 27) 0 [(0, .ref (am 0 0)), (1, .int (ii j))] [] hs (Fz w (am 0 0) g b (z_cancel S j).2.2 xA ((z_cancel S j).1, (z_cancel S j).2.1)) := by
  have hP' := hP
  obtain ⟨C, hC, hA, h6⟩ := hP
  have hC1 := hA.j1
  have hJ := hI.J
  first | refine V.aload_nR (pc := 0) d_J_cancel_0 rfl ?_ | refine V.aload_n (pc := 0) d_J_cancel_0 rfl ?_
  refine V.iload_n (pc := 1) d_J_cancel_1 rfl ?_
  refine V.callV (pc := 2) d_J_cancel_2 Y_J_jobOfNumber l_J_67 wi_J_jobOfNumber wv_J_jobOfNumber (ci := 0) rfl rfl [_] hC.oJ rfl rfl ⟨by repeat (first | exact trivial | refine ⟨(by first | rfl | exact vrf_cat _), ?_⟩), Nat.le_of_ble_eq_true rfl⟩ ⟨⟨rfl, (by first | rfl | exact vrf_cat _), trivial⟩, Nat.le_of_ble_eq_true rfl⟩ (c_jobOf (d := d + 20) hP' hb ⟨hJ.2, hJ.1⟩ hj) (fun v hs ho => ?_) (fun E hs ho => VX.out rfl ?_)
  · rcases ho with ⟨h1, ho, rfl⟩ | ⟨h1, ho, _⟩
    · cases ho
      have h25 : C 25 j = S 25 j := hA.a1 25 j (by unfold cm; omega)
      have h19 : C 19 j = S 19 j := hA.a1 19 j (by unfold cm; omega)
      have hg := hI.gd.2.1 j h1.1 h1.2
      have hg19 : -1 ≤ S 19 j ∧ S 19 j ≤ 99 := hg.2.2.1
      have hg25 : S 25 j = 0 ∨ S 25 j = 1 := hg.2.2.2.2.2.1
      have e : z_cancel S j = (0, if S 25 j = 0 ∧ S 19 j < 0 then 1 else 0, z_give S j 0) := by
        unfold z_cancel
        rw [if_neg (by omega)]
      rw [e]
      have nochange : ¬ (S 25 j = 0 ∧ S 19 j < 0) → z_give S j 0 = S := fun z => by
        unfold z_give
        by_cases y : S 25 j ≠ 0
        · rw [if_pos y]
        · rw [if_neg y, if_pos (by omega), if_neg (by omega)]
      first | refine V.astore_nR (pc := 5) d_J_cancel_5 (by decide) ?_ | refine V.astore_n (pc := 5) d_J_cancel_5 (by decide) ?_
      first | refine V.aload_nR (pc := 6) d_J_cancel_6 rfl ?_ | refine V.aload_n (pc := 6) d_J_cancel_6 rfl ?_
      refine Vc.get_B (pc := 7) d_J_cancel_7 g_J_71 hC (by first | assumption | omega | (simp [up, up_f] <;> omega)) rfl ?_
      refine Vi.if_ne (pc := 10) (tgt := 21) d_J_cancel_10 (by decide) (by first | assumption | decide | omega | (simp [up] <;> omega)) (fun c_10 => ?_) (fun c_10 => ?_)
      · refine Vi.iconst (pc := 21) d_J_cancel_21 ?_
        refine Vi.ireturn (pc := 22) d_J_cancel_22 rfl ?_
        first | (rw [nochange (by omega), if_neg (by omega)]; exact Fz.ok hP') | (rw [if_pos (by omega)]; exact Fz.ok hP2)
      · first | refine V.aload_nR (pc := 13) d_J_cancel_13 rfl ?_ | refine V.aload_n (pc := 13) d_J_cancel_13 rfl ?_
        refine Vc.get_B (pc := 14) d_J_cancel_14 g_J_75 hC (by first | assumption | omega | (simp [up, up_f] <;> omega)) rfl ?_
        refine Vi.iconst (pc := 17) d_J_cancel_17 ?_
        refine Vi.icmp_eq (pc := 18) (tgt := 23) d_J_cancel_18 (by decide) (by first | assumption | decide | omega | (simp [up] <;> omega)) (by first | assumption | decide | omega | (simp [up] <;> omega)) (fun c_18 => ?_) (fun c_18 => ?_)
        · first | refine V.aload_nR (pc := 23) d_J_cancel_23 rfl ?_ | refine V.aload_n (pc := 23) d_J_cancel_23 rfl ?_
          first | refine V.aload_nR (pc := 24) d_J_cancel_24 rfl ?_ | refine V.aload_n (pc := 24) d_J_cancel_24 rfl ?_
          refine Vi.iconst (pc := 25) d_J_cancel_25 ?_
          refine Vi.iconst (pc := 26) d_J_cancel_26 ?_
          refine V.callV (pc := 27) d_J_cancel_27 Y_J_give l_J_78 wi_J_give wv_J_give (ci := 0) rfl rfl [_, _, _] hC.oJ rfl rfl ⟨by repeat (first | exact trivial | refine ⟨(by first | rfl | exact vrf_cat _), ?_⟩), Nat.le_of_ble_eq_true rfl⟩ ⟨⟨rfl, (by first | rfl | exact vrf_cat _), (by first | rfl | exact vrf_cat _), (by first | rfl | exact vrf_cat _), trivial⟩, Nat.le_of_ble_eq_true rfl⟩ (k_give0 (d := d) hP' hI h1 (by omega)) (fun v hs ho => ?_) (fun E hs ho => by first | (simp at ho; done) | (obtain ⟨_, _, ho, _⟩ := ho; cases ho))
          obtain ⟨ho, hP2⟩ := ho
          cases ho
          refine Vi.iconst (pc := 30) d_J_cancel_30 ?_
          refine Vi.ireturn (pc := 31) d_J_cancel_31 rfl ?_
          first | (rw [nochange (by omega), if_neg (by omega)]; exact Fz.ok hP') | (rw [if_pos (by omega)]; exact Fz.ok hP2)
        · refine Vi.iconst (pc := 21) d_J_cancel_21 ?_
          refine Vi.ireturn (pc := 22) d_J_cancel_22 rfl ?_
          first | (rw [nochange (by omega), if_neg (by omega)]; exact Fz.ok hP') | (rw [if_pos (by omega)]; exact Fz.ok hP2)
    · cases ho
  · rcases ho with ⟨h1, ho, _⟩ | ⟨h1, ho, rfl⟩
    · cases ho
    · cases ho
      have e : z_cancel S j = (1, 0, S) := by
        unfold z_cancel
        rw [if_pos h1]
      rw [e]
      exact Fz.no (k := 1) hP' hb.1 hb.2 (by omega)
theorem f_result (hP : PR w am S g b hs) (hI : Iv S) (hb : 1 ≤ b.1 ∧ 6 ≤ b.2) (hj : jr j) : V jcl w m_J_result (d + 7) 0 [(0, .ref (am 0 0)), (1, .int (ii j))] [] hs (Fz w (am 0 0) g b S xA (z_result S j)) := by
  have hP' := hP
  have hrm := hP.room
  obtain ⟨C, hC, hA, h6⟩ := hP
  have hC1 := hA.j1
  have hJ := hI.J
  first | refine V.aload_nR (pc := 0) d_J_result_0 rfl ?_ | refine V.aload_n (pc := 0) d_J_result_0 rfl ?_
  refine V.iload_n (pc := 1) d_J_result_1 rfl ?_
  refine V.callV (pc := 2) d_J_result_2 Y_J_jobOfNumber l_J_67 wi_J_jobOfNumber wv_J_jobOfNumber (ci := 0) rfl rfl [_] hC.oJ rfl rfl ⟨by repeat (first | exact trivial | refine ⟨(by first | rfl | exact vrf_cat _), ?_⟩), Nat.le_of_ble_eq_true rfl⟩ ⟨⟨rfl, (by first | rfl | exact vrf_cat _), trivial⟩, Nat.le_of_ble_eq_true rfl⟩ (c_jobOf (d := d) hP' hb ⟨hJ.2, hJ.1⟩ hj) (fun v hs ho => ?_) (fun E hs ho => VX.out rfl ?_)
  · rcases ho with ⟨h1, ho, rfl⟩ | ⟨h1, ho, _⟩
    · cases ho
      have h25 : C 25 j = S 25 j := hA.a1 25 j (by unfold cm; omega)
      have h19 : C 19 j = S 19 j := hA.a1 19 j (by unfold cm; omega)
      have h18 : C 18 j = S 18 j := hA.a1 18 j (by unfold cm; omega)
      have hg := hI.gd.2.1 j h1.1 h1.2
      have hg19 : -1 ≤ S 19 j ∧ S 19 j ≤ 99 := hg.2.2.1
      have hg25 : S 25 j = 0 ∨ S 25 j = 1 := hg.2.2.2.2.2.1
      clear hg
      first | refine V.astore_nR (pc := 5) d_J_result_5 (by decide) ?_ | refine V.astore_n (pc := 5) d_J_result_5 (by decide) ?_
      first | refine V.aload_nR (pc := 6) d_J_result_6 rfl ?_ | refine V.aload_n (pc := 6) d_J_result_6 rfl ?_
      refine Vc.get_B (pc := 7) d_J_result_7 g_J_71 hC (by first | assumption | omega | (simp [up, up_f] <;> omega)) rfl ?_
      refine Vi.if_ne (pc := 10) (tgt := 21) d_J_result_10 (by decide) (by first | assumption | decide | omega | (simp [up] <;> omega)) (fun c_10 => ?_) (fun c_10 => ?_)
      · first | refine V.aload_nR (pc := 21) d_J_result_21 rfl ?_ | refine V.aload_n (pc := 21) d_J_result_21 rfl ?_
        refine Vc.get_B (pc := 22) d_J_result_22 g_J_75 hC (by first | assumption | omega | (simp [up, up_f] <;> omega)) rfl ?_
        refine Vi.if_le (pc := 25) (tgt := 36) d_J_result_25 (by decide) (by first | assumption | decide | omega | (simp [up] <;> omega)) (fun c_25 => ?_) (fun c_25 => ?_)
        · first | refine V.aload_nR (pc := 36) d_J_result_36 rfl ?_ | refine V.aload_n (pc := 36) d_J_result_36 rfl ?_
          refine Vc.get_B (pc := 37) d_J_result_37 g_J_75 hC (by first | assumption | omega | (simp [up, up_f] <;> omega)) rfl ?_
          refine Vi.if_ne (pc := 40) (tgt := 51) d_J_result_40 (by decide) (by first | assumption | decide | omega | (simp [up] <;> omega)) (fun c_40 => ?_) (fun c_40 => ?_)
          · first | refine V.aload_nR (pc := 51) d_J_result_51 rfl ?_ | refine V.aload_n (pc := 51) d_J_result_51 rfl ?_
            refine Vc.get_B (pc := 52) d_J_result_52 g_J_103 hC (by first | assumption | omega | (simp [up, up_f] <;> omega)) rfl ?_
            refine Vi.ireturn (pc := 55) d_J_result_55 rfl ?_
            unfold z_result
            rw [if_neg (by omega)]
            first | (rw [if_pos (by omega)]; exact Fz.no (k := 2) hP' hb.1 hb.2 (by omega)) | (rw [if_neg (by omega), if_pos (by omega)]; exact Fz.no (k := 3) hP' hb.1 hb.2 (by omega)) | (rw [if_neg (by omega), if_neg (by omega), if_pos (by omega)]; exact Fz.no (k := 4) hP' hb.1 hb.2 (by omega)) | (rw [if_neg (by omega), if_neg (by omega), if_neg (by omega), h18]; exact Fz.ok hP')
          · refine V.throw0 (pc := 43) d_J_result_43 d_J_result_46 d_J_result_47 d_J_result_50 x_J_100 rfl (by omega) (by omega) (by omega) (Nat.le_of_ble_eq_true rfl) ?_
            unfold z_result
            rw [if_neg (by omega)]
            first | (rw [if_pos (by omega)]; exact Fz.no (k := 2) hP' hb.1 hb.2 (by omega)) | (rw [if_neg (by omega), if_pos (by omega)]; exact Fz.no (k := 3) hP' hb.1 hb.2 (by omega)) | (rw [if_neg (by omega), if_neg (by omega), if_pos (by omega)]; exact Fz.no (k := 4) hP' hb.1 hb.2 (by omega)) | (rw [if_neg (by omega), if_neg (by omega), if_neg (by omega), h18]; exact Fz.ok hP')
        · refine V.throw0 (pc := 28) d_J_result_28 d_J_result_31 d_J_result_32 d_J_result_35 x_J_97 rfl (by omega) (by omega) (by omega) (Nat.le_of_ble_eq_true rfl) ?_
          unfold z_result
          rw [if_neg (by omega)]
          first | (rw [if_pos (by omega)]; exact Fz.no (k := 2) hP' hb.1 hb.2 (by omega)) | (rw [if_neg (by omega), if_pos (by omega)]; exact Fz.no (k := 3) hP' hb.1 hb.2 (by omega)) | (rw [if_neg (by omega), if_neg (by omega), if_pos (by omega)]; exact Fz.no (k := 4) hP' hb.1 hb.2 (by omega)) | (rw [if_neg (by omega), if_neg (by omega), if_neg (by omega), h18]; exact Fz.ok hP')
      · refine V.throw0 (pc := 13) d_J_result_13 d_J_result_16 d_J_result_17 d_J_result_20 x_J_50 rfl (by omega) (by omega) (by omega) (Nat.le_of_ble_eq_true rfl) ?_
        unfold z_result
        rw [if_neg (by omega)]
        first | (rw [if_pos (by omega)]; exact Fz.no (k := 2) hP' hb.1 hb.2 (by omega)) | (rw [if_neg (by omega), if_pos (by omega)]; exact Fz.no (k := 3) hP' hb.1 hb.2 (by omega)) | (rw [if_neg (by omega), if_neg (by omega), if_pos (by omega)]; exact Fz.no (k := 4) hP' hb.1 hb.2 (by omega)) | (rw [if_neg (by omega), if_neg (by omega), if_neg (by omega), h18]; exact Fz.ok hP')
    · cases ho
  · rcases ho with ⟨h1, ho, _⟩ | ⟨h1, ho, rfl⟩
    · cases ho
    · cases ho
      unfold z_result
      rw [if_pos h1]
      exact Fz.no (k := 1) hP' hb.1 hb.2 (by omega)
theorem f_state (hP : PR w am S g b hs) (hI : Iv S) (hE : En (-1) S) (hb : 1 ≤ b.1 ∧ 6 ≤ b.2) (hj : jr j) : V jcl w m_J_state (d + 7) 0 [(0, .ref (am 0 0)), (1, .int (ii j))] [] hs (Fz w (am 0 0) g b S xA (z_state S j)) := by
  have hP' := hP
  have hrm := hP.room
  obtain ⟨C, hC, hA, h6⟩ := hP
  have hC1 := hA.j1
  have hJ := hI.J
  first | refine V.aload_nR (pc := 0) d_J_state_0 rfl ?_ | refine V.aload_n (pc := 0) d_J_state_0 rfl ?_
  refine V.iload_n (pc := 1) d_J_state_1 rfl ?_
  refine V.callV (pc := 2) d_J_state_2 Y_J_jobOfNumber l_J_67 wi_J_jobOfNumber wv_J_jobOfNumber (ci := 0) rfl rfl [_] hC.oJ rfl rfl ⟨by repeat (first | exact trivial | refine ⟨(by first | rfl | exact vrf_cat _), ?_⟩), Nat.le_of_ble_eq_true rfl⟩ ⟨⟨rfl, (by first | rfl | exact vrf_cat _), trivial⟩, Nat.le_of_ble_eq_true rfl⟩ (c_jobOf (d := d) hP' hb ⟨hJ.2, hJ.1⟩ hj) (fun v hs ho => ?_) (fun E hs ho => VX.out rfl ?_)
  · rcases ho with ⟨h1, ho, rfl⟩ | ⟨h1, ho, _⟩
    · cases ho
      have h25 : C 25 j = S 25 j := hA.a1 25 j (by unfold cm; omega)
      have h19 : C 19 j = S 19 j := hA.a1 19 j (by unfold cm; omega)
      have h21 : C 21 j = S 21 j := hA.a1 21 j (by unfold cm; omega)
      have hg := hI.gd.2.1 j h1.1 h1.2
      have hg19 : -1 ≤ S 19 j ∧ S 19 j ≤ 99 := hg.2.2.1
      have hg21 : 0 ≤ S 21 j ∧ S 21 j ≤ 6 := hg.2.2.2.1
      have hg25 : S 25 j = 0 ∨ S 25 j = 1 := hg.2.2.2.2.2.1
      have hg24 : S 24 j = 0 ∨ S 24 j = 1 := hg.2.2.2.2.1
      have hw8 := (hI.wt j h1.1 h1.2).2.2.2.2.2.2.2.1
      have hen := hE j h1.1 h1.2
      have hen1 : S 24 j = 1 ↔ S 21 j = 0 := ⟨hen.1, hen.2 (by omega)⟩
      have hf21 : S 25 j = 1 → S 21 j = 0 := fun z => hw8 (by omega)
      clear hg hen hw8
      have ez : z_state S j = (0, (if S 21 j = 0 then 8 else 0) + (if S 25 j = 0 then (if S 19 j < 0 then 4 else 5) else (if S 19 j < 0 then 0 else if S 19 j = 0 then 1 else 2))) := by
        unfold z_state
        rw [if_neg (by omega)]
        rcases hg25 with z | z
        · rw [if_neg (c := S 25 j ≠ 0) (by omega), if_pos z]
          congr 1
          by_cases y : S 21 j = 0
          · rw [if_pos y, if_pos (c := S 24 j ≠ 0) (by have := hen1.2 y; omega)]; omega
          · rw [if_neg y, if_neg (c := S 24 j ≠ 0) (by have := mt hen1.1 y; omega)]; omega
        · rw [if_pos (c := S 25 j ≠ 0) (by omega), if_neg (c := S 25 j = 0) (by omega), if_pos (hf21 z)]
      rw [ez]
      have fin : ∀ v : Int, v = (if S 21 j = 0 then 8 else 0) + (if S 25 j = 0 then (if S 19 j < 0 then 4 else 5) else (if S 19 j < 0 then 0 else if S 19 j = 0 then 1 else 2)) → Fz w (am 0 0) g b S xA (0, (if S 21 j = 0 then 8 else 0) + (if S 25 j = 0 then (if S 19 j < 0 then 4 else 5) else (if S 19 j < 0 then 0 else if S 19 j = 0 then 1 else 2))) (.inl (some (.int (ii v)))) hs := fun v hv => by
        rw [← hv]
        exact Fz.ok hP'
      first | refine V.astore_nR (pc := 5) d_J_state_5 (by decide) ?_ | refine V.astore_n (pc := 5) d_J_state_5 (by decide) ?_
      first | refine V.aload_nR (pc := 6) d_J_state_6 rfl ?_ | refine V.aload_n (pc := 6) d_J_state_6 rfl ?_
      refine Vc.get_B (pc := 7) d_J_state_7 g_J_106 hC (by first | assumption | omega | (simp [up, up_f] <;> omega)) rfl ?_
      refine Vi.if_ne (pc := 10) (tgt := 18) d_J_state_10 (by decide) (by first | assumption | decide | omega | (simp [up] <;> omega)) (fun c_10 => ?_) (fun c_10 => ?_)
      · refine Vi.iconst (pc := 18) d_J_state_18 ?_
        refine V.istore_n (pc := 19) d_J_state_19 (by decide) ?_
        first | refine V.aload_nR (pc := 20) d_J_state_20 rfl ?_ | refine V.aload_n (pc := 20) d_J_state_20 rfl ?_
        refine Vc.get_B (pc := 21) d_J_state_21 g_J_71 hC (by first | assumption | omega | (simp [up, up_f] <;> omega)) rfl ?_
        refine Vi.if_ne (pc := 24) (tgt := 43) d_J_state_24 (by decide) (by first | assumption | decide | omega | (simp [up] <;> omega)) (fun c_24 => ?_) (fun c_24 => ?_)
        · first | refine V.aload_nR (pc := 43) d_J_state_43 rfl ?_ | refine V.aload_n (pc := 43) d_J_state_43 rfl ?_
          refine Vc.get_B (pc := 44) d_J_state_44 g_J_75 hC (by first | assumption | omega | (simp [up, up_f] <;> omega)) rfl ?_
          refine Vi.iconst (pc := 47) d_J_state_47 ?_
          refine Vi.icmp_ne (pc := 48) (tgt := 53) d_J_state_48 (by decide) (by first | assumption | decide | omega | (simp [up] <;> omega)) (by first | assumption | decide | omega | (simp [up] <;> omega)) (fun c_48 => ?_) (fun c_48 => ?_)
          · refine V.iload_n (pc := 53) d_J_state_53 rfl ?_
            first | refine V.aload_nR (pc := 54) d_J_state_54 rfl ?_ | refine V.aload_n (pc := 54) d_J_state_54 rfl ?_
            refine Vc.get_B (pc := 55) d_J_state_55 g_J_75 hC (by first | assumption | omega | (simp [up, up_f] <;> omega)) rfl ?_
            refine Vi.if_ne (pc := 58) (tgt := 65) d_J_state_58 (by decide) (by first | assumption | decide | omega | (simp [up] <;> omega)) (fun c_58 => ?_) (fun c_58 => ?_)
            · refine Vi.iconst (pc := 65) d_J_state_65 ?_
              refine Vi.iadd (pc := 66) d_J_state_66 ?_
              refine Vi.ireturn (pc := 67) d_J_state_67 rfl ?_
              refine fin _ ?_
              (repeat' split) <;> omega
            · refine Vi.iconst (pc := 61) d_J_state_61 ?_
              refine V.goto (pc := 62) (tgt := 66) d_J_state_62 (by decide) ?_
              refine Vi.iadd (pc := 66) d_J_state_66 ?_
              refine Vi.ireturn (pc := 67) d_J_state_67 rfl ?_
              refine fin _ ?_
              (repeat' split) <;> omega
          · refine V.iload_n (pc := 51) d_J_state_51 rfl ?_
            refine Vi.ireturn (pc := 52) d_J_state_52 rfl ?_
            refine fin _ ?_
            (repeat' split) <;> omega
        · refine V.iload_n (pc := 27) d_J_state_27 rfl ?_
          first | refine V.aload_nR (pc := 28) d_J_state_28 rfl ?_ | refine V.aload_n (pc := 28) d_J_state_28 rfl ?_
          refine Vc.get_B (pc := 29) d_J_state_29 g_J_75 hC (by first | assumption | omega | (simp [up, up_f] <;> omega)) rfl ?_
          refine Vi.iconst (pc := 32) d_J_state_32 ?_
          refine Vi.icmp_ne (pc := 33) (tgt := 40) d_J_state_33 (by decide) (by first | assumption | decide | omega | (simp [up] <;> omega)) (by first | assumption | decide | omega | (simp [up] <;> omega)) (fun c_33 => ?_) (fun c_33 => ?_)
          · refine Vi.iconst (pc := 40) d_J_state_40 ?_
            refine Vi.iadd (pc := 41) d_J_state_41 ?_
            refine Vi.ireturn (pc := 42) d_J_state_42 rfl ?_
            refine fin _ ?_
            (repeat' split) <;> omega
          · refine Vi.iconst (pc := 36) d_J_state_36 ?_
            refine V.goto (pc := 37) (tgt := 41) d_J_state_37 (by decide) ?_
            refine Vi.iadd (pc := 41) d_J_state_41 ?_
            refine Vi.ireturn (pc := 42) d_J_state_42 rfl ?_
            refine fin _ ?_
            (repeat' split) <;> omega
      · refine Vi.bipush (pc := 13) d_J_state_13 (by decide) ?_
        refine V.goto (pc := 15) (tgt := 19) d_J_state_15 (by decide) ?_
        refine V.istore_n (pc := 19) d_J_state_19 (by decide) ?_
        first | refine V.aload_nR (pc := 20) d_J_state_20 rfl ?_ | refine V.aload_n (pc := 20) d_J_state_20 rfl ?_
        refine Vc.get_B (pc := 21) d_J_state_21 g_J_71 hC (by first | assumption | omega | (simp [up, up_f] <;> omega)) rfl ?_
        refine Vi.if_ne (pc := 24) (tgt := 43) d_J_state_24 (by decide) (by first | assumption | decide | omega | (simp [up] <;> omega)) (fun c_24 => ?_) (fun c_24 => ?_)
        · first | refine V.aload_nR (pc := 43) d_J_state_43 rfl ?_ | refine V.aload_n (pc := 43) d_J_state_43 rfl ?_
          refine Vc.get_B (pc := 44) d_J_state_44 g_J_75 hC (by first | assumption | omega | (simp [up, up_f] <;> omega)) rfl ?_
          refine Vi.iconst (pc := 47) d_J_state_47 ?_
          refine Vi.icmp_ne (pc := 48) (tgt := 53) d_J_state_48 (by decide) (by first | assumption | decide | omega | (simp [up] <;> omega)) (by first | assumption | decide | omega | (simp [up] <;> omega)) (fun c_48 => ?_) (fun c_48 => ?_)
          · refine V.iload_n (pc := 53) d_J_state_53 rfl ?_
            first | refine V.aload_nR (pc := 54) d_J_state_54 rfl ?_ | refine V.aload_n (pc := 54) d_J_state_54 rfl ?_
            refine Vc.get_B (pc := 55) d_J_state_55 g_J_75 hC (by first | assumption | omega | (simp [up, up_f] <;> omega)) rfl ?_
            refine Vi.if_ne (pc := 58) (tgt := 65) d_J_state_58 (by decide) (by first | assumption | decide | omega | (simp [up] <;> omega)) (fun c_58 => ?_) (fun c_58 => ?_)
            · refine Vi.iconst (pc := 65) d_J_state_65 ?_
              refine Vi.iadd (pc := 66) d_J_state_66 ?_
              refine Vi.ireturn (pc := 67) d_J_state_67 rfl ?_
              refine fin _ ?_
              (repeat' split) <;> omega
            · refine Vi.iconst (pc := 61) d_J_state_61 ?_
              refine V.goto (pc := 62) (tgt := 66) d_J_state_62 (by decide) ?_
              refine Vi.iadd (pc := 66) d_J_state_66 ?_
              refine Vi.ireturn (pc := 67) d_J_state_67 rfl ?_
              refine fin _ ?_
              (repeat' split) <;> omega
          · refine V.iload_n (pc := 51) d_J_state_51 rfl ?_
            refine Vi.ireturn (pc := 52) d_J_state_52 rfl ?_
            refine fin _ ?_
            (repeat' split) <;> omega
        · refine V.iload_n (pc := 27) d_J_state_27 rfl ?_
          first | refine V.aload_nR (pc := 28) d_J_state_28 rfl ?_ | refine V.aload_n (pc := 28) d_J_state_28 rfl ?_
          refine Vc.get_B (pc := 29) d_J_state_29 g_J_75 hC (by first | assumption | omega | (simp [up, up_f] <;> omega)) rfl ?_
          refine Vi.iconst (pc := 32) d_J_state_32 ?_
          refine Vi.icmp_ne (pc := 33) (tgt := 40) d_J_state_33 (by decide) (by first | assumption | decide | omega | (simp [up] <;> omega)) (by first | assumption | decide | omega | (simp [up] <;> omega)) (fun c_33 => ?_) (fun c_33 => ?_)
          · refine Vi.iconst (pc := 40) d_J_state_40 ?_
            refine Vi.iadd (pc := 41) d_J_state_41 ?_
            refine Vi.ireturn (pc := 42) d_J_state_42 rfl ?_
            refine fin _ ?_
            (repeat' split) <;> omega
          · refine Vi.iconst (pc := 36) d_J_state_36 ?_
            refine V.goto (pc := 37) (tgt := 41) d_J_state_37 (by decide) ?_
            refine Vi.iadd (pc := 41) d_J_state_41 ?_
            refine Vi.ireturn (pc := 42) d_J_state_42 rfl ?_
            refine fin _ ?_
            (repeat' split) <;> omega
    · cases ho
  · rcases ho with ⟨h1, ho, _⟩ | ⟨h1, ho, rfl⟩
    · cases ho
    · cases ho
      unfold z_state
      rw [if_pos h1]
      exact Fz.no (k := 1) hP' hb.1 hb.2 (by omega)
theorem f_cause (hP : PR w am S g b hs) (hI : Iv S) (hb : 1 ≤ b.1 ∧ 6 ≤ b.2) (hj : jr j) : V jcl w m_J_cause (d + 7) 0 [(0, .ref (am 0 0)), (1, .int (ii j))] [] hs (Fz w (am 0 0) g b S xC (z_cause S j)) := by
  have hP' := hP
  have hrm := hP.room
  obtain ⟨C, hC, hA, h6⟩ := hP
  have hC1 := hA.j1
  have hJ := hI.J
  first | refine V.aload_nR (pc := 0) d_J_cause_0 rfl ?_ | refine V.aload_n (pc := 0) d_J_cause_0 rfl ?_
  refine V.iload_n (pc := 1) d_J_cause_1 rfl ?_
  refine V.callV (pc := 2) d_J_cause_2 Y_J_jobOfNumber l_J_67 wi_J_jobOfNumber wv_J_jobOfNumber (ci := 0) rfl rfl [_] hC.oJ rfl rfl ⟨by repeat (first | exact trivial | refine ⟨(by first | rfl | exact vrf_cat _), ?_⟩), Nat.le_of_ble_eq_true rfl⟩ ⟨⟨rfl, (by first | rfl | exact vrf_cat _), trivial⟩, Nat.le_of_ble_eq_true rfl⟩ (c_jobOf (d := d) hP' hb ⟨hJ.2, hJ.1⟩ hj) (fun v hs ho => ?_) (fun E hs ho => VX.out rfl ?_)
  · rcases ho with ⟨h1, ho, rfl⟩ | ⟨h1, ho, _⟩
    · cases ho
      have h19 : C 19 j = S 19 j := hA.a1 19 j (by unfold cm; omega)
      have hg19 : -1 ≤ S 19 j ∧ S 19 j ≤ 99 := (hI.gd.2.1 j h1.1 h1.2).2.2.1
      first | refine V.astore_nR (pc := 5) d_J_cause_5 (by decide) ?_ | refine V.astore_n (pc := 5) d_J_cause_5 (by decide) ?_
      first | refine V.aload_nR (pc := 6) d_J_cause_6 rfl ?_ | refine V.aload_n (pc := 6) d_J_cause_6 rfl ?_
      refine Vc.get_B (pc := 7) d_J_cause_7 g_J_75 hC (by first | assumption | omega | (simp [up, up_f] <;> omega)) rfl ?_
      refine Vi.iconst (pc := 10) d_J_cause_10 ?_
      refine Vi.icmp_ne (pc := 11) (tgt := 22) d_J_cause_11 (by decide) (by first | assumption | decide | omega | (simp [up] <;> omega)) (by first | assumption | decide | omega | (simp [up] <;> omega)) (fun c_11 => ?_) (fun c_11 => ?_)
      · first | refine V.aload_nR (pc := 22) d_J_cause_22 rfl ?_ | refine V.aload_n (pc := 22) d_J_cause_22 rfl ?_
        refine Vc.get_B (pc := 23) d_J_cause_23 g_J_75 hC (by first | assumption | omega | (simp [up, up_f] <;> omega)) rfl ?_
        refine Vi.ireturn (pc := 26) d_J_cause_26 rfl ?_
        unfold z_cause
        rw [if_neg (by omega)]
        first | (rw [if_pos (by omega)]; exact Fz.no (k := 2) hP' hb.1 hb.2 (by omega)) | (rw [if_neg (by omega), h19]; exact Fz.ok hP')
      · refine V.throw0 (pc := 14) d_J_cause_14 d_J_cause_17 d_J_cause_18 d_J_cause_21 x_J_100 rfl (by omega) (by omega) (by omega) (Nat.le_of_ble_eq_true rfl) ?_
        unfold z_cause
        rw [if_neg (by omega)]
        first | (rw [if_pos (by omega)]; exact Fz.no (k := 2) hP' hb.1 hb.2 (by omega)) | (rw [if_neg (by omega), h19]; exact Fz.ok hP')
    · cases ho
  · rcases ho with ⟨h1, ho, _⟩ | ⟨h1, ho, rfl⟩
    · cases ho
    · cases ho
      unfold z_cause
      rw [if_pos h1]
      exact Fz.no (k := 1) hP' hb.1 hb.2 (by omega)
theorem f_noted (hP : PR w am S g b hs) (hI : Iv S) (hB : Bd 100 S) (hb : 1 ≤ b.1 ∧ 6 ≤ b.2) (hj : jr j) : V jcl w m_J_noted (d + 7) 0 [(0, .ref (am 0 0)), (1, .int (ii j))] [] hs (Fz w (am 0 0) g b S xN (z_noted S j)) := by
  have hP' := hP
  have hrm := hP.room
  obtain ⟨C, hC, hA, h6⟩ := hP
  have h3 : C 3 0 = S 3 0 := hA.a1 3 0 (by unfold cm; omega)
  have h15 : C 15 j = S 15 j := hA.a1 15 j (by unfold cm; omega)
  have ht := hI.tm.1
  have hb3 : jr (S 3 0) := by unfold Bd at hB; omega
  refine V.iload_n (pc := 0) d_J_noted_0 rfl ?_
  refine Vi.if_lt (pc := 1) (tgt := 18) d_J_noted_1 (by decide) (by first | assumption | decide | omega | (simp [up] <;> omega)) (fun c_1 => ?_) (fun c_1 => ?_)
  · refine V.throw0 (pc := 18) d_J_noted_18 d_J_noted_21 d_J_noted_22 d_J_noted_25 x_J_100 rfl (by omega) (by omega) (by omega) (Nat.le_of_ble_eq_true rfl) ?_
    unfold z_noted
    first | (rw [if_pos (by omega)]; exact Fz.no (k := 1) hP' hb.1 hb.2 (by omega)) | (rw [if_neg (by omega), h15]; exact Fz.ok hP')
  · refine V.iload_n (pc := 4) d_J_noted_4 rfl ?_
    refine Vi.bipush (pc := 5) d_J_noted_5 (by decide) ?_
    refine Vi.icmp_ge (pc := 7) (tgt := 18) d_J_noted_7 (by decide) (by first | assumption | decide | omega | (simp [up] <;> omega)) (by first | assumption | decide | omega | (simp [up] <;> omega)) (fun c_7 => ?_) (fun c_7 => ?_)
    · refine V.throw0 (pc := 18) d_J_noted_18 d_J_noted_21 d_J_noted_22 d_J_noted_25 x_J_100 rfl (by omega) (by omega) (by omega) (Nat.le_of_ble_eq_true rfl) ?_
      unfold z_noted
      first | (rw [if_pos (by omega)]; exact Fz.no (k := 1) hP' hb.1 hb.2 (by omega)) | (rw [if_neg (by omega), h15]; exact Fz.ok hP')
    · refine V.iload_n (pc := 10) d_J_noted_10 rfl ?_
      first | refine V.aload_nR (pc := 11) d_J_noted_11 rfl ?_ | refine V.aload_n (pc := 11) d_J_noted_11 rfl ?_
      refine Vc.get_J (pc := 12) d_J_noted_12 g_J_129 hC rfl ?_
      refine Vi.icmp_lt (pc := 15) (tgt := 26) d_J_noted_15 (by decide) (by first | assumption | decide | omega | (simp [up] <;> omega)) (by first | assumption | decide | omega | (simp [up] <;> omega)) (fun c_15 => ?_) (fun c_15 => ?_)
      · first | refine V.aload_nR (pc := 26) d_J_noted_26 rfl ?_ | refine V.aload_n (pc := 26) d_J_noted_26 rfl ?_
        refine Vc.get_J (pc := 27) d_J_noted_27 g_J_29 hC rfl ?_
        refine V.iload_n (pc := 30) d_J_noted_30 rfl ?_
        refine Vc.ald_notes (pc := 31) d_J_noted_31 hC  (by first | assumption | omega | (simp [up, up_f] <;> omega)) ?_
        refine Vi.ireturn (pc := 32) d_J_noted_32 rfl ?_
        unfold z_noted
        first | (rw [if_pos (by omega)]; exact Fz.no (k := 1) hP' hb.1 hb.2 (by omega)) | (rw [if_neg (by omega), h15]; exact Fz.ok hP')
      · refine V.throw0 (pc := 18) d_J_noted_18 d_J_noted_21 d_J_noted_22 d_J_noted_25 x_J_100 rfl (by omega) (by omega) (by omega) (Nat.le_of_ble_eq_true rfl) ?_
        unfold z_noted
        first | (rw [if_pos (by omega)]; exact Fz.no (k := 1) hP' hb.1 hb.2 (by omega)) | (rw [if_neg (by omega), h15]; exact Fz.ok hP')
theorem f_about (hP : PR w am S g b hs) (hI : Iv S) (hb : 1 ≤ b.1 ∧ 6 ≤ b.2) (hj : jr j) (hx : jr x) : V jcl w m_J_about (d + 7) 0 [(0, .ref (am 0 0)), (1, .int (ii j)), (2, .int (ii x))] [] hs (Fz w (am 0 0) g b S xA (z_about S j x)) := by
  have hP' := hP
  have hrm := hP.room
  obtain ⟨C, hC, hA, h6⟩ := hP
  have hC1 := hA.j1
  have hJ := hI.J
  first | refine V.aload_nR (pc := 0) d_J_about_0 rfl ?_ | refine V.aload_n (pc := 0) d_J_about_0 rfl ?_
  refine V.iload_n (pc := 1) d_J_about_1 rfl ?_
  refine V.callV (pc := 2) d_J_about_2 Y_J_jobOfNumber l_J_67 wi_J_jobOfNumber wv_J_jobOfNumber (ci := 0) rfl rfl [_] hC.oJ rfl rfl ⟨by repeat (first | exact trivial | refine ⟨(by first | rfl | exact vrf_cat _), ?_⟩), Nat.le_of_ble_eq_true rfl⟩ ⟨⟨rfl, (by first | rfl | exact vrf_cat _), trivial⟩, Nat.le_of_ble_eq_true rfl⟩ (c_jobOf (d := d) hP' hb ⟨hJ.2, hJ.1⟩ hj) (fun v hs ho => ?_) (fun E hs ho => VX.out rfl ?_)
  · rcases ho with ⟨h1, ho, rfl⟩ | ⟨h1, ho, _⟩
    · cases ho
      have hc : ∀ f i, cm f → C f i = S f i := hA.a1
      have h16 := hc 16 j (by unfold cm; omega)
      have h17 := hc 17 j (by unfold cm; omega)
      have h18 := hc 18 j (by unfold cm; omega)
      have h20 := hc 20 j (by unfold cm; omega)
      have h21 := hc 21 j (by unfold cm; omega)
      have h22 : ∀ i, C 22 i = S 22 i := fun i => hc 22 i (by unfold cm; omega)
      have h56 := hA.a3o.1 j h1.1 h1.2
      have hg16 : -1 ≤ S 16 j ∧ S 16 j < j := (hI.gd.2.1 j h1.1 h1.2).1
      have hsl : 5 ≤ x ∧ x ≤ 7 → -1 ≤ S 22 (j * 3 + (x - 5)) ∧ S 22 (j * 3 + (x - 5)) < S 1 0 := fun z => by
        have := hI.sl j (x - 5) h1.1 h1.2 (by omega) (by omega)
        omega
      have hj2 : 0 ≤ j ∧ j < C 1 0 := by omega
      have fin : ∀ v : Int, (0 ≤ x ∧ x ≤ 8) → v = (z_about S j x).2 → Fz w (am 0 0) g b S xA (z_about S j x) (.inl (some (.int (ii v)))) hs := fun v hx8 hv => by
        have e : z_about S j x = (0, (z_about S j x).2) := by
          unfold z_about
          rw [if_neg (by omega)]
          (repeat' split) <;> rfl
        rw [e, ← hv]
        exact Fz.ok hP'
      have case5 : 5 ≤ x ∧ x ≤ 7 → V jcl w m_J_about (d + 7) 84 [(0, .ref (am 0 0)), (2, .int (ii x)), (3, .ref (am 10 j))] [] hs (Fz w (am 0 0) g b S xA (z_about S j x)) := by
        intro hx5
        have hs5 := hsl hx5
        first | refine V.aload_nR (pc := 84) d_J_about_84 rfl ?_ | refine V.aload_n (pc := 84) d_J_about_84 rfl ?_
        refine Vc.get_B (pc := 85) d_J_about_85 g_J_123 hC (by first | assumption | omega | (simp [up, up_f] <;> omega)) rfl ?_
        refine V.iload_n (pc := 88) d_J_about_88 rfl ?_
        refine Vi.iconst (pc := 89) d_J_about_89 ?_
        refine Vi.isub (pc := 90) d_J_about_90 ?_
        refine Vc.ald_slots (pc := 91) d_J_about_91 hC (by first | assumption | omega | (simp [up, up_f] <;> omega)) (by first | assumption | omega | (simp [up, up_f] <;> omega)) ?_
        rw [h22]
        refine V.callS (pc := 92) d_J_about_92 Y_J_numberOf l_J_113 ws_J_numberOf wn_J_numberOf [_] rfl rfl ⟨by repeat (first | exact trivial | refine ⟨(by first | rfl | exact vrf_cat _), ?_⟩), Nat.le_of_ble_eq_true rfl⟩ ⟨⟨(by first | rfl | exact vrf_cat _), trivial⟩, Nat.le_of_ble_eq_true rfl⟩ (c_numberOf hC (by omega) (by omega)) (fun v hs ho => ?_) (fun E hs ho => by first | (simp at ho; done) | (obtain ⟨_, _, ho, _⟩ := ho; cases ho))
        obtain ⟨ho, rfl⟩ := ho
        cases ho
        refine Vi.ireturn (pc := 95) d_J_about_95 rfl ?_
        refine fin _ (by omega) ?_
        unfold z_about
        rw [if_neg (by omega), if_neg (by omega), if_neg (by omega), if_neg (by omega), if_neg (by omega), if_neg (by omega), if_pos (by omega)]
        rw [show j * 3 + x - 5 = j * 3 + (x - 5) by omega]
      first | refine V.astore_nR (pc := 5) d_J_about_5 (by decide) ?_ | refine V.astore_n (pc := 5) d_J_about_5 (by decide) ?_
      refine V.iload_n (pc := 6) d_J_about_6 rfl ?_
      refine Vi.tsw (pc := 7) (tgt := 101) d_J_about_7 (by first | assumption | omega | (simp [up, up_f] <;> omega)) (by decide) (fun s_7 => ?_) (fun n_7 s_7 z_7 => ?_)
      · refine V.throw0 (pc := 101) d_J_about_101 d_J_about_104 d_J_about_105 d_J_about_108 x_J_43 rfl (by omega) (by omega) (by omega) (Nat.le_of_ble_eq_true rfl) ?_
        first | (refine fin _ (by omega) ?_; unfold z_about; rw [if_neg (by omega)]; simp only [s_7]; simp; omega) | (unfold z_about; rw [if_pos (by omega)]; exact Fz.no (k := 1) hP' hb.1 hb.2 (by omega))
      · have z_7 : n_7 < 9 := z_7
        have q_7 : n_7 = 0 ∨ n_7 = 1 ∨ n_7 = 2 ∨ n_7 = 3 ∨ n_7 = 4 ∨ n_7 = 5 ∨ n_7 = 6 ∨ n_7 = 7 ∨ n_7 = 8 := by omega
        rcases q_7 with rfl | rfl | rfl | rfl | rfl | rfl | rfl | rfl | rfl
        · refine Vi.atpc (pc := 56) (by rfl) ?_
          simp at s_7
          first | refine V.aload_nR (pc := 56) d_J_about_56 rfl ?_ | refine V.aload_n (pc := 56) d_J_about_56 rfl ?_
          refine Vc.get_B (pc := 57) d_J_about_57 g_J_109 hC (by first | assumption | omega | (simp [up, up_f] <;> omega)) rfl ?_
          refine V.callS (pc := 60) d_J_about_60 Y_J_numberOf l_J_113 ws_J_numberOf wn_J_numberOf [_] rfl rfl ⟨by repeat (first | exact trivial | refine ⟨(by first | rfl | exact vrf_cat _), ?_⟩), Nat.le_of_ble_eq_true rfl⟩ ⟨⟨(by first | rfl | exact vrf_cat _), trivial⟩, Nat.le_of_ble_eq_true rfl⟩ (c_numberOf hC (by omega) (by omega)) (fun v hs ho => ?_) (fun E hs ho => by first | (simp at ho; done) | (obtain ⟨_, _, ho, _⟩ := ho; cases ho))
          obtain ⟨ho, rfl⟩ := ho
          cases ho
          refine Vi.ireturn (pc := 63) d_J_about_63 rfl ?_
          first | (refine fin _ (by omega) ?_; unfold z_about; rw [if_neg (by omega)]; simp only [s_7]; simp; omega) | (unfold z_about; rw [if_pos (by omega)]; exact Fz.no (k := 1) hP' hb.1 hb.2 (by omega))
        · refine Vi.atpc (pc := 64) (by rfl) ?_
          simp at s_7
          first | refine V.aload_nR (pc := 64) d_J_about_64 rfl ?_ | refine V.aload_n (pc := 64) d_J_about_64 rfl ?_
          refine Vc.get_B (pc := 65) d_J_about_65 g_J_117 hC (by first | assumption | omega | (simp [up, up_f] <;> omega)) rfl ?_
          refine Vi.ireturn (pc := 68) d_J_about_68 rfl ?_
          first | (refine fin _ (by omega) ?_; unfold z_about; rw [if_neg (by omega)]; simp only [s_7]; simp; omega) | (unfold z_about; rw [if_pos (by omega)]; exact Fz.no (k := 1) hP' hb.1 hb.2 (by omega))
        · refine Vi.atpc (pc := 69) (by rfl) ?_
          simp at s_7
          first | refine V.aload_nR (pc := 69) d_J_about_69 rfl ?_ | refine V.aload_n (pc := 69) d_J_about_69 rfl ?_
          refine Vc.get_B (pc := 70) d_J_about_70 g_J_120 hC (by first | assumption | omega | (simp [up, up_f] <;> omega)) rfl ?_
          refine Vi.ireturn (pc := 73) d_J_about_73 rfl ?_
          first | (refine fin _ (by omega) ?_; unfold z_about; rw [if_neg (by omega)]; simp only [s_7]; simp; omega) | (unfold z_about; rw [if_pos (by omega)]; exact Fz.no (k := 1) hP' hb.1 hb.2 (by omega))
        · refine Vi.atpc (pc := 74) (by rfl) ?_
          simp at s_7
          first | refine V.aload_nR (pc := 74) d_J_about_74 rfl ?_ | refine V.aload_n (pc := 74) d_J_about_74 rfl ?_
          refine Vc.get_B (pc := 75) d_J_about_75 g_J_103 hC (by first | assumption | omega | (simp [up, up_f] <;> omega)) rfl ?_
          refine Vi.ireturn (pc := 78) d_J_about_78 rfl ?_
          first | (refine fin _ (by omega) ?_; unfold z_about; rw [if_neg (by omega)]; simp only [s_7]; simp; omega) | (unfold z_about; rw [if_pos (by omega)]; exact Fz.no (k := 1) hP' hb.1 hb.2 (by omega))
        · refine Vi.atpc (pc := 79) (by rfl) ?_
          simp at s_7
          first | refine V.aload_nR (pc := 79) d_J_about_79 rfl ?_ | refine V.aload_n (pc := 79) d_J_about_79 rfl ?_
          refine Vc.get_B (pc := 80) d_J_about_80 g_J_106 hC (by first | assumption | omega | (simp [up, up_f] <;> omega)) rfl ?_
          refine Vi.ireturn (pc := 83) d_J_about_83 rfl ?_
          first | (refine fin _ (by omega) ?_; unfold z_about; rw [if_neg (by omega)]; simp only [s_7]; simp; omega) | (unfold z_about; rw [if_pos (by omega)]; exact Fz.no (k := 1) hP' hb.1 hb.2 (by omega))
        · refine Vi.atpc (pc := 84) (by rfl) ?_
          simp at s_7
          exact V.lop (case5 (by omega)) ⟨rfl, rfl, rfl, trivial⟩
        · refine Vi.atpc (pc := 84) (by rfl) ?_
          simp at s_7
          exact V.lop (case5 (by omega)) ⟨rfl, rfl, rfl, trivial⟩
        · refine Vi.atpc (pc := 84) (by rfl) ?_
          simp at s_7
          exact V.lop (case5 (by omega)) ⟨rfl, rfl, rfl, trivial⟩
        · refine Vi.atpc (pc := 96) (by rfl) ?_
          simp at s_7
          first | refine V.aload_nR (pc := 96) d_J_about_96 rfl ?_ | refine V.aload_n (pc := 96) d_J_about_96 rfl ?_
          refine Vc.get_B (pc := 97) d_J_about_97 g_J_126 hC (by first | assumption | omega | (simp [up, up_f] <;> omega)) rfl ?_
          refine Vi.ireturn (pc := 100) d_J_about_100 rfl ?_
          first | (refine fin _ (by omega) ?_; unfold z_about; rw [if_neg (by omega)]; simp only [s_7]; simp; omega) | (unfold z_about; rw [if_pos (by omega)]; exact Fz.no (k := 1) hP' hb.1 hb.2 (by omega))
    · cases ho
  · rcases ho with ⟨h1, ho, _⟩ | ⟨h1, ho, rfl⟩
    · cases ho
    · cases ho
      unfold z_about
      rw [if_pos (Or.inl h1)]
      exact Fz.no (k := 1) hP' hb.1 hb.2 (by omega)
end KK
