/-! the reference: doAction, resume -/
section RC
variable {w : jw} {d : Nat} {hs : jh} {mo : Nat} {ra : Nat → Nat} {S T : js} {g : Nat → Option va_E} {b : Nat × Nat}
theorem z_adv_ok {j f : Int} (hO : Ok j S) (hv : 0 ≤ S 34 f ∧ S 34 f < 8) : Iv (z_adv S f) ∧ Rn j (z_adv S f) ∧ En j (z_adv S f) ∧ Bd 30 (z_adv S f) := by
  obtain ⟨h, hr, he, hB, h0, h8, h9, h10⟩ := hO
  refine ⟨((h.at_ (f := f) (v := S 34 f + 1) (by omega)).fr1 (by omega)).fr1 (by omega), hr.cg fun f i hf => ?_, he.cg fun f i hf => ?_, hB.cg fun f i hf => ?_⟩
  all_goals simp [z_adv, up]
  all_goals omega
/-- j stands at an action -/
def At (j : Int) (S : js) : Prop := S 34 (j * 6 + S 21 j - 1) < S 11 (S 33 (j * 6 + S 21 j - 1))
theorem r_da {j f x a c : Int} (hR : RepR w mo ra T g b hs) (h : Iv T) (hr : Rn j T) (hB : Bd 29 T) (hf : (0 ≤ f ∧ f < 144) ∧ 0 ≤ T 33 f ∧ T 33 f ≤ 9) (hx : 0 ≤ x ∧ x ≤ 15) (ha : jr a) (hw : ¬ WR x a c) :
    V jcl w m_R_doAction (d + 4) 85 [(0, .ref mo), (1, .int (ii j)), (2, .int (ii f)), (4, .int (ii x)), (5, .int (ii a)), (6, .int (ii c))] [] hs (fun o hs' => o = .inl none ∧ RepR w mo ra (z_da T j f x a c) g b hs') := by
  have hJ := h.J
  have hj := hr.1
  have hgj := h.gd.2.1 j hj.1 hj.2
  have h21 : 0 ≤ T 21 j ∧ T 21 j ≤ 6 := hgj.2.2.2.1
  have h19 : -1 ≤ T 19 j ∧ T 19 j ≤ 99 := hgj.2.2.1
  have t2 : ∀ r7 r8 : Int, (r7 = 1 ∧ PA x ∨ r7 = 0 ∧ ¬ PA x) → (r8 = 1 ∧ NW x ∨ r8 = 0 ∧ ¬ NW x) → V jcl w m_R_doAction (d + 4) 157 [(0, .ref mo), (1, .int (ii j)), (2, .int (ii f)), (4, .int (ii x)), (5, .int (ii a)), (6, .int (ii c)), (7, .int (ii r7)), (8, .int (ii r8))] [] hs (fun o hs' => o = .inl none ∧ RepR w mo ra (z_da T j f x a c) g b hs') := by
    intro r7 r8 h7 h8
    refine V.iload (pc := 157) d_R_doAction_157 rfl ?_
    refine Vi.if_eq (pc := 159) (tgt := 187) d_R_doAction_159 (by decide) (by first | assumption | decide | omega | (simp [up] <;> omega)) (fun c_159 => ?_) (fun c_159 => ?_)
    · refine V.iload (pc := 187) d_R_doAction_187 rfl ?_
      refine Vi.if_eq (pc := 189) (tgt := 210) d_R_doAction_189 (by decide) (by first | assumption | decide | omega | (simp [up] <;> omega)) (fun c_189 => ?_) (fun c_189 => ?_)
      · refine (V.lop (r_da2 hR h hr hB hf hx ha hw (by omega)) ⟨rfl, rfl, rfl, rfl, rfl, rfl, trivial⟩).post (fun o hs' ho => ⟨ho.1, ?_⟩)
        unfold z_da
        rw [if_neg (fun z => by first | omega | (simp_all [zb]; done)), if_neg (by omega)]
        exact ho.2
      · first | refine V.aload_nR (pc := 192) d_R_doAction_192 rfl ?_ | refine V.aload_n (pc := 192) d_R_doAction_192 rfl ?_
        refine Vr.get (pc := 193) d_R_doAction_193 g_R_13 hR rfl ?_
        refine Vi.bipush (pc := 196) d_R_doAction_196 (by decide) ?_
        refine Vi.icmp_ne (pc := 198) (tgt := 210) d_R_doAction_198 (by decide) (by first | assumption | decide | omega | (simp [up] <;> omega)) (by first | assumption | decide | omega | (simp [up] <;> omega)) (fun c_198 => ?_) (fun c_198 => ?_)
        · refine (V.lop (r_da2 hR h hr hB hf hx ha hw (by omega)) ⟨rfl, rfl, rfl, rfl, rfl, rfl, trivial⟩).post (fun o hs' ho => ⟨ho.1, ?_⟩)
          unfold z_da
          rw [if_neg (fun z => by first | omega | (simp_all [zb]; done)), if_neg (by omega)]
          exact ho.2
        · first | refine V.aload_nR (pc := 201) d_R_doAction_201 rfl ?_ | refine V.aload_n (pc := 201) d_R_doAction_201 rfl ?_
          refine Vi.bipush (pc := 202) d_R_doAction_202 (by decide) ?_
          refine Vr.put8 (pc := 204) d_R_doAction_204 f_R_34 hR (fun hs hR => ?_)
          refine V.goto (pc := 207) (tgt := 503) d_R_doAction_207 (by decide) ?_
          refine V.return_ (pc := 503) d_R_doAction_503 rfl ?_
          refine ⟨rfl, ?_⟩
          unfold z_da
          (repeat' split) <;> first | exact hR | (exfalso; omega) | (exfalso; simp_all [zb]; done)
    · first | refine V.aload_nR (pc := 162) d_R_doAction_162 rfl ?_ | refine V.aload_n (pc := 162) d_R_doAction_162 rfl ?_
      refine Vr.get (pc := 163) d_R_doAction_163 g_R_69 hR rfl ?_
      refine V.iload_n (pc := 166) d_R_doAction_166 rfl ?_
      refine Vr.ald (pc := 167) (n := 24) d_R_doAction_167 hR (by decide) rfl (by first | assumption | decide | omega | (simp [up] <;> omega)) ?_
      refine Vi.if_lt (pc := 168) (tgt := 187) d_R_doAction_168 (by decide) (by first | assumption | decide | omega | (simp [up] <;> omega)) (fun c_168 => ?_) (fun c_168 => ?_)
      · refine V.iload (pc := 187) d_R_doAction_187 rfl ?_
        refine Vi.if_eq (pc := 189) (tgt := 210) d_R_doAction_189 (by decide) (by first | assumption | decide | omega | (simp [up] <;> omega)) (fun c_189 => ?_) (fun c_189 => ?_)
        · refine (V.lop (r_da2 hR h hr hB hf hx ha hw (by omega)) ⟨rfl, rfl, rfl, rfl, rfl, rfl, trivial⟩).post (fun o hs' ho => ⟨ho.1, ?_⟩)
          unfold z_da
          rw [if_neg (fun z => by first | omega | (simp_all [zb]; done)), if_neg (by omega)]
          exact ho.2
        · first | refine V.aload_nR (pc := 192) d_R_doAction_192 rfl ?_ | refine V.aload_n (pc := 192) d_R_doAction_192 rfl ?_
          refine Vr.get (pc := 193) d_R_doAction_193 g_R_13 hR rfl ?_
          refine Vi.bipush (pc := 196) d_R_doAction_196 (by decide) ?_
          refine Vi.icmp_ne (pc := 198) (tgt := 210) d_R_doAction_198 (by decide) (by first | assumption | decide | omega | (simp [up] <;> omega)) (by first | assumption | decide | omega | (simp [up] <;> omega)) (fun c_198 => ?_) (fun c_198 => ?_)
          · refine (V.lop (r_da2 hR h hr hB hf hx ha hw (by omega)) ⟨rfl, rfl, rfl, rfl, rfl, rfl, trivial⟩).post (fun o hs' ho => ⟨ho.1, ?_⟩)
            unfold z_da
            rw [if_neg (fun z => by first | omega | (simp_all [zb]; done)), if_neg (by omega)]
            exact ho.2
          · first | refine V.aload_nR (pc := 201) d_R_doAction_201 rfl ?_ | refine V.aload_n (pc := 201) d_R_doAction_201 rfl ?_
            refine Vi.bipush (pc := 202) d_R_doAction_202 (by decide) ?_
            refine Vr.put8 (pc := 204) d_R_doAction_204 f_R_34 hR (fun hs hR => ?_)
            refine V.goto (pc := 207) (tgt := 503) d_R_doAction_207 (by decide) ?_
            refine V.return_ (pc := 503) d_R_doAction_503 rfl ?_
            refine ⟨rfl, ?_⟩
            unfold z_da
            (repeat' split) <;> first | exact hR | (exfalso; omega) | (exfalso; simp_all [zb]; done)
      · first | refine V.aload_nR (pc := 171) d_R_doAction_171 rfl ?_ | refine V.aload_n (pc := 171) d_R_doAction_171 rfl ?_
        refine V.iload_n (pc := 172) d_R_doAction_172 rfl ?_
        refine V.callV (pc := 173) d_R_doAction_173 Y_R_shielded l_R_166 wi_R_shielded wv_R_shielded (ci := 6) rfl rfl [_] hR.o rfl rfl ⟨by repeat (first | exact trivial | refine ⟨(by first | rfl | exact vrf_cat _), ?_⟩), Nat.le_of_ble_eq_true rfl⟩ ⟨⟨rfl, (by first | rfl | exact vrf_cat _), trivial⟩, Nat.le_of_ble_eq_true rfl⟩ (r_shielded hR (by omega) h21 (fun i z1 z2 => by have := hgj.2.2.2.2.2.2.2 i z1 z2; omega)) (fun v hs ho => ?_) (fun E hs ho => by simp at ho)
        obtain ⟨ho, rfl⟩ := ho
        cases ho
        generalize hz_173 : z_shielded T j = sh_173
        have hzb_173 : zb sh_173 = 0 ∨ zb sh_173 = 1 := by cases sh_173 <;> simp [zb]
        refine Vi.if_ne (pc := 176) (tgt := 187) d_R_doAction_176 (by decide) (by first | assumption | decide | omega | (simp [up] <;> omega)) (fun c_176 => ?_) (fun c_176 => ?_)
        · refine V.iload (pc := 187) d_R_doAction_187 rfl ?_
          refine Vi.if_eq (pc := 189) (tgt := 210) d_R_doAction_189 (by decide) (by first | assumption | decide | omega | (simp [up] <;> omega)) (fun c_189 => ?_) (fun c_189 => ?_)
          · refine (V.lop (r_da2 hR h hr hB hf hx ha hw (by omega)) ⟨rfl, rfl, rfl, rfl, rfl, rfl, trivial⟩).post (fun o hs' ho => ⟨ho.1, ?_⟩)
            unfold z_da
            rw [if_neg (fun z => by first | omega | (simp_all [zb]; done)), if_neg (by omega)]
            exact ho.2
          · first | refine V.aload_nR (pc := 192) d_R_doAction_192 rfl ?_ | refine V.aload_n (pc := 192) d_R_doAction_192 rfl ?_
            refine Vr.get (pc := 193) d_R_doAction_193 g_R_13 hR rfl ?_
            refine Vi.bipush (pc := 196) d_R_doAction_196 (by decide) ?_
            refine Vi.icmp_ne (pc := 198) (tgt := 210) d_R_doAction_198 (by decide) (by first | assumption | decide | omega | (simp [up] <;> omega)) (by first | assumption | decide | omega | (simp [up] <;> omega)) (fun c_198 => ?_) (fun c_198 => ?_)
            · refine (V.lop (r_da2 hR h hr hB hf hx ha hw (by omega)) ⟨rfl, rfl, rfl, rfl, rfl, rfl, trivial⟩).post (fun o hs' ho => ⟨ho.1, ?_⟩)
              unfold z_da
              rw [if_neg (fun z => by first | omega | (simp_all [zb]; done)), if_neg (by omega)]
              exact ho.2
            · first | refine V.aload_nR (pc := 201) d_R_doAction_201 rfl ?_ | refine V.aload_n (pc := 201) d_R_doAction_201 rfl ?_
              refine Vi.bipush (pc := 202) d_R_doAction_202 (by decide) ?_
              refine Vr.put8 (pc := 204) d_R_doAction_204 f_R_34 hR (fun hs hR => ?_)
              refine V.goto (pc := 207) (tgt := 503) d_R_doAction_207 (by decide) ?_
              refine V.return_ (pc := 503) d_R_doAction_503 rfl ?_
              refine ⟨rfl, ?_⟩
              unfold z_da
              (repeat' split) <;> first | exact hR | (exfalso; omega) | (exfalso; simp_all [zb]; done)
        · first | refine V.aload_nR (pc := 179) d_R_doAction_179 rfl ?_ | refine V.aload_n (pc := 179) d_R_doAction_179 rfl ?_
          refine Vi.iconst (pc := 180) d_R_doAction_180 ?_
          refine Vr.put8 (pc := 181) d_R_doAction_181 f_R_34 hR (fun hs hR => ?_)
          refine V.goto (pc := 184) (tgt := 503) d_R_doAction_184 (by decide) ?_
          refine V.return_ (pc := 503) d_R_doAction_503 rfl ?_
          refine ⟨rfl, ?_⟩
          unfold z_da
          (repeat' split) <;> first | exact hR | (exfalso; omega) | (exfalso; simp_all [zb]; done)
  have t1 : ∀ r7 : Int, (r7 = 1 ∧ PA x ∨ r7 = 0 ∧ ¬ PA x) → V jcl w m_R_doAction (d + 4) 130 [(0, .ref mo), (1, .int (ii j)), (2, .int (ii f)), (4, .int (ii x)), (5, .int (ii a)), (6, .int (ii c)), (7, .int (ii r7))] [] hs (fun o hs' => o = .inl none ∧ RepR w mo ra (z_da T j f x a c) g b hs') := by
    intro r7 h7
    refine V.iload (pc := 130) d_R_doAction_130 rfl ?_
    refine Vi.iconst (pc := 132) d_R_doAction_132 ?_
    refine Vi.icmp_eq (pc := 133) (tgt := 150) d_R_doAction_133 (by decide) (by first | assumption | decide | omega | (simp [up] <;> omega)) (by first | assumption | decide | omega | (simp [up] <;> omega)) (fun c_133 => ?_) (fun c_133 => ?_)
    · refine Vi.iconst (pc := 150) d_R_doAction_150 ?_
      refine V.goto (pc := 151) (tgt := 155) d_R_doAction_151 (by decide) ?_
      refine V.istore (pc := 155) d_R_doAction_155 (by decide) ?_
      exact V.lop (t2 r7 _ h7 (by omega)) ⟨rfl, rfl, rfl, rfl, rfl, rfl, rfl, rfl, trivial⟩
    · refine V.iload (pc := 136) d_R_doAction_136 rfl ?_
      refine Vi.bipush (pc := 138) d_R_doAction_138 (by decide) ?_
      refine Vi.icmp_le (pc := 140) (tgt := 154) d_R_doAction_140 (by decide) (by first | assumption | decide | omega | (simp [up] <;> omega)) (by first | assumption | decide | omega | (simp [up] <;> omega)) (fun c_140 => ?_) (fun c_140 => ?_)
      · refine Vi.iconst (pc := 154) d_R_doAction_154 ?_
        refine V.istore (pc := 155) d_R_doAction_155 (by decide) ?_
        exact V.lop (t2 r7 _ h7 (by omega)) ⟨rfl, rfl, rfl, rfl, rfl, rfl, rfl, rfl, trivial⟩
      · refine V.iload (pc := 143) d_R_doAction_143 rfl ?_
        refine Vi.bipush (pc := 145) d_R_doAction_145 (by decide) ?_
        refine Vi.icmp_ge (pc := 147) (tgt := 154) d_R_doAction_147 (by decide) (by first | assumption | decide | omega | (simp [up] <;> omega)) (by first | assumption | decide | omega | (simp [up] <;> omega)) (fun c_147 => ?_) (fun c_147 => ?_)
        · refine Vi.iconst (pc := 154) d_R_doAction_154 ?_
          refine V.istore (pc := 155) d_R_doAction_155 (by decide) ?_
          exact V.lop (t2 r7 _ h7 (by omega)) ⟨rfl, rfl, rfl, rfl, rfl, rfl, rfl, rfl, trivial⟩
        · refine Vi.iconst (pc := 150) d_R_doAction_150 ?_
          refine V.goto (pc := 151) (tgt := 155) d_R_doAction_151 (by decide) ?_
          refine V.istore (pc := 155) d_R_doAction_155 (by decide) ?_
          exact V.lop (t2 r7 _ h7 (by omega)) ⟨rfl, rfl, rfl, rfl, rfl, rfl, rfl, rfl, trivial⟩
  refine V.iload (pc := 85) d_R_doAction_85 rfl ?_
  refine Vi.iconst (pc := 87) d_R_doAction_87 ?_
  refine Vi.icmp_eq (pc := 88) (tgt := 123) d_R_doAction_88 (by decide) (by first | assumption | decide | omega | (simp [up] <;> omega)) (by first | assumption | decide | omega | (simp [up] <;> omega)) (fun c_88 => ?_) (fun c_88 => ?_)
  · refine Vi.iconst (pc := 123) d_R_doAction_123 ?_
    refine V.goto (pc := 124) (tgt := 128) d_R_doAction_124 (by decide) ?_
    refine V.istore (pc := 128) d_R_doAction_128 (by decide) ?_
    exact V.lop (t1 _ (by omega)) ⟨rfl, rfl, rfl, rfl, rfl, rfl, rfl, trivial⟩
  · refine V.iload (pc := 91) d_R_doAction_91 rfl ?_
    refine Vi.iconst (pc := 93) d_R_doAction_93 ?_
    refine Vi.icmp_eq (pc := 94) (tgt := 123) d_R_doAction_94 (by decide) (by first | assumption | decide | omega | (simp [up] <;> omega)) (by first | assumption | decide | omega | (simp [up] <;> omega)) (fun c_94 => ?_) (fun c_94 => ?_)
    · refine Vi.iconst (pc := 123) d_R_doAction_123 ?_
      refine V.goto (pc := 124) (tgt := 128) d_R_doAction_124 (by decide) ?_
      refine V.istore (pc := 128) d_R_doAction_128 (by decide) ?_
      exact V.lop (t1 _ (by omega)) ⟨rfl, rfl, rfl, rfl, rfl, rfl, rfl, trivial⟩
    · refine V.iload (pc := 97) d_R_doAction_97 rfl ?_
      refine Vi.iconst (pc := 99) d_R_doAction_99 ?_
      refine Vi.icmp_eq (pc := 100) (tgt := 123) d_R_doAction_100 (by decide) (by first | assumption | decide | omega | (simp [up] <;> omega)) (by first | assumption | decide | omega | (simp [up] <;> omega)) (fun c_100 => ?_) (fun c_100 => ?_)
      · refine Vi.iconst (pc := 123) d_R_doAction_123 ?_
        refine V.goto (pc := 124) (tgt := 128) d_R_doAction_124 (by decide) ?_
        refine V.istore (pc := 128) d_R_doAction_128 (by decide) ?_
        exact V.lop (t1 _ (by omega)) ⟨rfl, rfl, rfl, rfl, rfl, rfl, rfl, trivial⟩
      · refine V.iload (pc := 103) d_R_doAction_103 rfl ?_
        refine Vi.iconst (pc := 105) d_R_doAction_105 ?_
        refine Vi.icmp_eq (pc := 106) (tgt := 123) d_R_doAction_106 (by decide) (by first | assumption | decide | omega | (simp [up] <;> omega)) (by first | assumption | decide | omega | (simp [up] <;> omega)) (fun c_106 => ?_) (fun c_106 => ?_)
        · refine Vi.iconst (pc := 123) d_R_doAction_123 ?_
          refine V.goto (pc := 124) (tgt := 128) d_R_doAction_124 (by decide) ?_
          refine V.istore (pc := 128) d_R_doAction_128 (by decide) ?_
          exact V.lop (t1 _ (by omega)) ⟨rfl, rfl, rfl, rfl, rfl, rfl, rfl, trivial⟩
        · refine V.iload (pc := 109) d_R_doAction_109 rfl ?_
          refine Vi.bipush (pc := 111) d_R_doAction_111 (by decide) ?_
          refine Vi.icmp_le (pc := 113) (tgt := 127) d_R_doAction_113 (by decide) (by first | assumption | decide | omega | (simp [up] <;> omega)) (by first | assumption | decide | omega | (simp [up] <;> omega)) (fun c_113 => ?_) (fun c_113 => ?_)
          · refine Vi.iconst (pc := 127) d_R_doAction_127 ?_
            refine V.istore (pc := 128) d_R_doAction_128 (by decide) ?_
            exact V.lop (t1 _ (by omega)) ⟨rfl, rfl, rfl, rfl, rfl, rfl, rfl, trivial⟩
          · refine V.iload (pc := 116) d_R_doAction_116 rfl ?_
            refine Vi.bipush (pc := 118) d_R_doAction_118 (by decide) ?_
            refine Vi.icmp_ge (pc := 120) (tgt := 127) d_R_doAction_120 (by decide) (by first | assumption | decide | omega | (simp [up] <;> omega)) (by first | assumption | decide | omega | (simp [up] <;> omega)) (fun c_120 => ?_) (fun c_120 => ?_)
            · refine Vi.iconst (pc := 127) d_R_doAction_127 ?_
              refine V.istore (pc := 128) d_R_doAction_128 (by decide) ?_
              exact V.lop (t1 _ (by omega)) ⟨rfl, rfl, rfl, rfl, rfl, rfl, rfl, trivial⟩
            · refine Vi.iconst (pc := 123) d_R_doAction_123 ?_
              refine V.goto (pc := 124) (tgt := 128) d_R_doAction_124 (by decide) ?_
              refine V.istore (pc := 128) d_R_doAction_128 (by decide) ?_
              exact V.lop (t1 _ (by omega)) ⟨rfl, rfl, rfl, rfl, rfl, rfl, rfl, trivial⟩
theorem r_doAction {j : Int} (hR : RepR w mo ra S g b hs) (hO : Ok j S) (hA : At j S) : V jcl w m_R_doAction (d + 4) 0 [(0, .ref mo), (1, .int (ii j))] [] hs (fun o hs' => o = .inl none ∧ RepR w mo ra (z_doAction S j) g b hs') := by
  have hO' := hO
  obtain ⟨h, hr, he, hB, h0, h8, h9, h10⟩ := hO'
  have hJ := h.J
  have hj := hr.1
  have hgj := h.gd.2.1 j hj.1 hj.2
  have h21 : 0 ≤ S 21 j ∧ S 21 j ≤ 6 := hgj.2.2.2.1
  have hfr := h.fr j (j * 6 + S 21 j - 1) hj.1 hj.2 (by omega) (by omega)
  unfold FJ at hfr
  have hsz := h.pg.1 (S 33 (j * 6 + S 21 j - 1)) (by omega) (by omega)
  unfold At at hA
  have hk : 0 ≤ S 33 (j * 6 + S 21 j - 1) * 8 + S 34 (j * 6 + S 21 j - 1) ∧ S 33 (j * 6 + S 21 j - 1) * 8 + S 34 (j * 6 + S 21 j - 1) < 80 := by omega
  have hpg := h.pg.2 _ hk.1 hk.2
  obtain ⟨A1, A2, A3, A4⟩ := z_adv_ok (f := j * 6 + S 21 j - 1) hO (by omega)
  have e33 : z_adv S (j * 6 + S 21 j - 1) 33 (j * 6 + S 21 j - 1) = S 33 (j * 6 + S 21 j - 1) := by simp [z_adv, up]
  refine V.iload_n (pc := 0) d_R_doAction_0 rfl ?_
  refine Vi.bipush (pc := 1) d_R_doAction_1 (by decide) ?_
  refine Vi.imul (pc := 3) d_R_doAction_3 ?_
  first | refine V.aload_nR (pc := 4) d_R_doAction_4 rfl ?_ | refine V.aload_n (pc := 4) d_R_doAction_4 rfl ?_
  refine Vr.get (pc := 5) d_R_doAction_5 g_R_75 hR rfl ?_
  refine V.iload_n (pc := 8) d_R_doAction_8 rfl ?_
  refine Vr.ald (pc := 9) (n := 24) d_R_doAction_9 hR (by decide) rfl (by first | assumption | decide | omega | (simp [up] <;> omega)) ?_
  refine Vi.iadd (pc := 10) d_R_doAction_10 ?_
  refine Vi.iconst (pc := 11) d_R_doAction_11 ?_
  refine Vi.isub (pc := 12) d_R_doAction_12 ?_
  refine V.istore_n (pc := 13) d_R_doAction_13 (by decide) ?_
  first | refine V.aload_nR (pc := 14) d_R_doAction_14 rfl ?_ | refine V.aload_n (pc := 14) d_R_doAction_14 rfl ?_
  refine Vr.get (pc := 15) d_R_doAction_15 g_R_112 hR rfl ?_
  refine V.iload_n (pc := 18) d_R_doAction_18 rfl ?_
  refine Vr.ald (pc := 19) (n := 144) d_R_doAction_19 hR (by decide) rfl (by first | assumption | decide | omega | (simp [up] <;> omega)) ?_
  refine Vi.bipush (pc := 20) d_R_doAction_20 (by decide) ?_
  refine Vi.imul (pc := 22) d_R_doAction_22 ?_
  first | refine V.aload_nR (pc := 23) d_R_doAction_23 rfl ?_ | refine V.aload_n (pc := 23) d_R_doAction_23 rfl ?_
  refine Vr.get (pc := 24) d_R_doAction_24 g_R_115 hR rfl ?_
  refine V.iload_n (pc := 27) d_R_doAction_27 rfl ?_
  refine Vr.ald (pc := 28) (n := 144) d_R_doAction_28 hR (by decide) rfl (by first | assumption | decide | omega | (simp [up] <;> omega)) ?_
  refine Vi.iadd (pc := 29) d_R_doAction_29 ?_
  refine V.istore_n (pc := 30) d_R_doAction_30 (by decide) ?_
  first | refine V.aload_nR (pc := 31) d_R_doAction_31 rfl ?_ | refine V.aload_n (pc := 31) d_R_doAction_31 rfl ?_
  refine Vr.get (pc := 32) d_R_doAction_32 g_R_48 hR rfl ?_
  refine V.iload_n (pc := 35) d_R_doAction_35 rfl ?_
  refine Vr.ald (pc := 36) (n := 80) d_R_doAction_36 hR (by decide) rfl (by first | assumption | decide | omega | (simp [up] <;> omega)) ?_
  refine V.istore (pc := 37) d_R_doAction_37 (by decide) ?_
  first | refine V.aload_nR (pc := 39) d_R_doAction_39 rfl ?_ | refine V.aload_n (pc := 39) d_R_doAction_39 rfl ?_
  refine Vr.get (pc := 40) d_R_doAction_40 g_R_51 hR rfl ?_
  refine V.iload_n (pc := 43) d_R_doAction_43 rfl ?_
  refine Vr.ald (pc := 44) (n := 80) d_R_doAction_44 hR (by decide) rfl (by first | assumption | decide | omega | (simp [up] <;> omega)) ?_
  refine V.istore (pc := 45) d_R_doAction_45 (by decide) ?_
  first | refine V.aload_nR (pc := 47) d_R_doAction_47 rfl ?_ | refine V.aload_n (pc := 47) d_R_doAction_47 rfl ?_
  refine Vr.get (pc := 48) d_R_doAction_48 g_R_54 hR rfl ?_
  refine V.iload_n (pc := 51) d_R_doAction_51 rfl ?_
  refine Vr.ald (pc := 52) (n := 80) d_R_doAction_52 hR (by decide) rfl (by first | assumption | decide | omega | (simp [up] <;> omega)) ?_
  refine V.istore (pc := 53) d_R_doAction_53 (by decide) ?_
  first | refine V.aload_nR (pc := 55) d_R_doAction_55 rfl ?_ | refine V.aload_n (pc := 55) d_R_doAction_55 rfl ?_
  refine Vr.get (pc := 56) d_R_doAction_56 g_R_115 hR rfl ?_
  refine V.iload_n (pc := 59) d_R_doAction_59 rfl ?_
  refine V.dup2 (pc := 60) d_R_doAction_60 (by first | rfl | exact vrf_cat _) (by first | rfl | exact vrf_cat _) ?_
  refine Vr.ald (pc := 61) (n := 144) d_R_doAction_61 hR (by decide) rfl (by first | assumption | decide | omega | (simp [up] <;> omega)) ?_
  refine Vi.iconst (pc := 62) d_R_doAction_62 ?_
  refine Vi.iadd (pc := 63) d_R_doAction_63 ?_
  refine Vr.ast (pc := 64) (n := 144) d_R_doAction_64 hR (by decide) rfl (by first | assumption | decide | omega | (simp [up] <;> omega)) (fun hs hR => ?_)
  first | refine V.aload_nR (pc := 65) d_R_doAction_65 rfl ?_ | refine V.aload_n (pc := 65) d_R_doAction_65 rfl ?_
  refine V.dup (pc := 66) d_R_doAction_66 (by first | rfl | exact vrf_cat _) ?_
  refine Vr.get (pc := 67) d_R_doAction_67 g_R_37 hR rfl ?_
  refine Vi.iconst (pc := 70) d_R_doAction_70 ?_
  refine Vi.iadd (pc := 71) d_R_doAction_71 ?_
  refine Vr.put9 (pc := 72) d_R_doAction_72 f_R_37 hR (fun hs hR => ?_)
  first | refine V.aload_nR (pc := 75) d_R_doAction_75 rfl ?_ | refine V.aload_n (pc := 75) d_R_doAction_75 rfl ?_
  refine V.dup (pc := 76) d_R_doAction_76 (by first | rfl | exact vrf_cat _) ?_
  refine Vr.get (pc := 77) d_R_doAction_77 g_R_25 hR rfl ?_
  refine Vi.iconst (pc := 80) d_R_doAction_80 ?_
  refine Vi.iadd (pc := 81) d_R_doAction_81 ?_
  refine Vr.put5 (pc := 82) d_R_doAction_82 f_R_25 hR (fun hs hR => ?_)
  refine V.lop (r_da (T := z_adv S (j * 6 + S 21 j - 1)) (j := j) (f := j * 6 + S 21 j - 1) (by simpa [z_adv, up_f] using hR) A1 A2 (A4.le (by omega)) (by rw [e33]; omega) hpg.1 hpg.2.1.1 hpg.2.2) ⟨rfl, rfl, rfl, rfl, rfl, rfl, trivial⟩
/-- one turn of resume's loop -/
def zst (S : js) (j : Int) : js :=
  if 0 ≤ S 8 0 then z_throwAt S j (S 8 0)
  else if S 11 (S 33 (j * 6 + S 21 j - 1)) ≤ S 34 (j * 6 + S 21 j - 1) then z_frameEnds S j
  else if S 9 0 < 60 then z_doAction S j
  else up (z_putReady S j (-1)) 10 0 1
def RSn (j : Int) : Nat → js → js → Prop
  | 0, S, T => S 10 0 = 1 ∧ T = S
  | n + 1, S, T => Ok j S ∧ RSn j n (zst S j) T
/-- the loop goes from S to T, where it stops -/
def RS (j : Int) (S T : js) : Prop := ∃ n, RSn j n S T
theorem r_rs {j : Int} : ∀ (n : Nat) (S T : js) (hs : jh), RSn j n S T → RepR w mo ra S g b hs →
    V jcl w m_R_resume (d + 5) 20 [(0, .ref mo), (1, .int (ii j))] [] hs (fun o hs' => o = .inl none ∧ RepR w mo ra T g b hs') := by
  intro n
  induction n with
  | zero =>
    intro S T hs hn hR
    obtain ⟨h10, rfl⟩ := hn
    first | refine V.aload_nR (pc := 20) d_R_resume_20 rfl ?_ | refine V.aload_n (pc := 20) d_R_resume_20 rfl ?_
    refine Vr.get (pc := 21) d_R_resume_21 g_R_40 hR rfl ?_
    refine Vi.if_ne (pc := 24) (tgt := 119) d_R_resume_24 (by decide) (by first | assumption | decide | omega | (simp [up] <;> omega)) (fun c_24 => ?_) (fun c_24 => ?_)
    · refine V.return_ (pc := 119) d_R_resume_119 rfl ?_
      exact ⟨rfl, hR⟩
    · omega
  | succ n ih =>
    intro S T hs hn hR
    obtain ⟨hO, hn⟩ := hn
    have hO' := hO
    obtain ⟨h, hr, he, hB, h0, h8, h9, h10⟩ := hO'
    have hJ := h.J
    have hj := hr.1
    have hgj := h.gd.2.1 j hj.1 hj.2
    have h21 : 0 ≤ S 21 j ∧ S 21 j ≤ 6 := hgj.2.2.2.1
    have hfr := h.fr j (j * 6 + S 21 j - 1) hj.1 hj.2 (by omega) (by omega)
    unfold FJ at hfr
    have hsz := h.pg.1 (S 33 (j * 6 + S 21 j - 1)) (by omega) (by omega)
    have hrm := Ok.room h hr
    first | refine V.aload_nR (pc := 20) d_R_resume_20 rfl ?_ | refine V.aload_n (pc := 20) d_R_resume_20 rfl ?_
    refine Vr.get (pc := 21) d_R_resume_21 g_R_40 hR rfl ?_
    refine Vi.if_ne (pc := 24) (tgt := 119) d_R_resume_24 (by decide) (by first | assumption | decide | omega | (simp [up] <;> omega)) (fun c_24 => ?_) (fun c_24 => ?_)
    · refine V.return_ (pc := 119) d_R_resume_119 rfl ?_
      omega
    · refine V.iload_n (pc := 27) d_R_resume_27 rfl ?_
      refine Vi.bipush (pc := 28) d_R_resume_28 (by decide) ?_
      refine Vi.imul (pc := 30) d_R_resume_30 ?_
      first | refine V.aload_nR (pc := 31) d_R_resume_31 rfl ?_ | refine V.aload_n (pc := 31) d_R_resume_31 rfl ?_
      refine Vr.get (pc := 32) d_R_resume_32 g_R_75 hR rfl ?_
      refine V.iload_n (pc := 35) d_R_resume_35 rfl ?_
      refine Vr.ald (pc := 36) (n := 24) d_R_resume_36 hR (by decide) rfl (by first | assumption | decide | omega | (simp [up] <;> omega)) ?_
      refine Vi.iadd (pc := 37) d_R_resume_37 ?_
      refine Vi.iconst (pc := 38) d_R_resume_38 ?_
      refine Vi.isub (pc := 39) d_R_resume_39 ?_
      refine V.istore_n (pc := 40) d_R_resume_40 (by decide) ?_
      first | refine V.aload_nR (pc := 41) d_R_resume_41 rfl ?_ | refine V.aload_n (pc := 41) d_R_resume_41 rfl ?_
      refine Vr.get (pc := 42) d_R_resume_42 g_R_34 hR rfl ?_
      refine Vi.if_lt (pc := 45) (tgt := 60) d_R_resume_45 (by decide) (by first | assumption | decide | omega | (simp [up] <;> omega)) (fun c_45 => ?_) (fun c_45 => ?_)
      · first | refine V.aload_nR (pc := 60) d_R_resume_60 rfl ?_ | refine V.aload_n (pc := 60) d_R_resume_60 rfl ?_
        refine Vr.get (pc := 61) d_R_resume_61 g_R_115 hR rfl ?_
        refine V.iload_n (pc := 64) d_R_resume_64 rfl ?_
        refine Vr.ald (pc := 65) (n := 144) d_R_resume_65 hR (by decide) rfl (by first | assumption | decide | omega | (simp [up] <;> omega)) ?_
        first | refine V.aload_nR (pc := 66) d_R_resume_66 rfl ?_ | refine V.aload_n (pc := 66) d_R_resume_66 rfl ?_
        refine Vr.get (pc := 67) d_R_resume_67 g_R_44 hR rfl ?_
        first | refine V.aload_nR (pc := 70) d_R_resume_70 rfl ?_ | refine V.aload_n (pc := 70) d_R_resume_70 rfl ?_
        refine Vr.get (pc := 71) d_R_resume_71 g_R_112 hR rfl ?_
        refine V.iload_n (pc := 74) d_R_resume_74 rfl ?_
        refine Vr.ald (pc := 75) (n := 144) d_R_resume_75 hR (by decide) rfl (by first | assumption | decide | omega | (simp [up] <;> omega)) ?_
        refine Vr.ald (pc := 76) (n := 10) d_R_resume_76 hR (by decide) rfl (by first | assumption | decide | omega | (simp [up] <;> omega)) ?_
        refine Vi.icmp_lt (pc := 77) (tgt := 88) d_R_resume_77 (by decide) (by first | assumption | decide | omega | (simp [up] <;> omega)) (by first | assumption | decide | omega | (simp [up] <;> omega)) (fun c_77 => ?_) (fun c_77 => ?_)
        · first | refine V.aload_nR (pc := 88) d_R_resume_88 rfl ?_ | refine V.aload_n (pc := 88) d_R_resume_88 rfl ?_
          refine Vr.get (pc := 89) d_R_resume_89 g_R_37 hR rfl ?_
          refine Vi.bipush (pc := 92) d_R_resume_92 (by decide) ?_
          refine Vi.icmp_ge (pc := 94) (tgt := 105) d_R_resume_94 (by decide) (by first | assumption | decide | omega | (simp [up] <;> omega)) (by first | assumption | decide | omega | (simp [up] <;> omega)) (fun c_94 => ?_) (fun c_94 => ?_)
          · first | refine V.aload_nR (pc := 105) d_R_resume_105 rfl ?_ | refine V.aload_n (pc := 105) d_R_resume_105 rfl ?_
            refine V.iload_n (pc := 106) d_R_resume_106 rfl ?_
            refine Vi.iconst (pc := 107) d_R_resume_107 ?_
            refine V.callV (pc := 108) d_R_resume_108 Y_R_putReady l_R_154 wi_R_putReady wv_R_putReady (ci := 6) rfl rfl [_, _] hR.o rfl rfl ⟨by repeat (first | exact trivial | refine ⟨(by first | rfl | exact vrf_cat _), ?_⟩), Nat.le_of_ble_eq_true rfl⟩ ⟨⟨rfl, (by first | rfl | exact vrf_cat _), (by first | rfl | exact vrf_cat _), trivial⟩, Nat.le_of_ble_eq_true rfl⟩ (r_putReady hR (by omega) (by omega)) (fun v hs ho => ?_) (fun E hs ho => by simp at ho)
            obtain ⟨ho, hR⟩ := ho
            cases ho
            first | refine V.aload_nR (pc := 111) d_R_resume_111 rfl ?_ | refine V.aload_n (pc := 111) d_R_resume_111 rfl ?_
            refine Vi.iconst (pc := 112) d_R_resume_112 ?_
            refine Vr.put10 (pc := 113) d_R_resume_113 f_R_40 hR (by decide) (fun hs hR => ?_)
            refine V.goto (pc := 116) (tgt := 20) d_R_resume_116 (by decide) ?_
            refine V.lop (ih _ T _ hn ?_) ⟨rfl, rfl, trivial⟩
            unfold zst
            (repeat' split) <;> first | exact hR | (exfalso; omega)
          · first | refine V.aload_nR (pc := 97) d_R_resume_97 rfl ?_ | refine V.aload_n (pc := 97) d_R_resume_97 rfl ?_
            refine V.iload_n (pc := 98) d_R_resume_98 rfl ?_
            refine V.callV (pc := 99) d_R_resume_99 Y_R_doAction l_R_210 wi_R_doAction wv_R_doAction (ci := 6) rfl rfl [_] hR.o rfl rfl ⟨by repeat (first | exact trivial | refine ⟨(by first | rfl | exact vrf_cat _), ?_⟩), Nat.le_of_ble_eq_true rfl⟩ ⟨⟨rfl, (by first | rfl | exact vrf_cat _), trivial⟩, Nat.le_of_ble_eq_true rfl⟩ (r_doAction hR hO (by unfold At; omega)) (fun v hs ho => ?_) (fun E hs ho => by simp at ho)
            obtain ⟨ho, hR⟩ := ho
            cases ho
            refine V.goto (pc := 102) (tgt := 116) d_R_resume_102 (by decide) ?_
            refine V.goto (pc := 116) (tgt := 20) d_R_resume_116 (by decide) ?_
            refine V.lop (ih _ T _ hn ?_) ⟨rfl, rfl, trivial⟩
            unfold zst
            (repeat' split) <;> first | exact hR | (exfalso; omega)
        · first | refine V.aload_nR (pc := 80) d_R_resume_80 rfl ?_ | refine V.aload_n (pc := 80) d_R_resume_80 rfl ?_
          refine V.iload_n (pc := 81) d_R_resume_81 rfl ?_
          refine V.callV (pc := 82) d_R_resume_82 Y_R_frameEnds l_R_207 wi_R_frameEnds wv_R_frameEnds (ci := 6) rfl rfl [_] hR.o rfl rfl ⟨by repeat (first | exact trivial | refine ⟨(by first | rfl | exact vrf_cat _), ?_⟩), Nat.le_of_ble_eq_true rfl⟩ ⟨⟨rfl, (by first | rfl | exact vrf_cat _), trivial⟩, Nat.le_of_ble_eq_true rfl⟩ (r_frameEnds hR hO) (fun v hs ho => ?_) (fun E hs ho => by simp at ho)
          obtain ⟨ho, hR⟩ := ho
          cases ho
          refine V.goto (pc := 85) (tgt := 116) d_R_resume_85 (by decide) ?_
          refine V.goto (pc := 116) (tgt := 20) d_R_resume_116 (by decide) ?_
          refine V.lop (ih _ T _ hn ?_) ⟨rfl, rfl, trivial⟩
          unfold zst
          (repeat' split) <;> first | exact hR | (exfalso; omega)
      · first | refine V.aload_nR (pc := 48) d_R_resume_48 rfl ?_ | refine V.aload_n (pc := 48) d_R_resume_48 rfl ?_
        refine V.iload_n (pc := 49) d_R_resume_49 rfl ?_
        first | refine V.aload_nR (pc := 50) d_R_resume_50 rfl ?_ | refine V.aload_n (pc := 50) d_R_resume_50 rfl ?_
        refine Vr.get (pc := 51) d_R_resume_51 g_R_34 hR rfl ?_
        refine V.callV (pc := 54) d_R_resume_54 Y_R_throwAt l_R_204 wi_R_throwAt wv_R_throwAt (ci := 6) rfl rfl [_, _] hR.o rfl rfl ⟨by repeat (first | exact trivial | refine ⟨(by first | rfl | exact vrf_cat _), ?_⟩), Nat.le_of_ble_eq_true rfl⟩ ⟨⟨rfl, (by first | rfl | exact vrf_cat _), (by first | rfl | exact vrf_cat _), trivial⟩, Nat.le_of_ble_eq_true rfl⟩ (r_throwAt hR hO (by omega)) (fun v hs ho => ?_) (fun E hs ho => by simp at ho)
        obtain ⟨ho, hR⟩ := ho
        cases ho
        refine V.goto (pc := 57) (tgt := 116) d_R_resume_57 (by decide) ?_
        refine V.goto (pc := 116) (tgt := 20) d_R_resume_116 (by decide) ?_
        refine V.lop (ih _ T _ hn ?_) ⟨rfl, rfl, trivial⟩
        unfold zst
        (repeat' split) <;> first | exact hR | (exfalso; omega)
/-- the state in which resume's loop begins -/
def z_res0 (S : js) (j : Int) : js := up (up (up S 8 0 (S 23 j)) 9 0 0) 10 0 0
theorem r_resume {j : Int} (hR : RepR w mo ra S g b hs) (hj : 0 ≤ j ∧ j < 24) (hS : RS j (z_res0 S j) T) : V jcl w m_R_resume (d + 5) 0 [(0, .ref mo), (1, .int (ii j))] [] hs (fun o hs' => o = .inl none ∧ RepR w mo ra T g b hs') := by
  obtain ⟨n, hn⟩ := hS
  first | refine V.aload_nR (pc := 0) d_R_resume_0 rfl ?_ | refine V.aload_n (pc := 0) d_R_resume_0 rfl ?_
  first | refine V.aload_nR (pc := 1) d_R_resume_1 rfl ?_ | refine V.aload_n (pc := 1) d_R_resume_1 rfl ?_
  refine Vr.get (pc := 2) d_R_resume_2 g_R_81 hR rfl ?_
  refine V.iload_n (pc := 5) d_R_resume_5 rfl ?_
  refine Vr.ald (pc := 6) (n := 24) d_R_resume_6 hR (by decide) rfl (by first | assumption | decide | omega | (simp [up] <;> omega)) ?_
  refine Vr.put8 (pc := 7) d_R_resume_7 f_R_34 hR (fun hs hR => ?_)
  first | refine V.aload_nR (pc := 10) d_R_resume_10 rfl ?_ | refine V.aload_n (pc := 10) d_R_resume_10 rfl ?_
  refine Vi.iconst (pc := 11) d_R_resume_11 ?_
  refine Vr.put9 (pc := 12) d_R_resume_12 f_R_37 hR (fun hs hR => ?_)
  first | refine V.aload_nR (pc := 15) d_R_resume_15 rfl ?_ | refine V.aload_n (pc := 15) d_R_resume_15 rfl ?_
  refine Vi.iconst (pc := 16) d_R_resume_16 ?_
  refine Vr.put10 (pc := 17) d_R_resume_17 f_R_40 hR (by decide) (fun hs hR => ?_)
  exact V.lop (r_rs n _ T _ hn hR) ⟨rfl, rfl, trivial⟩
end RC
