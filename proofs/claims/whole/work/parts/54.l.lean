/-! the law's loop -/
section KO
variable {w : jw} {d : Nat} {hs : jh} {th mo oa : Nat} {ra : Nat → Nat} {v : Int64} {S T : js} {b : Nat × Nat} {m p x a c j n : Int}
theorem Rt.u0 (h : Rt m S) {k : Int} : Rt m (up S 0 0 k) := ⟨h.1.fr1 (by omega), h.2.1.cg fun f i hf => up_f (by omega), h.2.2.cg fun f i hf => up_f (by omega)⟩
theorem Rt.le {m' : Int} (h : Rt m S) (hm : m' ≤ m) : Rt m' S := ⟨h.1, h.2.1, h.2.2.le hm⟩
theorem zr_act (h : Rt m S) (ha : jr a) (hc : jr c) : ((z_act S p x a c).1 = 0 ∨ (z_act S p x a c).1 = 1 ∨ (z_act S p x a c).1 = 2) ∧ Rt m (z_act S p x a c).2.2 := by
  unfold z_act
  split
  · exact ⟨Or.inr (Or.inl rfl), h⟩
  · split
    · exact ⟨Or.inr (Or.inr rfl), h⟩
    · rename_i h1 h2
      have hp : 0 ≤ p ∧ p < 10 := by omega
      have hx : 0 ≤ x ∧ x ≤ 15 := by omega
      have hw : ¬ WR x a c := fun z => h1 (Or.inr (Or.inr (WRb_iff.2 z)))
      have h8 := h.1.pg.1 p hp.1 hp.2
      have e : ∀ f i, f ≠ 11 → f ≠ 12 → f ≠ 13 → f ≠ 14 → z_actS S p x a c f i = S f i := fun f i z1 z2 z3 z4 => by simp [z_actS, up, z1, z2, z3, z4]
      exact ⟨Or.inl rfl, h.1.act hp (by omega) hx ⟨ha, hc⟩ hw, h.2.1.cg fun f i hf => e f i (by omega) (by omega) (by omega) (by omega), h.2.2.cg fun f i hf => e f i (by omega) (by omega) (by omega) (by omega)⟩
theorem zr_start (h : Rt m S) (h2 : A2 S) : ((z_start S p).1 = 0 ∨ (z_start S p).1 = 1 ∨ (z_start S p).1 = 2) ∧ Rt m (z_start S p).2.2 := by
  unfold z_start
  split
  · exact ⟨Or.inr (Or.inl rfl), h⟩
  · split
    · exact ⟨Or.inr (Or.inr rfl), h⟩
    · rename_i h1 h3
      have hJ := h.1.J
      have hq : S 7 0 < 24 := h.1.gd.2.2.room hJ.2 (k := S 1 0) (by omega) (fun i z1 z2 e => by have := (h.1.gd.2.2.2.1 i z1 z2).2.1; omega)
      exact ⟨Or.inl rfl, h.1.begin h2 (by omega) hq (by omega) (by omega) (by omega), h.2.1.begin (h2 (S 1 0) (Int.le_refl _)).2.2.1, h.2.2.cg fun f i hf => z_begin_o f i (by omega)⟩
theorem zr_cancel (h : Rt m S) : ((z_cancel S j).1 = 0 ∨ (z_cancel S j).1 = 1) ∧ Rt m (z_cancel S j).2.2 := by
  unfold z_cancel
  split
  · exact ⟨Or.inr rfl, h⟩
  · obtain ⟨GI, GG⟩ := z_give_ok h.1 (j := j) (x := 0) (by omega) (by omega)
    have e := GG.1
    exact ⟨Or.inl rfl, GI, h.2.1.cg fun f i hf => e f i (by omega) (by omega) (by omega) (by omega) (by omega) (by omega) (by omega), h.2.2.cg fun f i hf => e f i (by omega) (by omega) (by omega) (by omega) (by omega) (by omega) (by omega)⟩
theorem zr_result : (z_result S j).1 = 0 ∨ (z_result S j).1 = 1 ∨ (z_result S j).1 = 2 ∨ (z_result S j).1 = 3 ∨ (z_result S j).1 = 4 := by unfold z_result; (repeat' split) <;> simp
theorem zr_state : (z_state S j).1 = 0 ∨ (z_state S j).1 = 1 := by unfold z_state; (repeat' split) <;> simp
theorem zr_cause : (z_cause S j).1 = 0 ∨ (z_cause S j).1 = 1 ∨ (z_cause S j).1 = 2 := by unfold z_cause; (repeat' split) <;> simp
theorem zr_about : (z_about S j x).1 = 0 ∨ (z_about S j x).1 = 1 := by unfold z_about; (repeat' split) <;> simp
theorem zr_noted : (z_noted S j).1 = 0 ∨ (z_noted S j).1 = 1 := by unfold z_noted; (repeat' split) <;> simp
theorem JX.a2 (h : JX w th mo oa ra v S T b hs) : A2 T := by
  obtain ⟨am, C, S', ol, e0, hC, hA, h6, hU, hS, ho, hd, d1, d2⟩ := h
  exact hA.a2
theorem lg_same (x : Int64) : lg_cmp x x = ii 0 := by
  unfold lg_cmp
  have h : ¬ x > x := by simp
  rw [if_neg h, if_pos rfl]
  rfl
theorem Iv.jrs (h : Iv S) : ∀ i, 0 ≤ i → i < S 1 0 → jr (S 16 i) ∧ jr (S 19 i) ∧ jr (S 24 i) ∧ jr (S 25 i) := fun i z1 z2 => by
  obtain ⟨g1, g2, g3, g4, g5, g6, g7, g8⟩ := h.gd.2.1 i z1 z2
  have hJ := h.J
  exact ⟨by omega, by omega, by omega, by omega⟩
theorem l_loop (hL : jL w ≤ 2560) : ∀ (q : Nat) (i : Int) (v : Int64) (S : js) (b : Nat × Nat) (hs : jh), JX w th mo oa ra v S S b hs → Rt (1000200 * q + 1000) S → q ≤ b.1 → 6 * q ≤ b.2 → 0 ≤ i → (jL w : Int) ≤ i + 5 * q + 4 → i ≤ 2570 →
    V jcl w m_L_law (d + 34) 23 [(0, .ref (jb w)), (1, .ref th), (2, .ref mo), (3, .ref oa), (4, .int (ii i))] [] hs (fun o _ => o = .inl (some (.int (ii 1)))) := by
  intro q
  induction q with
  | zero =>
    intro i v S b hs h hR hb1 hb2 hi hq hi2
    refine V.iload (pc := 23) d_L_law_23 rfl ?_
    first | refine V.aload_nR (pc := 25) d_L_law_25 rfl ?_ | refine V.aload_n (pc := 25) d_L_law_25 rfl ?_
    refine V.slen (pc := 26) d_L_law_26 ?_
    rw [show Int32.ofNat (jL w) = ii (jL w : Int) from (Int32.ofInt_eq_ofNat ..).symm]
    refine Vi.iconst (pc := 27) d_L_law_27 ?_
    refine Vi.isub (pc := 28) d_L_law_28 ?_
    refine Vi.icmp_gt (pc := 29) (tgt := 675) d_L_law_29 (by decide) (by omega) (by omega) (fun c_29 => ?_) (fun c_29 => ?_)
    · refine Vi.iconst (pc := 675) d_L_law_675 ?_
      refine Vi.zreturn (pc := 676) d_L_law_676 rfl (by omega) ?_
      rfl
    · omega
  | succ q ih =>
    intro i v S b hs h hR hb1 hb2 hi hq hi2
    have hI := hR.1
    have hJ := hI.J
    have hB : Bd 1000 S := hR.2.2.le (by omega)
    have hwf := h.wf
    have hjr := hI.jrs
    have ha2 := h.a2
    have h3 : jr (S 3 0) := by have := hI.tm.1; unfold Bd at hB; omega
    have h7 := hI.gd.2.2.1
    have hq7 : 0 ≤ S 7 0 ∧ (S 1 0 < 24 → S 7 0 < 24) := ⟨h7.1, fun z => hI.gd.2.2.room hJ.2 (k := S 1 0) (by omega) (fun i z1 z2 e => by have := (hI.gd.2.2.2.1 i z1 z2).2.1; omega)⟩
    have next : ∀ (v' : Int64) (T : js) (k : Int) (b' : Nat × Nat) (hs' : jh), JX w th mo oa ra v' (up T 0 0 k) T b' hs' → Rt (1000200 * q + 1000) T → q ≤ b'.1 → 6 * q ≤ b'.2 → (i + 5 ≤ jL w) → V jcl w m_L_law (d + 34) 669 [(0, .ref (jb w)), (1, .ref th), (2, .ref mo), (3, .ref oa), (4, .int (ii i))] [] hs' (fun o _ => o = .inl (some (.int (ii 1)))) := by
      intro v' T k b' hs' hJ' hR' c1 c2 c3
      refine Vi.iinc (pc := 669) d_L_law_669 rfl (by decide) ?_
      refine V.goto (pc := 672) (tgt := 23) d_L_law_672 (by decide) ?_
      exact V.lop (ih (i + 5) v' (up T 0 0 k) b' hs' (hJ'.eq fun f i hf => up_f hf) hR'.u0 c1 c2 (by omega) (by omega) (by omega)) ⟨rfl, rfl, rfl, rfl, rfl, trivial⟩
    have b1' : q ≤ (b.1 - 1, b.2 - 6).1 := by show q ≤ b.1 - 1; omega
    have b2' : 6 * q ≤ (b.1 - 1, b.2 - 6).2 := by show 6 * q ≤ b.2 - 6; omega
    have hbb : 1 ≤ b.1 ∧ 6 ≤ b.2 := by omega
    have hR0 : Rt (1000200 * q + 1000) S := hR.le (by omega)
    have case_act : i + 5 ≤ jL w → V jcl w m_L_law (d + 34) 92 [(0, .ref (jb w)), (1, .ref th), (2, .ref mo), (3, .ref oa), (4, .int (ii i))] [] hs (fun o _ => o = .inl (some (.int (ii 1)))) := by
      intro hi5
      have hr0 := sx_jr w (i + 1)
      have hr1 := sx_jr w (i + 2)
      have hr2 := sx_jr w (i + 3)
      have hr3 := sx_jr w (i + 4)
      have wc := w_act (d := d + 26) h (X := fun T kv => T = (z_act S (sx w (i + 1)) (sx w (i + 2)) (sx w (i + 3)) (sx w (i + 4))).2.2 ∧ kv = ((z_act S (sx w (i + 1)) (sx w (i + 2)) (sx w (i + 3)) (sx w (i + 4))).1, (z_act S (sx w (i + 1)) (sx w (i + 2)) (sx w (i + 3)) (sx w (i + 4))).2.1)) (fun am g e0 hP => (by rw [← e0]; exact (f_act hP hI hbb hr0 hr1 hr2 hr3).post fun o hs' ho => ⟨_, _, ho, rfl, rfl⟩)) (fun T kv hX => (by rw [hX.2]; exact (zr_act hR0 hr2 hr3).1))
      first | refine V.aload_nR (pc := 92) d_L_law_92 rfl ?_ | refine V.aload_n (pc := 92) d_L_law_92 rfl ?_
      first | refine V.aload_nR (pc := 93) d_L_law_93 rfl ?_ | refine V.aload_n (pc := 93) d_L_law_93 rfl ?_
      refine V.iload (pc := 94) d_L_law_94 rfl ?_
      refine Vi.iconst (pc := 96) d_L_law_96 ?_
      refine Vi.iadd (pc := 97) d_L_law_97 ?_
      refine Vl.sld d_L_law_98 (by omega) hL ?_
      first | refine V.aload_nR (pc := 99) d_L_law_99 rfl ?_ | refine V.aload_n (pc := 99) d_L_law_99 rfl ?_
      refine V.iload (pc := 100) d_L_law_100 rfl ?_
      refine Vi.iconst (pc := 102) d_L_law_102 ?_
      refine Vi.iadd (pc := 103) d_L_law_103 ?_
      refine Vl.sld d_L_law_104 (by omega) hL ?_
      first | refine V.aload_nR (pc := 105) d_L_law_105 rfl ?_ | refine V.aload_n (pc := 105) d_L_law_105 rfl ?_
      refine V.iload (pc := 106) d_L_law_106 rfl ?_
      refine Vi.iconst (pc := 108) d_L_law_108 ?_
      refine Vi.iadd (pc := 109) d_L_law_109 ?_
      refine Vl.sld d_L_law_110 (by omega) hL ?_
      first | refine V.aload_nR (pc := 111) d_L_law_111 rfl ?_ | refine V.aload_n (pc := 111) d_L_law_111 rfl ?_
      refine V.iload (pc := 112) d_L_law_112 rfl ?_
      refine Vi.iconst (pc := 114) d_L_law_114 ?_
      refine Vi.iadd (pc := 115) d_L_law_115 ?_
      refine Vl.sld d_L_law_116 (by omega) hL ?_
      first | refine V.aload_nR (pc := 117) d_L_law_117 rfl ?_ | refine V.aload_n (pc := 117) d_L_law_117 rfl ?_
      refine V.callS (pc := 118) d_L_law_118 Y_L_act l_L_51 ws_L_act wn_L_act [_, _, _, _, _, _] rfl rfl ⟨by repeat (first | exact trivial | refine ⟨(by first | rfl | exact vrf_cat _), ?_⟩), Nat.le_of_ble_eq_true rfl⟩ ⟨⟨(by first | rfl | exact vrf_cat _), (by first | rfl | exact vrf_cat _), (by first | rfl | exact vrf_cat _), (by first | rfl | exact vrf_cat _), (by first | rfl | exact vrf_cat _), (by first | rfl | exact vrf_cat _), trivial⟩, Nat.le_of_ble_eq_true rfl⟩ (wc) (fun v hs ho => ?_) (fun E hs ho => by first | (simp at ho; done) | (obtain ⟨_, _, ho, _⟩ := ho; cases ho; done) | (obtain ⟨_, _, _, ho, _⟩ := ho; cases ho; done))
      obtain ⟨T, kv, v', ho, hJ1, hv, hT, rfl⟩ := ho
      rw [hT] at hJ1
      cases ho
      simp only at hv ⊢
      have hcd : (z_act S (sx w (i + 1)) (sx w (i + 2)) (sx w (i + 3)) (sx w (i + 4))).1 = 0 ∨ (z_act S (sx w (i + 1)) (sx w (i + 2)) (sx w (i + 3)) (sx w (i + 4))).1 = 1 ∨ (z_act S (sx w (i + 1)) (sx w (i + 2)) (sx w (i + 3)) (sx w (i + 4))).1 = 2 := (zr_act hR0 hr2 hr3).1
      have hcr : jr ((z_act S (sx w (i + 1)) (sx w (i + 2)) (sx w (i + 3)) (sx w (i + 4))).1) := by omega
      have hRT : Rt (1000200 * q + 1000) ((z_act S (sx w (i + 1)) (sx w (i + 2)) (sx w (i + 3)) (sx w (i + 4))).2.2) := (zr_act hR0 hr2 hr3).2
      obtain ⟨fR, hoR⟩ := hJ1.oR
      obtain ⟨g2, hR1, backr⟩ := hJ1.r
      refine V.istore (pc := 121) d_L_law_121 (by decide) ?_
      first | refine V.aload_nR (pc := 123) d_L_law_123 rfl ?_ | refine V.aload_n (pc := 123) d_L_law_123 rfl ?_
      first | refine V.aload_nR (pc := 124) d_L_law_124 rfl ?_ | refine V.aload_n (pc := 124) d_L_law_124 rfl ?_
      refine V.iload (pc := 125) d_L_law_125 rfl ?_
      refine Vi.iconst (pc := 127) d_L_law_127 ?_
      refine Vi.iadd (pc := 128) d_L_law_128 ?_
      refine Vl.sld d_L_law_129 (by omega) hL ?_
      first | refine V.aload_nR (pc := 130) d_L_law_130 rfl ?_ | refine V.aload_n (pc := 130) d_L_law_130 rfl ?_
      refine V.iload (pc := 131) d_L_law_131 rfl ?_
      refine Vi.iconst (pc := 133) d_L_law_133 ?_
      refine Vi.iadd (pc := 134) d_L_law_134 ?_
      refine Vl.sld d_L_law_135 (by omega) hL ?_
      first | refine V.aload_nR (pc := 136) d_L_law_136 rfl ?_ | refine V.aload_n (pc := 136) d_L_law_136 rfl ?_
      refine V.iload (pc := 137) d_L_law_137 rfl ?_
      refine Vi.iconst (pc := 139) d_L_law_139 ?_
      refine Vi.iadd (pc := 140) d_L_law_140 ?_
      refine Vl.sld d_L_law_141 (by omega) hL ?_
      first | refine V.aload_nR (pc := 142) d_L_law_142 rfl ?_ | refine V.aload_n (pc := 142) d_L_law_142 rfl ?_
      refine V.iload (pc := 143) d_L_law_143 rfl ?_
      refine Vi.iconst (pc := 145) d_L_law_145 ?_
      refine Vi.iadd (pc := 146) d_L_law_146 ?_
      refine Vl.sld d_L_law_147 (by omega) hL ?_
      refine V.callV (pc := 148) d_L_law_148 Y_R_act l_L_56 wi_R_act wv_R_act (ci := 6) rfl rfl [_, _, _, _] hoR rfl rfl ⟨by repeat (first | exact trivial | refine ⟨(by first | rfl | exact vrf_cat _), ?_⟩), Nat.le_of_ble_eq_true rfl⟩ ⟨⟨rfl, (by first | rfl | exact vrf_cat _), (by first | rfl | exact vrf_cat _), (by first | rfl | exact vrf_cat _), (by first | rfl | exact vrf_cat _), trivial⟩, Nat.le_of_ble_eq_true rfl⟩ (r_act hR1 hr0 hr1 hr2 hr3 hI.pg.1) (fun v hs ho => ?_) (fun E hs ho => by first | (simp at ho; done) | (obtain ⟨_, _, ho, _⟩ := ho; cases ho; done) | (obtain ⟨_, _, _, ho, _⟩ := ho; cases ho; done))
      obtain ⟨ho, hR2⟩ := ho
      cases ho
      have hJ2 := backr _ _ hR2
      obtain ⟨fR2, hoR⟩ := hJ2.oR
      obtain ⟨g3, hR3, _⟩ := hJ2.r
      refine V.istore (pc := 151) d_L_law_151 (by decide) ?_
      first | refine V.aload_nR (pc := 153) d_L_law_153 rfl ?_ | refine V.aload_n (pc := 153) d_L_law_153 rfl ?_
      refine V.callV (pc := 154) d_L_law_154 Y_R_thrown l_L_57 wi_R_thrown wv_R_thrown (ci := 6) rfl rfl [] hoR rfl rfl ⟨by repeat (first | exact trivial | refine ⟨(by first | rfl | exact vrf_cat _), ?_⟩), Nat.le_of_ble_eq_true rfl⟩ ⟨⟨rfl, trivial⟩, Nat.le_of_ble_eq_true rfl⟩ (r_thrown hR3) (fun v hs ho => ?_) (fun E hs ho => by first | (simp at ho; done) | (obtain ⟨_, _, ho, _⟩ := ho; cases ho; done) | (obtain ⟨_, _, _, ho, _⟩ := ho; cases ho; done))
      obtain ⟨ho, rfl⟩ := ho
      cases ho
      rw [up_s]
      refine V.iload (pc := 157) d_L_law_157 rfl ?_
      refine Vi.icmp_eq (pc := 159) (tgt := 164) d_L_law_159 (by decide) (hcr) (hcr) (fun c_159 => ?_) (fun c_159 => ?_)
      · refine V.iload (pc := 164) d_L_law_164 rfl ?_
        refine Vi.if_ne (pc := 166) (tgt := 181) d_L_law_166 (by decide) (hcr) (fun c_166 => ?_) (fun c_166 => ?_)
        · refine V.goto (pc := 181) (tgt := 669) d_L_law_181 (by decide) ?_
          exact V.lop (next _ _ _ _ _ hJ2 hRT b1' b2' hi5) ⟨rfl, rfl, rfl, rfl, rfl, trivial⟩
        · obtain ⟨ol, o1, o2, _⟩ := hJ2.out
          have e : ol (ii 0).toNatClampNeg = (ii (z_act S (sx w (i + 1)) (sx w (i + 2)) (sx w (i + 3)) (sx w (i + 4))).2.1).toInt64 := by
            have e0 : (ii 0).toNatClampNeg = 0 := by decide
            rw [e0, o2]
            exact hv c_166
          first | refine V.aload_nR (pc := 169) d_L_law_169 rfl ?_ | refine V.aload_n (pc := 169) d_L_law_169 rfl ?_
          refine Vi.iconst (pc := 170) d_L_law_170 ?_
          refine V.lald (pc := 171) (t0 := 2) d_L_law_171 o1 hwf.2.2.1 (ii_in (i := 0) (by omega) (by decide) (by decide)) ?_
          rw [e]
          refine V.iload (pc := 172) d_L_law_172 rfl ?_
          refine V.i2l (pc := 174) d_L_law_174 ?_
          refine V.lcmp (pc := 175) d_L_law_175 ?_
          rw [lg_same]
          refine Vi.if_eq (pc := 176) (tgt := 181) d_L_law_176 (by decide) (by decide) (fun c_176 => ?_) (fun c_176 => ?_)
          · refine V.goto (pc := 181) (tgt := 669) d_L_law_181 (by decide) ?_
            exact V.lop (next _ _ _ _ _ hJ2 hRT b1' b2' hi5) ⟨rfl, rfl, rfl, rfl, rfl, trivial⟩
          · exact absurd rfl c_176
      · exact absurd rfl c_159
    have case_start : i + 5 ≤ jL w → V jcl w m_L_law (d + 34) 184 [(0, .ref (jb w)), (1, .ref th), (2, .ref mo), (3, .ref oa), (4, .int (ii i))] [] hs (fun o _ => o = .inl (some (.int (ii 1)))) := by
      intro hi5
      have hr0 := sx_jr w (i + 1)
      have wc := w_start (d := d + 26) h (X := fun T kv => T = (z_start S (sx w (i + 1))).2.2 ∧ kv = ((z_start S (sx w (i + 1))).1, (z_start S (sx w (i + 1))).2.1)) (fun am g e0 hP => (by rw [← e0]; exact (f_start hP hI hbb hr0).post fun o hs' ho => ⟨_, _, ho, rfl, rfl⟩)) (fun T kv hX => (by rw [hX.2]; exact (zr_start hR0 ha2).1))
      first | refine V.aload_nR (pc := 184) d_L_law_184 rfl ?_ | refine V.aload_n (pc := 184) d_L_law_184 rfl ?_
      first | refine V.aload_nR (pc := 185) d_L_law_185 rfl ?_ | refine V.aload_n (pc := 185) d_L_law_185 rfl ?_
      refine V.iload (pc := 186) d_L_law_186 rfl ?_
      refine Vi.iconst (pc := 188) d_L_law_188 ?_
      refine Vi.iadd (pc := 189) d_L_law_189 ?_
      refine Vl.sld d_L_law_190 (by omega) hL ?_
      first | refine V.aload_nR (pc := 191) d_L_law_191 rfl ?_ | refine V.aload_n (pc := 191) d_L_law_191 rfl ?_
      refine V.callS (pc := 192) d_L_law_192 Y_L_start l_L_61 ws_L_start wn_L_start [_, _, _] rfl rfl ⟨by repeat (first | exact trivial | refine ⟨(by first | rfl | exact vrf_cat _), ?_⟩), Nat.le_of_ble_eq_true rfl⟩ ⟨⟨(by first | rfl | exact vrf_cat _), (by first | rfl | exact vrf_cat _), (by first | rfl | exact vrf_cat _), trivial⟩, Nat.le_of_ble_eq_true rfl⟩ (wc) (fun v hs ho => ?_) (fun E hs ho => by first | (simp at ho; done) | (obtain ⟨_, _, ho, _⟩ := ho; cases ho; done) | (obtain ⟨_, _, _, ho, _⟩ := ho; cases ho; done))
      obtain ⟨T, kv, v', ho, hJ1, hv, hT, rfl⟩ := ho
      rw [hT] at hJ1
      cases ho
      simp only at hv ⊢
      have hcd : (z_start S (sx w (i + 1))).1 = 0 ∨ (z_start S (sx w (i + 1))).1 = 1 ∨ (z_start S (sx w (i + 1))).1 = 2 := (zr_start hR0 ha2).1
      have hcr : jr ((z_start S (sx w (i + 1))).1) := by omega
      have hRT : Rt (1000200 * q + 1000) ((z_start S (sx w (i + 1))).2.2) := (zr_start hR0 ha2).2
      obtain ⟨fR, hoR⟩ := hJ1.oR
      obtain ⟨g2, hR1, backr⟩ := hJ1.r
      refine V.istore (pc := 195) d_L_law_195 (by decide) ?_
      first | refine V.aload_nR (pc := 197) d_L_law_197 rfl ?_ | refine V.aload_n (pc := 197) d_L_law_197 rfl ?_
      first | refine V.aload_nR (pc := 198) d_L_law_198 rfl ?_ | refine V.aload_n (pc := 198) d_L_law_198 rfl ?_
      refine V.iload (pc := 199) d_L_law_199 rfl ?_
      refine Vi.iconst (pc := 201) d_L_law_201 ?_
      refine Vi.iadd (pc := 202) d_L_law_202 ?_
      refine Vl.sld d_L_law_203 (by omega) hL ?_
      refine V.callV (pc := 204) d_L_law_204 Y_R_start l_L_64 wi_R_start wv_R_start (ci := 6) rfl rfl [_] hoR rfl rfl ⟨by repeat (first | exact trivial | refine ⟨(by first | rfl | exact vrf_cat _), ?_⟩), Nat.le_of_ble_eq_true rfl⟩ ⟨⟨rfl, (by first | rfl | exact vrf_cat _), trivial⟩, Nat.le_of_ble_eq_true rfl⟩ (r_start hR1 hr0 hJ hq7) (fun v hs ho => ?_) (fun E hs ho => by first | (simp at ho; done) | (obtain ⟨_, _, ho, _⟩ := ho; cases ho; done) | (obtain ⟨_, _, _, ho, _⟩ := ho; cases ho; done))
      obtain ⟨ho, hR2⟩ := ho
      cases ho
      have hJ2 := backr _ _ hR2
      obtain ⟨fR2, hoR⟩ := hJ2.oR
      obtain ⟨g3, hR3, _⟩ := hJ2.r
      refine V.istore (pc := 207) d_L_law_207 (by decide) ?_
      first | refine V.aload_nR (pc := 209) d_L_law_209 rfl ?_ | refine V.aload_n (pc := 209) d_L_law_209 rfl ?_
      refine V.callV (pc := 210) d_L_law_210 Y_R_thrown l_L_57 wi_R_thrown wv_R_thrown (ci := 6) rfl rfl [] hoR rfl rfl ⟨by repeat (first | exact trivial | refine ⟨(by first | rfl | exact vrf_cat _), ?_⟩), Nat.le_of_ble_eq_true rfl⟩ ⟨⟨rfl, trivial⟩, Nat.le_of_ble_eq_true rfl⟩ (r_thrown hR3) (fun v hs ho => ?_) (fun E hs ho => by first | (simp at ho; done) | (obtain ⟨_, _, ho, _⟩ := ho; cases ho; done) | (obtain ⟨_, _, _, ho, _⟩ := ho; cases ho; done))
      obtain ⟨ho, rfl⟩ := ho
      cases ho
      rw [up_s]
      refine V.iload (pc := 213) d_L_law_213 rfl ?_
      refine Vi.icmp_eq (pc := 215) (tgt := 220) d_L_law_215 (by decide) (hcr) (hcr) (fun c_215 => ?_) (fun c_215 => ?_)
      · refine V.iload (pc := 220) d_L_law_220 rfl ?_
        refine Vi.if_ne (pc := 222) (tgt := 237) d_L_law_222 (by decide) (hcr) (fun c_222 => ?_) (fun c_222 => ?_)
        · refine V.goto (pc := 237) (tgt := 669) d_L_law_237 (by decide) ?_
          exact V.lop (next _ _ _ _ _ hJ2 hRT b1' b2' hi5) ⟨rfl, rfl, rfl, rfl, rfl, trivial⟩
        · obtain ⟨ol, o1, o2, _⟩ := hJ2.out
          have e : ol (ii 0).toNatClampNeg = (ii (z_start S (sx w (i + 1))).2.1).toInt64 := by
            have e0 : (ii 0).toNatClampNeg = 0 := by decide
            rw [e0, o2]
            exact hv c_222
          first | refine V.aload_nR (pc := 225) d_L_law_225 rfl ?_ | refine V.aload_n (pc := 225) d_L_law_225 rfl ?_
          refine Vi.iconst (pc := 226) d_L_law_226 ?_
          refine V.lald (pc := 227) (t0 := 2) d_L_law_227 o1 hwf.2.2.1 (ii_in (i := 0) (by omega) (by decide) (by decide)) ?_
          rw [e]
          refine V.iload (pc := 228) d_L_law_228 rfl ?_
          refine V.i2l (pc := 230) d_L_law_230 ?_
          refine V.lcmp (pc := 231) d_L_law_231 ?_
          rw [lg_same]
          refine Vi.if_eq (pc := 232) (tgt := 237) d_L_law_232 (by decide) (by decide) (fun c_232 => ?_) (fun c_232 => ?_)
          · refine V.goto (pc := 237) (tgt := 669) d_L_law_237 (by decide) ?_
            exact V.lop (next _ _ _ _ _ hJ2 hRT b1' b2' hi5) ⟨rfl, rfl, rfl, rfl, rfl, trivial⟩
          · exact absurd rfl c_232
      · exact absurd rfl c_215
    have case_cancel : i + 5 ≤ jL w → V jcl w m_L_law (d + 34) 240 [(0, .ref (jb w)), (1, .ref th), (2, .ref mo), (3, .ref oa), (4, .int (ii i))] [] hs (fun o _ => o = .inl (some (.int (ii 1)))) := by
      intro hi5
      have hr0 := sx_jr w (i + 1)
      have wc := w_cancel (d := d + 5) h (X := fun T kv => T = (z_cancel S (sx w (i + 1))).2.2 ∧ kv = ((z_cancel S (sx w (i + 1))).1, (z_cancel S (sx w (i + 1))).2.1)) (fun am g e0 hP => (by rw [← e0]; exact (f_cancel hP hI hbb hr0).post fun o hs' ho => ⟨_, _, ho, rfl, rfl⟩)) (fun T kv hX => (by rw [hX.2]; exact (zr_cancel hR0).1))
      first | refine V.aload_nR (pc := 240) d_L_law_240 rfl ?_ | refine V.aload_n (pc := 240) d_L_law_240 rfl ?_
      first | refine V.aload_nR (pc := 241) d_L_law_241 rfl ?_ | refine V.aload_n (pc := 241) d_L_law_241 rfl ?_
      refine V.iload (pc := 242) d_L_law_242 rfl ?_
      refine Vi.iconst (pc := 244) d_L_law_244 ?_
      refine Vi.iadd (pc := 245) d_L_law_245 ?_
      refine Vl.sld d_L_law_246 (by omega) hL ?_
      first | refine V.aload_nR (pc := 247) d_L_law_247 rfl ?_ | refine V.aload_n (pc := 247) d_L_law_247 rfl ?_
      refine V.callS (pc := 248) d_L_law_248 Y_L_cancel l_L_65 ws_L_cancel wn_L_cancel [_, _, _] rfl rfl ⟨by repeat (first | exact trivial | refine ⟨(by first | rfl | exact vrf_cat _), ?_⟩), Nat.le_of_ble_eq_true rfl⟩ ⟨⟨(by first | rfl | exact vrf_cat _), (by first | rfl | exact vrf_cat _), (by first | rfl | exact vrf_cat _), trivial⟩, Nat.le_of_ble_eq_true rfl⟩ (wc) (fun v hs ho => ?_) (fun E hs ho => by first | (simp at ho; done) | (obtain ⟨_, _, ho, _⟩ := ho; cases ho; done) | (obtain ⟨_, _, _, ho, _⟩ := ho; cases ho; done))
      obtain ⟨T, kv, v', ho, hJ1, hv, hT, rfl⟩ := ho
      rw [hT] at hJ1
      cases ho
      simp only at hv ⊢
      have hcd : (z_cancel S (sx w (i + 1))).1 = 0 ∨ (z_cancel S (sx w (i + 1))).1 = 1 := (zr_cancel hR0).1
      have hcr : jr ((z_cancel S (sx w (i + 1))).1) := by omega
      have hRT : Rt (1000200 * q + 1000) ((z_cancel S (sx w (i + 1))).2.2) := (zr_cancel hR0).2
      obtain ⟨fR, hoR⟩ := hJ1.oR
      obtain ⟨g2, hR1, backr⟩ := hJ1.r
      refine V.istore (pc := 251) d_L_law_251 (by decide) ?_
      first | refine V.aload_nR (pc := 253) d_L_law_253 rfl ?_ | refine V.aload_n (pc := 253) d_L_law_253 rfl ?_
      first | refine V.aload_nR (pc := 254) d_L_law_254 rfl ?_ | refine V.aload_n (pc := 254) d_L_law_254 rfl ?_
      refine V.iload (pc := 255) d_L_law_255 rfl ?_
      refine Vi.iconst (pc := 257) d_L_law_257 ?_
      refine Vi.iadd (pc := 258) d_L_law_258 ?_
      refine Vl.sld d_L_law_259 (by omega) hL ?_
      refine V.callV (pc := 260) d_L_law_260 Y_R_cancel l_L_67 wi_R_cancel wv_R_cancel (ci := 6) rfl rfl [_] hoR rfl rfl ⟨by repeat (first | exact trivial | refine ⟨(by first | rfl | exact vrf_cat _), ?_⟩), Nat.le_of_ble_eq_true rfl⟩ ⟨⟨rfl, (by first | rfl | exact vrf_cat _), trivial⟩, Nat.le_of_ble_eq_true rfl⟩ (r_cancel hR1 hr0 hI) (fun v hs ho => ?_) (fun E hs ho => by first | (simp at ho; done) | (obtain ⟨_, _, ho, _⟩ := ho; cases ho; done) | (obtain ⟨_, _, _, ho, _⟩ := ho; cases ho; done))
      obtain ⟨ho, hR2⟩ := ho
      cases ho
      have hJ2 := backr _ _ hR2
      obtain ⟨fR2, hoR⟩ := hJ2.oR
      obtain ⟨g3, hR3, _⟩ := hJ2.r
      refine V.istore (pc := 263) d_L_law_263 (by decide) ?_
      first | refine V.aload_nR (pc := 265) d_L_law_265 rfl ?_ | refine V.aload_n (pc := 265) d_L_law_265 rfl ?_
      refine V.callV (pc := 266) d_L_law_266 Y_R_thrown l_L_57 wi_R_thrown wv_R_thrown (ci := 6) rfl rfl [] hoR rfl rfl ⟨by repeat (first | exact trivial | refine ⟨(by first | rfl | exact vrf_cat _), ?_⟩), Nat.le_of_ble_eq_true rfl⟩ ⟨⟨rfl, trivial⟩, Nat.le_of_ble_eq_true rfl⟩ (r_thrown hR3) (fun v hs ho => ?_) (fun E hs ho => by first | (simp at ho; done) | (obtain ⟨_, _, ho, _⟩ := ho; cases ho; done) | (obtain ⟨_, _, _, ho, _⟩ := ho; cases ho; done))
      obtain ⟨ho, rfl⟩ := ho
      cases ho
      rw [up_s]
      refine V.iload (pc := 269) d_L_law_269 rfl ?_
      refine Vi.icmp_eq (pc := 271) (tgt := 276) d_L_law_271 (by decide) (hcr) (hcr) (fun c_271 => ?_) (fun c_271 => ?_)
      · refine V.iload (pc := 276) d_L_law_276 rfl ?_
        refine Vi.if_ne (pc := 278) (tgt := 293) d_L_law_278 (by decide) (hcr) (fun c_278 => ?_) (fun c_278 => ?_)
        · refine V.goto (pc := 293) (tgt := 669) d_L_law_293 (by decide) ?_
          exact V.lop (next _ _ _ _ _ hJ2 hRT b1' b2' hi5) ⟨rfl, rfl, rfl, rfl, rfl, trivial⟩
        · obtain ⟨ol, o1, o2, _⟩ := hJ2.out
          have e : ol (ii 0).toNatClampNeg = (ii (z_cancel S (sx w (i + 1))).2.1).toInt64 := by
            have e0 : (ii 0).toNatClampNeg = 0 := by decide
            rw [e0, o2]
            exact hv c_278
          first | refine V.aload_nR (pc := 281) d_L_law_281 rfl ?_ | refine V.aload_n (pc := 281) d_L_law_281 rfl ?_
          refine Vi.iconst (pc := 282) d_L_law_282 ?_
          refine V.lald (pc := 283) (t0 := 2) d_L_law_283 o1 hwf.2.2.1 (ii_in (i := 0) (by omega) (by decide) (by decide)) ?_
          rw [e]
          refine V.iload (pc := 284) d_L_law_284 rfl ?_
          refine V.i2l (pc := 286) d_L_law_286 ?_
          refine V.lcmp (pc := 287) d_L_law_287 ?_
          rw [lg_same]
          refine Vi.if_eq (pc := 288) (tgt := 293) d_L_law_288 (by decide) (by decide) (fun c_288 => ?_) (fun c_288 => ?_)
          · refine V.goto (pc := 293) (tgt := 669) d_L_law_293 (by decide) ?_
            exact V.lop (next _ _ _ _ _ hJ2 hRT b1' b2' hi5) ⟨rfl, rfl, rfl, rfl, rfl, trivial⟩
          · exact absurd rfl c_288
      · exact absurd rfl c_271
    have case_run : i + 5 ≤ jL w → V jcl w m_L_law (d + 34) 296 [(0, .ref (jb w)), (1, .ref th), (2, .ref mo), (3, .ref oa), (4, .int (ii i))] [] hs (fun o _ => o = .inl (some (.int (ii 1)))) := by
      intro hi5
      have hr0 := sx_jr w (i + 1)
      by_cases hn : (sx w (i + 1)) < 0 ∨ 100 < (sx w (i + 1))
      · have wc := w_run (d := d) h (X := fun T kv => T = S ∧ kv = ((1 : Int), (0 : Int))) (fun am g e0 hP => (by rw [← e0]; exact (f_run1 hP hbb hr0 hn).post fun o hs' ho => ⟨_, _, ho, rfl, rfl⟩)) (fun T kv hX => (by rw [hX.2]; exact Or.inr rfl))
        first | refine V.aload_nR (pc := 296) d_L_law_296 rfl ?_ | refine V.aload_n (pc := 296) d_L_law_296 rfl ?_
        first | refine V.aload_nR (pc := 297) d_L_law_297 rfl ?_ | refine V.aload_n (pc := 297) d_L_law_297 rfl ?_
        refine V.iload (pc := 298) d_L_law_298 rfl ?_
        refine Vi.iconst (pc := 300) d_L_law_300 ?_
        refine Vi.iadd (pc := 301) d_L_law_301 ?_
        refine Vl.sld d_L_law_302 (by omega) hL ?_
        first | refine V.aload_nR (pc := 303) d_L_law_303 rfl ?_ | refine V.aload_n (pc := 303) d_L_law_303 rfl ?_
        refine V.callS (pc := 304) d_L_law_304 Y_L_run l_L_68 ws_L_run wn_L_run [_, _, _] rfl rfl ⟨by repeat (first | exact trivial | refine ⟨(by first | rfl | exact vrf_cat _), ?_⟩), Nat.le_of_ble_eq_true rfl⟩ ⟨⟨(by first | rfl | exact vrf_cat _), (by first | rfl | exact vrf_cat _), (by first | rfl | exact vrf_cat _), trivial⟩, Nat.le_of_ble_eq_true rfl⟩ (wc) (fun v hs ho => ?_) (fun E hs ho => by first | (simp at ho; done) | (obtain ⟨_, _, ho, _⟩ := ho; cases ho; done) | (obtain ⟨_, _, _, ho, _⟩ := ho; cases ho; done))
        obtain ⟨T, kv, v', ho, hJ1, hv, hT, rfl⟩ := ho
        rw [hT] at hJ1
        cases ho
        simp only at hv ⊢
        have hcr : jr 1 := by decide
        have hRT := hR0
        obtain ⟨fR, hoR⟩ := hJ1.oR
        obtain ⟨g2, hR1, backr⟩ := hJ1.r
        refine V.istore (pc := 307) d_L_law_307 (by decide) ?_
        first | refine V.aload_nR (pc := 309) d_L_law_309 rfl ?_ | refine V.aload_n (pc := 309) d_L_law_309 rfl ?_
        first | refine V.aload_nR (pc := 310) d_L_law_310 rfl ?_ | refine V.aload_n (pc := 310) d_L_law_310 rfl ?_
        refine V.iload (pc := 311) d_L_law_311 rfl ?_
        refine Vi.iconst (pc := 313) d_L_law_313 ?_
        refine Vi.iadd (pc := 314) d_L_law_314 ?_
        refine Vl.sld d_L_law_315 (by omega) hL ?_
        refine V.callV (pc := 316) d_L_law_316 Y_R_run l_L_70 wi_R_run wv_R_run (ci := 6) rfl rfl [_] hoR rfl rfl ⟨by repeat (first | exact trivial | refine ⟨(by first | rfl | exact vrf_cat _), ?_⟩), Nat.le_of_ble_eq_true rfl⟩ ⟨⟨rfl, (by first | rfl | exact vrf_cat _), trivial⟩, Nat.le_of_ble_eq_true rfl⟩ (r_run1 hR1 hr0 hn) (fun v hs ho => ?_) (fun E hs ho => by first | (simp at ho; done) | (obtain ⟨_, _, ho, _⟩ := ho; cases ho; done) | (obtain ⟨_, _, _, ho, _⟩ := ho; cases ho; done))
        obtain ⟨ho, hR2⟩ := ho
        cases ho
        have hJ2 := backr _ _ hR2
        obtain ⟨fR2, hoR⟩ := hJ2.oR
        obtain ⟨g3, hR3, _⟩ := hJ2.r
        refine V.istore (pc := 319) d_L_law_319 (by decide) ?_
        first | refine V.aload_nR (pc := 321) d_L_law_321 rfl ?_ | refine V.aload_n (pc := 321) d_L_law_321 rfl ?_
        refine V.callV (pc := 322) d_L_law_322 Y_R_thrown l_L_57 wi_R_thrown wv_R_thrown (ci := 6) rfl rfl [] hoR rfl rfl ⟨by repeat (first | exact trivial | refine ⟨(by first | rfl | exact vrf_cat _), ?_⟩), Nat.le_of_ble_eq_true rfl⟩ ⟨⟨rfl, trivial⟩, Nat.le_of_ble_eq_true rfl⟩ (r_thrown hR3) (fun v hs ho => ?_) (fun E hs ho => by first | (simp at ho; done) | (obtain ⟨_, _, ho, _⟩ := ho; cases ho; done) | (obtain ⟨_, _, _, ho, _⟩ := ho; cases ho; done))
        obtain ⟨ho, rfl⟩ := ho
        cases ho
        rw [up_s]
        refine V.iload (pc := 325) d_L_law_325 rfl ?_
        refine Vi.icmp_eq (pc := 327) (tgt := 332) d_L_law_327 (by decide) (hcr) (hcr) (fun c_327 => ?_) (fun c_327 => ?_)
        · refine V.iload (pc := 332) d_L_law_332 rfl ?_
          refine Vi.if_ne (pc := 334) (tgt := 349) d_L_law_334 (by decide) (hcr) (fun c_334 => ?_) (fun c_334 => ?_)
          · refine V.goto (pc := 349) (tgt := 669) d_L_law_349 (by decide) ?_
            exact V.lop (next _ _ _ _ _ hJ2 hRT b1' b2' hi5) ⟨rfl, rfl, rfl, rfl, rfl, trivial⟩
          · obtain ⟨ol, o1, o2, _⟩ := hJ2.out
            have e : ol (ii 0).toNatClampNeg = (ii 0).toInt64 := by
              have e0 : (ii 0).toNatClampNeg = 0 := by decide
              rw [e0, o2]
              exact hv c_334
            first | refine V.aload_nR (pc := 337) d_L_law_337 rfl ?_ | refine V.aload_n (pc := 337) d_L_law_337 rfl ?_
            refine Vi.iconst (pc := 338) d_L_law_338 ?_
            refine V.lald (pc := 339) (t0 := 2) d_L_law_339 o1 hwf.2.2.1 (ii_in (i := 0) (by omega) (by decide) (by decide)) ?_
            rw [e]
            refine V.iload (pc := 340) d_L_law_340 rfl ?_
            refine V.i2l (pc := 342) d_L_law_342 ?_
            refine V.lcmp (pc := 343) d_L_law_343 ?_
            rw [lg_same]
            refine Vi.if_eq (pc := 344) (tgt := 349) d_L_law_344 (by decide) (by decide) (fun c_344 => ?_) (fun c_344 => ?_)
            · refine V.goto (pc := 349) (tgt := 669) d_L_law_349 (by decide) ?_
              exact V.lop (next _ _ _ _ _ hJ2 hRT b1' b2' hi5) ⟨rfl, rfl, rfl, rfl, rfl, trivial⟩
            · exact absurd rfl c_344
        · exact absurd rfl c_327
      · have wc := w_run (d := d) h (X := fun T kv => kv.1 = 0 ∧ UR (sx w (i + 1)) S kv.2 T ∧ Rt (1000200 * q + 1000) T) (fun am g e0 hP => (by rw [← e0]; exact (f_run (m := 1000200 * q + 1000) (by omega) hP (hR.le (by omega)) (by omega)).post fun o hs' ⟨kk, T, ho, hu, hr⟩ => ⟨T, _, ho, rfl, hu, hr⟩)) (fun T kv hX => Or.inl hX.1)
        first | refine V.aload_nR (pc := 296) d_L_law_296 rfl ?_ | refine V.aload_n (pc := 296) d_L_law_296 rfl ?_
        first | refine V.aload_nR (pc := 297) d_L_law_297 rfl ?_ | refine V.aload_n (pc := 297) d_L_law_297 rfl ?_
        refine V.iload (pc := 298) d_L_law_298 rfl ?_
        refine Vi.iconst (pc := 300) d_L_law_300 ?_
        refine Vi.iadd (pc := 301) d_L_law_301 ?_
        refine Vl.sld d_L_law_302 (by omega) hL ?_
        first | refine V.aload_nR (pc := 303) d_L_law_303 rfl ?_ | refine V.aload_n (pc := 303) d_L_law_303 rfl ?_
        refine V.callS (pc := 304) d_L_law_304 Y_L_run l_L_68 ws_L_run wn_L_run [_, _, _] rfl rfl ⟨by repeat (first | exact trivial | refine ⟨(by first | rfl | exact vrf_cat _), ?_⟩), Nat.le_of_ble_eq_true rfl⟩ ⟨⟨(by first | rfl | exact vrf_cat _), (by first | rfl | exact vrf_cat _), (by first | rfl | exact vrf_cat _), trivial⟩, Nat.le_of_ble_eq_true rfl⟩ (wc) (fun v hs ho => ?_) (fun E hs ho => by first | (simp at ho; done) | (obtain ⟨_, _, ho, _⟩ := ho; cases ho; done) | (obtain ⟨_, _, _, ho, _⟩ := ho; cases ho; done))
        obtain ⟨T, ⟨k, vv⟩, v', ho, hJ1, hv, hk, hu, hRT⟩ := ho
        cases ho
        simp only at hv hk hu ⊢
        subst hk
        have hcr : jr 0 := by decide
        obtain ⟨fR, hoR⟩ := hJ1.oR
        obtain ⟨g2, hR1, backr⟩ := hJ1.r
        refine V.istore (pc := 307) d_L_law_307 (by decide) ?_
        first | refine V.aload_nR (pc := 309) d_L_law_309 rfl ?_ | refine V.aload_n (pc := 309) d_L_law_309 rfl ?_
        first | refine V.aload_nR (pc := 310) d_L_law_310 rfl ?_ | refine V.aload_n (pc := 310) d_L_law_310 rfl ?_
        refine V.iload (pc := 311) d_L_law_311 rfl ?_
        refine Vi.iconst (pc := 313) d_L_law_313 ?_
        refine Vi.iadd (pc := 314) d_L_law_314 ?_
        refine Vl.sld d_L_law_315 (by omega) hL ?_
        refine V.callV (pc := 316) d_L_law_316 Y_R_run l_L_70 wi_R_run wv_R_run (ci := 6) rfl rfl [_] hoR rfl rfl ⟨by repeat (first | exact trivial | refine ⟨(by first | rfl | exact vrf_cat _), ?_⟩), Nat.le_of_ble_eq_true rfl⟩ ⟨⟨rfl, (by first | rfl | exact vrf_cat _), trivial⟩, Nat.le_of_ble_eq_true rfl⟩ (r_run hR1 hr0 hu (by omega)) (fun v hs ho => ?_) (fun E hs ho => by first | (simp at ho; done) | (obtain ⟨_, _, ho, _⟩ := ho; cases ho; done) | (obtain ⟨_, _, _, ho, _⟩ := ho; cases ho; done))
        obtain ⟨ho, hR2⟩ := ho
        cases ho
        have hJ2 := backr _ _ hR2
        obtain ⟨fR2, hoR⟩ := hJ2.oR
        obtain ⟨g3, hR3, _⟩ := hJ2.r
        refine V.istore (pc := 319) d_L_law_319 (by decide) ?_
        first | refine V.aload_nR (pc := 321) d_L_law_321 rfl ?_ | refine V.aload_n (pc := 321) d_L_law_321 rfl ?_
        refine V.callV (pc := 322) d_L_law_322 Y_R_thrown l_L_57 wi_R_thrown wv_R_thrown (ci := 6) rfl rfl [] hoR rfl rfl ⟨by repeat (first | exact trivial | refine ⟨(by first | rfl | exact vrf_cat _), ?_⟩), Nat.le_of_ble_eq_true rfl⟩ ⟨⟨rfl, trivial⟩, Nat.le_of_ble_eq_true rfl⟩ (r_thrown hR3) (fun v hs ho => ?_) (fun E hs ho => by first | (simp at ho; done) | (obtain ⟨_, _, ho, _⟩ := ho; cases ho; done) | (obtain ⟨_, _, _, ho, _⟩ := ho; cases ho; done))
        obtain ⟨ho, rfl⟩ := ho
        cases ho
        rw [up_s]
        refine V.iload (pc := 325) d_L_law_325 rfl ?_
        refine Vi.icmp_eq (pc := 327) (tgt := 332) d_L_law_327 (by decide) (hcr) (hcr) (fun c_327 => ?_) (fun c_327 => ?_)
        · refine V.iload (pc := 332) d_L_law_332 rfl ?_
          refine Vi.if_ne (pc := 334) (tgt := 349) d_L_law_334 (by decide) (hcr) (fun c_334 => ?_) (fun c_334 => ?_)
          · refine V.goto (pc := 349) (tgt := 669) d_L_law_349 (by decide) ?_
            exact V.lop (next _ _ _ _ _ hJ2 hRT b1' b2' hi5) ⟨rfl, rfl, rfl, rfl, rfl, trivial⟩
          · obtain ⟨ol, o1, o2, _⟩ := hJ2.out
            have e : ol (ii 0).toNatClampNeg = (ii vv).toInt64 := by
              have e0 : (ii 0).toNatClampNeg = 0 := by decide
              rw [e0, o2]
              exact hv c_334
            first | refine V.aload_nR (pc := 337) d_L_law_337 rfl ?_ | refine V.aload_n (pc := 337) d_L_law_337 rfl ?_
            refine Vi.iconst (pc := 338) d_L_law_338 ?_
            refine V.lald (pc := 339) (t0 := 2) d_L_law_339 o1 hwf.2.2.1 (ii_in (i := 0) (by omega) (by decide) (by decide)) ?_
            rw [e]
            refine V.iload (pc := 340) d_L_law_340 rfl ?_
            refine V.i2l (pc := 342) d_L_law_342 ?_
            refine V.lcmp (pc := 343) d_L_law_343 ?_
            rw [lg_same]
            refine Vi.if_eq (pc := 344) (tgt := 349) d_L_law_344 (by decide) (by decide) (fun c_344 => ?_) (fun c_344 => ?_)
            · refine V.goto (pc := 349) (tgt := 669) d_L_law_349 (by decide) ?_
              exact V.lop (next _ _ _ _ _ hJ2 hRT b1' b2' hi5) ⟨rfl, rfl, rfl, rfl, rfl, trivial⟩
            · exact absurd rfl c_344
        · exact absurd rfl c_327
    have case_result : i + 5 ≤ jL w → V jcl w m_L_law (d + 34) 352 [(0, .ref (jb w)), (1, .ref th), (2, .ref mo), (3, .ref oa), (4, .int (ii i))] [] hs (fun o _ => o = .inl (some (.int (ii 1)))) := by
      intro hi5
      have hr0 := sx_jr w (i + 1)
      have wc := w_result (d := d + 25) h (X := fun T kv => T = S ∧ kv = ((z_result S (sx w (i + 1))).1, (z_result S (sx w (i + 1))).2)) (fun am g e0 hP => (by rw [← e0]; exact (f_result hP hI hbb hr0).post fun o hs' ho => ⟨_, _, ho, rfl, rfl⟩)) (fun T kv hX => (by rw [hX.2]; exact zr_result))
      first | refine V.aload_nR (pc := 352) d_L_law_352 rfl ?_ | refine V.aload_n (pc := 352) d_L_law_352 rfl ?_
      first | refine V.aload_nR (pc := 353) d_L_law_353 rfl ?_ | refine V.aload_n (pc := 353) d_L_law_353 rfl ?_
      refine V.iload (pc := 354) d_L_law_354 rfl ?_
      refine Vi.iconst (pc := 356) d_L_law_356 ?_
      refine Vi.iadd (pc := 357) d_L_law_357 ?_
      refine Vl.sld d_L_law_358 (by omega) hL ?_
      first | refine V.aload_nR (pc := 359) d_L_law_359 rfl ?_ | refine V.aload_n (pc := 359) d_L_law_359 rfl ?_
      refine V.callS (pc := 360) d_L_law_360 Y_L_result l_L_71 ws_L_result wn_L_result [_, _, _] rfl rfl ⟨by repeat (first | exact trivial | refine ⟨(by first | rfl | exact vrf_cat _), ?_⟩), Nat.le_of_ble_eq_true rfl⟩ ⟨⟨(by first | rfl | exact vrf_cat _), (by first | rfl | exact vrf_cat _), (by first | rfl | exact vrf_cat _), trivial⟩, Nat.le_of_ble_eq_true rfl⟩ (wc) (fun v hs ho => ?_) (fun E hs ho => by first | (simp at ho; done) | (obtain ⟨_, _, ho, _⟩ := ho; cases ho; done) | (obtain ⟨_, _, _, ho, _⟩ := ho; cases ho; done))
      obtain ⟨T, kv, v', ho, hJ1, hv, hT, rfl⟩ := ho
      rw [hT] at hJ1
      cases ho
      simp only at hv ⊢
      have hcd : (z_result S (sx w (i + 1))).1 = 0 ∨ (z_result S (sx w (i + 1))).1 = 1 ∨ (z_result S (sx w (i + 1))).1 = 2 ∨ (z_result S (sx w (i + 1))).1 = 3 ∨ (z_result S (sx w (i + 1))).1 = 4 := zr_result
      have hcr : jr ((z_result S (sx w (i + 1))).1) := by omega
      have hRT : Rt (1000200 * q + 1000) (S) := hR0
      obtain ⟨fR, hoR⟩ := hJ1.oR
      obtain ⟨g2, hR1, backr⟩ := hJ1.r
      refine V.istore (pc := 363) d_L_law_363 (by decide) ?_
      first | refine V.aload_nR (pc := 365) d_L_law_365 rfl ?_ | refine V.aload_n (pc := 365) d_L_law_365 rfl ?_
      first | refine V.aload_nR (pc := 366) d_L_law_366 rfl ?_ | refine V.aload_n (pc := 366) d_L_law_366 rfl ?_
      refine V.iload (pc := 367) d_L_law_367 rfl ?_
      refine Vi.iconst (pc := 369) d_L_law_369 ?_
      refine Vi.iadd (pc := 370) d_L_law_370 ?_
      refine Vl.sld d_L_law_371 (by omega) hL ?_
      refine V.callV (pc := 372) d_L_law_372 Y_R_result l_L_73 wi_R_result wv_R_result (ci := 6) rfl rfl [_] hoR rfl rfl ⟨by repeat (first | exact trivial | refine ⟨(by first | rfl | exact vrf_cat _), ?_⟩), Nat.le_of_ble_eq_true rfl⟩ ⟨⟨rfl, (by first | rfl | exact vrf_cat _), trivial⟩, Nat.le_of_ble_eq_true rfl⟩ (r_result hR1 hr0 hJ (fun i z1 z2 => ⟨(hjr i z1 z2).2.1, (hjr i z1 z2).2.2.2⟩)) (fun v hs ho => ?_) (fun E hs ho => by first | (simp at ho; done) | (obtain ⟨_, _, ho, _⟩ := ho; cases ho; done) | (obtain ⟨_, _, _, ho, _⟩ := ho; cases ho; done))
      obtain ⟨ho, hR2⟩ := ho
      cases ho
      have hJ2 := backr _ _ hR2
      obtain ⟨fR2, hoR⟩ := hJ2.oR
      obtain ⟨g3, hR3, _⟩ := hJ2.r
      refine V.istore (pc := 375) d_L_law_375 (by decide) ?_
      first | refine V.aload_nR (pc := 377) d_L_law_377 rfl ?_ | refine V.aload_n (pc := 377) d_L_law_377 rfl ?_
      refine V.callV (pc := 378) d_L_law_378 Y_R_thrown l_L_57 wi_R_thrown wv_R_thrown (ci := 6) rfl rfl [] hoR rfl rfl ⟨by repeat (first | exact trivial | refine ⟨(by first | rfl | exact vrf_cat _), ?_⟩), Nat.le_of_ble_eq_true rfl⟩ ⟨⟨rfl, trivial⟩, Nat.le_of_ble_eq_true rfl⟩ (r_thrown hR3) (fun v hs ho => ?_) (fun E hs ho => by first | (simp at ho; done) | (obtain ⟨_, _, ho, _⟩ := ho; cases ho; done) | (obtain ⟨_, _, _, ho, _⟩ := ho; cases ho; done))
      obtain ⟨ho, rfl⟩ := ho
      cases ho
      rw [up_s]
      refine V.iload (pc := 381) d_L_law_381 rfl ?_
      refine Vi.icmp_eq (pc := 383) (tgt := 388) d_L_law_383 (by decide) (hcr) (hcr) (fun c_383 => ?_) (fun c_383 => ?_)
      · refine V.iload (pc := 388) d_L_law_388 rfl ?_
        refine Vi.if_ne (pc := 390) (tgt := 405) d_L_law_390 (by decide) (hcr) (fun c_390 => ?_) (fun c_390 => ?_)
        · refine V.goto (pc := 405) (tgt := 669) d_L_law_405 (by decide) ?_
          exact V.lop (next _ _ _ _ _ hJ2 hRT b1' b2' hi5) ⟨rfl, rfl, rfl, rfl, rfl, trivial⟩
        · obtain ⟨ol, o1, o2, _⟩ := hJ2.out
          have e : ol (ii 0).toNatClampNeg = (ii (z_result S (sx w (i + 1))).2).toInt64 := by
            have e0 : (ii 0).toNatClampNeg = 0 := by decide
            rw [e0, o2]
            exact hv c_390
          first | refine V.aload_nR (pc := 393) d_L_law_393 rfl ?_ | refine V.aload_n (pc := 393) d_L_law_393 rfl ?_
          refine Vi.iconst (pc := 394) d_L_law_394 ?_
          refine V.lald (pc := 395) (t0 := 2) d_L_law_395 o1 hwf.2.2.1 (ii_in (i := 0) (by omega) (by decide) (by decide)) ?_
          rw [e]
          refine V.iload (pc := 396) d_L_law_396 rfl ?_
          refine V.i2l (pc := 398) d_L_law_398 ?_
          refine V.lcmp (pc := 399) d_L_law_399 ?_
          rw [lg_same]
          refine Vi.if_eq (pc := 400) (tgt := 405) d_L_law_400 (by decide) (by decide) (fun c_400 => ?_) (fun c_400 => ?_)
          · refine V.goto (pc := 405) (tgt := 669) d_L_law_405 (by decide) ?_
            exact V.lop (next _ _ _ _ _ hJ2 hRT b1' b2' hi5) ⟨rfl, rfl, rfl, rfl, rfl, trivial⟩
          · exact absurd rfl c_400
      · exact absurd rfl c_383
    have case_state : i + 5 ≤ jL w → V jcl w m_L_law (d + 34) 408 [(0, .ref (jb w)), (1, .ref th), (2, .ref mo), (3, .ref oa), (4, .int (ii i))] [] hs (fun o _ => o = .inl (some (.int (ii 1)))) := by
      intro hi5
      have hr0 := sx_jr w (i + 1)
      have wc := w_state (d := d + 25) h (X := fun T kv => T = S ∧ kv = ((z_state S (sx w (i + 1))).1, (z_state S (sx w (i + 1))).2)) (fun am g e0 hP => (by rw [← e0]; exact (f_state hP hI hR.2.1 hbb hr0).post fun o hs' ho => ⟨_, _, ho, rfl, rfl⟩)) (fun T kv hX => (by rw [hX.2]; exact zr_state))
      first | refine V.aload_nR (pc := 408) d_L_law_408 rfl ?_ | refine V.aload_n (pc := 408) d_L_law_408 rfl ?_
      first | refine V.aload_nR (pc := 409) d_L_law_409 rfl ?_ | refine V.aload_n (pc := 409) d_L_law_409 rfl ?_
      refine V.iload (pc := 410) d_L_law_410 rfl ?_
      refine Vi.iconst (pc := 412) d_L_law_412 ?_
      refine Vi.iadd (pc := 413) d_L_law_413 ?_
      refine Vl.sld d_L_law_414 (by omega) hL ?_
      first | refine V.aload_nR (pc := 415) d_L_law_415 rfl ?_ | refine V.aload_n (pc := 415) d_L_law_415 rfl ?_
      refine V.callS (pc := 416) d_L_law_416 Y_L_state l_L_74 ws_L_state wn_L_state [_, _, _] rfl rfl ⟨by repeat (first | exact trivial | refine ⟨(by first | rfl | exact vrf_cat _), ?_⟩), Nat.le_of_ble_eq_true rfl⟩ ⟨⟨(by first | rfl | exact vrf_cat _), (by first | rfl | exact vrf_cat _), (by first | rfl | exact vrf_cat _), trivial⟩, Nat.le_of_ble_eq_true rfl⟩ (wc) (fun v hs ho => ?_) (fun E hs ho => by first | (simp at ho; done) | (obtain ⟨_, _, ho, _⟩ := ho; cases ho; done) | (obtain ⟨_, _, _, ho, _⟩ := ho; cases ho; done))
      obtain ⟨T, kv, v', ho, hJ1, hv, hT, rfl⟩ := ho
      rw [hT] at hJ1
      cases ho
      simp only at hv ⊢
      have hcd : (z_state S (sx w (i + 1))).1 = 0 ∨ (z_state S (sx w (i + 1))).1 = 1 := zr_state
      have hcr : jr ((z_state S (sx w (i + 1))).1) := by omega
      have hRT : Rt (1000200 * q + 1000) (S) := hR0
      obtain ⟨fR, hoR⟩ := hJ1.oR
      obtain ⟨g2, hR1, backr⟩ := hJ1.r
      refine V.istore (pc := 419) d_L_law_419 (by decide) ?_
      first | refine V.aload_nR (pc := 421) d_L_law_421 rfl ?_ | refine V.aload_n (pc := 421) d_L_law_421 rfl ?_
      first | refine V.aload_nR (pc := 422) d_L_law_422 rfl ?_ | refine V.aload_n (pc := 422) d_L_law_422 rfl ?_
      refine V.iload (pc := 423) d_L_law_423 rfl ?_
      refine Vi.iconst (pc := 425) d_L_law_425 ?_
      refine Vi.iadd (pc := 426) d_L_law_426 ?_
      refine Vl.sld d_L_law_427 (by omega) hL ?_
      refine V.callV (pc := 428) d_L_law_428 Y_R_state l_L_76 wi_R_state wv_R_state (ci := 6) rfl rfl [_] hoR rfl rfl ⟨by repeat (first | exact trivial | refine ⟨(by first | rfl | exact vrf_cat _), ?_⟩), Nat.le_of_ble_eq_true rfl⟩ ⟨⟨rfl, (by first | rfl | exact vrf_cat _), trivial⟩, Nat.le_of_ble_eq_true rfl⟩ (r_state hR1 hr0 hJ (fun i z1 z2 => ⟨(hjr i z1 z2).2.1, (hjr i z1 z2).2.2.2, (hjr i z1 z2).2.2.1⟩)) (fun v hs ho => ?_) (fun E hs ho => by first | (simp at ho; done) | (obtain ⟨_, _, ho, _⟩ := ho; cases ho; done) | (obtain ⟨_, _, _, ho, _⟩ := ho; cases ho; done))
      obtain ⟨ho, hR2⟩ := ho
      cases ho
      have hJ2 := backr _ _ hR2
      obtain ⟨fR2, hoR⟩ := hJ2.oR
      obtain ⟨g3, hR3, _⟩ := hJ2.r
      refine V.istore (pc := 431) d_L_law_431 (by decide) ?_
      first | refine V.aload_nR (pc := 433) d_L_law_433 rfl ?_ | refine V.aload_n (pc := 433) d_L_law_433 rfl ?_
      refine V.callV (pc := 434) d_L_law_434 Y_R_thrown l_L_57 wi_R_thrown wv_R_thrown (ci := 6) rfl rfl [] hoR rfl rfl ⟨by repeat (first | exact trivial | refine ⟨(by first | rfl | exact vrf_cat _), ?_⟩), Nat.le_of_ble_eq_true rfl⟩ ⟨⟨rfl, trivial⟩, Nat.le_of_ble_eq_true rfl⟩ (r_thrown hR3) (fun v hs ho => ?_) (fun E hs ho => by first | (simp at ho; done) | (obtain ⟨_, _, ho, _⟩ := ho; cases ho; done) | (obtain ⟨_, _, _, ho, _⟩ := ho; cases ho; done))
      obtain ⟨ho, rfl⟩ := ho
      cases ho
      rw [up_s]
      refine V.iload (pc := 437) d_L_law_437 rfl ?_
      refine Vi.icmp_eq (pc := 439) (tgt := 444) d_L_law_439 (by decide) (hcr) (hcr) (fun c_439 => ?_) (fun c_439 => ?_)
      · refine V.iload (pc := 444) d_L_law_444 rfl ?_
        refine Vi.if_ne (pc := 446) (tgt := 461) d_L_law_446 (by decide) (hcr) (fun c_446 => ?_) (fun c_446 => ?_)
        · refine V.goto (pc := 461) (tgt := 669) d_L_law_461 (by decide) ?_
          exact V.lop (next _ _ _ _ _ hJ2 hRT b1' b2' hi5) ⟨rfl, rfl, rfl, rfl, rfl, trivial⟩
        · obtain ⟨ol, o1, o2, _⟩ := hJ2.out
          have e : ol (ii 0).toNatClampNeg = (ii (z_state S (sx w (i + 1))).2).toInt64 := by
            have e0 : (ii 0).toNatClampNeg = 0 := by decide
            rw [e0, o2]
            exact hv c_446
          first | refine V.aload_nR (pc := 449) d_L_law_449 rfl ?_ | refine V.aload_n (pc := 449) d_L_law_449 rfl ?_
          refine Vi.iconst (pc := 450) d_L_law_450 ?_
          refine V.lald (pc := 451) (t0 := 2) d_L_law_451 o1 hwf.2.2.1 (ii_in (i := 0) (by omega) (by decide) (by decide)) ?_
          rw [e]
          refine V.iload (pc := 452) d_L_law_452 rfl ?_
          refine V.i2l (pc := 454) d_L_law_454 ?_
          refine V.lcmp (pc := 455) d_L_law_455 ?_
          rw [lg_same]
          refine Vi.if_eq (pc := 456) (tgt := 461) d_L_law_456 (by decide) (by decide) (fun c_456 => ?_) (fun c_456 => ?_)
          · refine V.goto (pc := 461) (tgt := 669) d_L_law_461 (by decide) ?_
            exact V.lop (next _ _ _ _ _ hJ2 hRT b1' b2' hi5) ⟨rfl, rfl, rfl, rfl, rfl, trivial⟩
          · exact absurd rfl c_456
      · exact absurd rfl c_439
    have case_cause : i + 5 ≤ jL w → V jcl w m_L_law (d + 34) 464 [(0, .ref (jb w)), (1, .ref th), (2, .ref mo), (3, .ref oa), (4, .int (ii i))] [] hs (fun o _ => o = .inl (some (.int (ii 1)))) := by
      intro hi5
      have hr0 := sx_jr w (i + 1)
      have wc := w_cause (d := d + 25) h (X := fun T kv => T = S ∧ kv = ((z_cause S (sx w (i + 1))).1, (z_cause S (sx w (i + 1))).2)) (fun am g e0 hP => (by rw [← e0]; exact (f_cause hP hI hbb hr0).post fun o hs' ho => ⟨_, _, ho, rfl, rfl⟩)) (fun T kv hX => (by rw [hX.2]; exact zr_cause))
      first | refine V.aload_nR (pc := 464) d_L_law_464 rfl ?_ | refine V.aload_n (pc := 464) d_L_law_464 rfl ?_
      first | refine V.aload_nR (pc := 465) d_L_law_465 rfl ?_ | refine V.aload_n (pc := 465) d_L_law_465 rfl ?_
      refine V.iload (pc := 466) d_L_law_466 rfl ?_
      refine Vi.iconst (pc := 468) d_L_law_468 ?_
      refine Vi.iadd (pc := 469) d_L_law_469 ?_
      refine Vl.sld d_L_law_470 (by omega) hL ?_
      first | refine V.aload_nR (pc := 471) d_L_law_471 rfl ?_ | refine V.aload_n (pc := 471) d_L_law_471 rfl ?_
      refine V.callS (pc := 472) d_L_law_472 Y_L_cause l_L_77 ws_L_cause wn_L_cause [_, _, _] rfl rfl ⟨by repeat (first | exact trivial | refine ⟨(by first | rfl | exact vrf_cat _), ?_⟩), Nat.le_of_ble_eq_true rfl⟩ ⟨⟨(by first | rfl | exact vrf_cat _), (by first | rfl | exact vrf_cat _), (by first | rfl | exact vrf_cat _), trivial⟩, Nat.le_of_ble_eq_true rfl⟩ (wc) (fun v hs ho => ?_) (fun E hs ho => by first | (simp at ho; done) | (obtain ⟨_, _, ho, _⟩ := ho; cases ho; done) | (obtain ⟨_, _, _, ho, _⟩ := ho; cases ho; done))
      obtain ⟨T, kv, v', ho, hJ1, hv, hT, rfl⟩ := ho
      rw [hT] at hJ1
      cases ho
      simp only at hv ⊢
      have hcd : (z_cause S (sx w (i + 1))).1 = 0 ∨ (z_cause S (sx w (i + 1))).1 = 1 ∨ (z_cause S (sx w (i + 1))).1 = 2 := zr_cause
      have hcr : jr ((z_cause S (sx w (i + 1))).1) := by omega
      have hRT : Rt (1000200 * q + 1000) (S) := hR0
      obtain ⟨fR, hoR⟩ := hJ1.oR
      obtain ⟨g2, hR1, backr⟩ := hJ1.r
      refine V.istore (pc := 475) d_L_law_475 (by decide) ?_
      first | refine V.aload_nR (pc := 477) d_L_law_477 rfl ?_ | refine V.aload_n (pc := 477) d_L_law_477 rfl ?_
      first | refine V.aload_nR (pc := 478) d_L_law_478 rfl ?_ | refine V.aload_n (pc := 478) d_L_law_478 rfl ?_
      refine V.iload (pc := 479) d_L_law_479 rfl ?_
      refine Vi.iconst (pc := 481) d_L_law_481 ?_
      refine Vi.iadd (pc := 482) d_L_law_482 ?_
      refine Vl.sld d_L_law_483 (by omega) hL ?_
      refine V.callV (pc := 484) d_L_law_484 Y_R_cause l_L_79 wi_R_cause wv_R_cause (ci := 6) rfl rfl [_] hoR rfl rfl ⟨by repeat (first | exact trivial | refine ⟨(by first | rfl | exact vrf_cat _), ?_⟩), Nat.le_of_ble_eq_true rfl⟩ ⟨⟨rfl, (by first | rfl | exact vrf_cat _), trivial⟩, Nat.le_of_ble_eq_true rfl⟩ (r_cause hR1 hr0 hJ (fun i z1 z2 => (hjr i z1 z2).2.1)) (fun v hs ho => ?_) (fun E hs ho => by first | (simp at ho; done) | (obtain ⟨_, _, ho, _⟩ := ho; cases ho; done) | (obtain ⟨_, _, _, ho, _⟩ := ho; cases ho; done))
      obtain ⟨ho, hR2⟩ := ho
      cases ho
      have hJ2 := backr _ _ hR2
      obtain ⟨fR2, hoR⟩ := hJ2.oR
      obtain ⟨g3, hR3, _⟩ := hJ2.r
      refine V.istore (pc := 487) d_L_law_487 (by decide) ?_
      first | refine V.aload_nR (pc := 489) d_L_law_489 rfl ?_ | refine V.aload_n (pc := 489) d_L_law_489 rfl ?_
      refine V.callV (pc := 490) d_L_law_490 Y_R_thrown l_L_57 wi_R_thrown wv_R_thrown (ci := 6) rfl rfl [] hoR rfl rfl ⟨by repeat (first | exact trivial | refine ⟨(by first | rfl | exact vrf_cat _), ?_⟩), Nat.le_of_ble_eq_true rfl⟩ ⟨⟨rfl, trivial⟩, Nat.le_of_ble_eq_true rfl⟩ (r_thrown hR3) (fun v hs ho => ?_) (fun E hs ho => by first | (simp at ho; done) | (obtain ⟨_, _, ho, _⟩ := ho; cases ho; done) | (obtain ⟨_, _, _, ho, _⟩ := ho; cases ho; done))
      obtain ⟨ho, rfl⟩ := ho
      cases ho
      rw [up_s]
      refine V.iload (pc := 493) d_L_law_493 rfl ?_
      refine Vi.icmp_eq (pc := 495) (tgt := 500) d_L_law_495 (by decide) (hcr) (hcr) (fun c_495 => ?_) (fun c_495 => ?_)
      · refine V.iload (pc := 500) d_L_law_500 rfl ?_
        refine Vi.if_ne (pc := 502) (tgt := 517) d_L_law_502 (by decide) (hcr) (fun c_502 => ?_) (fun c_502 => ?_)
        · refine V.goto (pc := 517) (tgt := 669) d_L_law_517 (by decide) ?_
          exact V.lop (next _ _ _ _ _ hJ2 hRT b1' b2' hi5) ⟨rfl, rfl, rfl, rfl, rfl, trivial⟩
        · obtain ⟨ol, o1, o2, _⟩ := hJ2.out
          have e : ol (ii 0).toNatClampNeg = (ii (z_cause S (sx w (i + 1))).2).toInt64 := by
            have e0 : (ii 0).toNatClampNeg = 0 := by decide
            rw [e0, o2]
            exact hv c_502
          first | refine V.aload_nR (pc := 505) d_L_law_505 rfl ?_ | refine V.aload_n (pc := 505) d_L_law_505 rfl ?_
          refine Vi.iconst (pc := 506) d_L_law_506 ?_
          refine V.lald (pc := 507) (t0 := 2) d_L_law_507 o1 hwf.2.2.1 (ii_in (i := 0) (by omega) (by decide) (by decide)) ?_
          rw [e]
          refine V.iload (pc := 508) d_L_law_508 rfl ?_
          refine V.i2l (pc := 510) d_L_law_510 ?_
          refine V.lcmp (pc := 511) d_L_law_511 ?_
          rw [lg_same]
          refine Vi.if_eq (pc := 512) (tgt := 517) d_L_law_512 (by decide) (by decide) (fun c_512 => ?_) (fun c_512 => ?_)
          · refine V.goto (pc := 517) (tgt := 669) d_L_law_517 (by decide) ?_
            exact V.lop (next _ _ _ _ _ hJ2 hRT b1' b2' hi5) ⟨rfl, rfl, rfl, rfl, rfl, trivial⟩
          · exact absurd rfl c_512
      · exact absurd rfl c_495
    have case_about : i + 5 ≤ jL w → V jcl w m_L_law (d + 34) 520 [(0, .ref (jb w)), (1, .ref th), (2, .ref mo), (3, .ref oa), (4, .int (ii i))] [] hs (fun o _ => o = .inl (some (.int (ii 1)))) := by
      intro hi5
      have hr0 := sx_jr w (i + 1)
      have hr1 := sx_jr w (i + 2)
      have wc := w_about (d := d + 25) h (X := fun T kv => T = S ∧ kv = ((z_about S (sx w (i + 1)) (sx w (i + 2))).1, (z_about S (sx w (i + 1)) (sx w (i + 2))).2)) (fun am g e0 hP => (by rw [← e0]; exact (f_about hP hI hbb hr0 hr1).post fun o hs' ho => ⟨_, _, ho, rfl, rfl⟩)) (fun T kv hX => (by rw [hX.2]; exact zr_about))
      first | refine V.aload_nR (pc := 520) d_L_law_520 rfl ?_ | refine V.aload_n (pc := 520) d_L_law_520 rfl ?_
      first | refine V.aload_nR (pc := 521) d_L_law_521 rfl ?_ | refine V.aload_n (pc := 521) d_L_law_521 rfl ?_
      refine V.iload (pc := 522) d_L_law_522 rfl ?_
      refine Vi.iconst (pc := 524) d_L_law_524 ?_
      refine Vi.iadd (pc := 525) d_L_law_525 ?_
      refine Vl.sld d_L_law_526 (by omega) hL ?_
      first | refine V.aload_nR (pc := 527) d_L_law_527 rfl ?_ | refine V.aload_n (pc := 527) d_L_law_527 rfl ?_
      refine V.iload (pc := 528) d_L_law_528 rfl ?_
      refine Vi.iconst (pc := 530) d_L_law_530 ?_
      refine Vi.iadd (pc := 531) d_L_law_531 ?_
      refine Vl.sld d_L_law_532 (by omega) hL ?_
      first | refine V.aload_nR (pc := 533) d_L_law_533 rfl ?_ | refine V.aload_n (pc := 533) d_L_law_533 rfl ?_
      refine V.callS (pc := 534) d_L_law_534 Y_L_about l_L_80 ws_L_about wn_L_about [_, _, _, _] rfl rfl ⟨by repeat (first | exact trivial | refine ⟨(by first | rfl | exact vrf_cat _), ?_⟩), Nat.le_of_ble_eq_true rfl⟩ ⟨⟨(by first | rfl | exact vrf_cat _), (by first | rfl | exact vrf_cat _), (by first | rfl | exact vrf_cat _), (by first | rfl | exact vrf_cat _), trivial⟩, Nat.le_of_ble_eq_true rfl⟩ (wc) (fun v hs ho => ?_) (fun E hs ho => by first | (simp at ho; done) | (obtain ⟨_, _, ho, _⟩ := ho; cases ho; done) | (obtain ⟨_, _, _, ho, _⟩ := ho; cases ho; done))
      obtain ⟨T, kv, v', ho, hJ1, hv, hT, rfl⟩ := ho
      rw [hT] at hJ1
      cases ho
      simp only at hv ⊢
      have hcd : (z_about S (sx w (i + 1)) (sx w (i + 2))).1 = 0 ∨ (z_about S (sx w (i + 1)) (sx w (i + 2))).1 = 1 := zr_about
      have hcr : jr ((z_about S (sx w (i + 1)) (sx w (i + 2))).1) := by omega
      have hRT : Rt (1000200 * q + 1000) (S) := hR0
      obtain ⟨fR, hoR⟩ := hJ1.oR
      obtain ⟨g2, hR1, backr⟩ := hJ1.r
      refine V.istore (pc := 537) d_L_law_537 (by decide) ?_
      first | refine V.aload_nR (pc := 539) d_L_law_539 rfl ?_ | refine V.aload_n (pc := 539) d_L_law_539 rfl ?_
      first | refine V.aload_nR (pc := 540) d_L_law_540 rfl ?_ | refine V.aload_n (pc := 540) d_L_law_540 rfl ?_
      refine V.iload (pc := 541) d_L_law_541 rfl ?_
      refine Vi.iconst (pc := 543) d_L_law_543 ?_
      refine Vi.iadd (pc := 544) d_L_law_544 ?_
      refine Vl.sld d_L_law_545 (by omega) hL ?_
      first | refine V.aload_nR (pc := 546) d_L_law_546 rfl ?_ | refine V.aload_n (pc := 546) d_L_law_546 rfl ?_
      refine V.iload (pc := 547) d_L_law_547 rfl ?_
      refine Vi.iconst (pc := 549) d_L_law_549 ?_
      refine Vi.iadd (pc := 550) d_L_law_550 ?_
      refine Vl.sld d_L_law_551 (by omega) hL ?_
      refine V.callV (pc := 552) d_L_law_552 Y_R_about l_L_83 wi_R_about wv_R_about (ci := 6) rfl rfl [_, _] hoR rfl rfl ⟨by repeat (first | exact trivial | refine ⟨(by first | rfl | exact vrf_cat _), ?_⟩), Nat.le_of_ble_eq_true rfl⟩ ⟨⟨rfl, (by first | rfl | exact vrf_cat _), (by first | rfl | exact vrf_cat _), trivial⟩, Nat.le_of_ble_eq_true rfl⟩ (r_about hR1 hr0 hr1 hJ (fun i z1 z2 => ⟨(hjr i z1 z2).1, (hjr i z1 z2).2.2.2⟩)) (fun v hs ho => ?_) (fun E hs ho => by first | (simp at ho; done) | (obtain ⟨_, _, ho, _⟩ := ho; cases ho; done) | (obtain ⟨_, _, _, ho, _⟩ := ho; cases ho; done))
      obtain ⟨ho, hR2⟩ := ho
      cases ho
      have hJ2 := backr _ _ hR2
      obtain ⟨fR2, hoR⟩ := hJ2.oR
      obtain ⟨g3, hR3, _⟩ := hJ2.r
      refine V.istore (pc := 555) d_L_law_555 (by decide) ?_
      first | refine V.aload_nR (pc := 557) d_L_law_557 rfl ?_ | refine V.aload_n (pc := 557) d_L_law_557 rfl ?_
      refine V.callV (pc := 558) d_L_law_558 Y_R_thrown l_L_57 wi_R_thrown wv_R_thrown (ci := 6) rfl rfl [] hoR rfl rfl ⟨by repeat (first | exact trivial | refine ⟨(by first | rfl | exact vrf_cat _), ?_⟩), Nat.le_of_ble_eq_true rfl⟩ ⟨⟨rfl, trivial⟩, Nat.le_of_ble_eq_true rfl⟩ (r_thrown hR3) (fun v hs ho => ?_) (fun E hs ho => by first | (simp at ho; done) | (obtain ⟨_, _, ho, _⟩ := ho; cases ho; done) | (obtain ⟨_, _, _, ho, _⟩ := ho; cases ho; done))
      obtain ⟨ho, rfl⟩ := ho
      cases ho
      rw [up_s]
      refine V.iload (pc := 561) d_L_law_561 rfl ?_
      refine Vi.icmp_eq (pc := 563) (tgt := 568) d_L_law_563 (by decide) (hcr) (hcr) (fun c_563 => ?_) (fun c_563 => ?_)
      · refine V.iload (pc := 568) d_L_law_568 rfl ?_
        refine Vi.if_ne (pc := 570) (tgt := 585) d_L_law_570 (by decide) (hcr) (fun c_570 => ?_) (fun c_570 => ?_)
        · refine V.goto (pc := 585) (tgt := 669) d_L_law_585 (by decide) ?_
          exact V.lop (next _ _ _ _ _ hJ2 hRT b1' b2' hi5) ⟨rfl, rfl, rfl, rfl, rfl, trivial⟩
        · obtain ⟨ol, o1, o2, _⟩ := hJ2.out
          have e : ol (ii 0).toNatClampNeg = (ii (z_about S (sx w (i + 1)) (sx w (i + 2))).2).toInt64 := by
            have e0 : (ii 0).toNatClampNeg = 0 := by decide
            rw [e0, o2]
            exact hv c_570
          first | refine V.aload_nR (pc := 573) d_L_law_573 rfl ?_ | refine V.aload_n (pc := 573) d_L_law_573 rfl ?_
          refine Vi.iconst (pc := 574) d_L_law_574 ?_
          refine V.lald (pc := 575) (t0 := 2) d_L_law_575 o1 hwf.2.2.1 (ii_in (i := 0) (by omega) (by decide) (by decide)) ?_
          rw [e]
          refine V.iload (pc := 576) d_L_law_576 rfl ?_
          refine V.i2l (pc := 578) d_L_law_578 ?_
          refine V.lcmp (pc := 579) d_L_law_579 ?_
          rw [lg_same]
          refine Vi.if_eq (pc := 580) (tgt := 585) d_L_law_580 (by decide) (by decide) (fun c_580 => ?_) (fun c_580 => ?_)
          · refine V.goto (pc := 585) (tgt := 669) d_L_law_585 (by decide) ?_
            exact V.lop (next _ _ _ _ _ hJ2 hRT b1' b2' hi5) ⟨rfl, rfl, rfl, rfl, rfl, trivial⟩
          · exact absurd rfl c_580
      · exact absurd rfl c_563
    have case_noted : i + 5 ≤ jL w → V jcl w m_L_law (d + 34) 588 [(0, .ref (jb w)), (1, .ref th), (2, .ref mo), (3, .ref oa), (4, .int (ii i))] [] hs (fun o _ => o = .inl (some (.int (ii 1)))) := by
      intro hi5
      have hr0 := sx_jr w (i + 1)
      have wc := w_noted (d := d + 25) h (X := fun T kv => T = S ∧ kv = ((z_noted S (sx w (i + 1))).1, (z_noted S (sx w (i + 1))).2)) (fun am g e0 hP => (by rw [← e0]; exact (f_noted hP hI (hB.le (by omega)) hbb hr0).post fun o hs' ho => ⟨_, _, ho, rfl, rfl⟩)) (fun T kv hX => (by rw [hX.2]; exact zr_noted))
      first | refine V.aload_nR (pc := 588) d_L_law_588 rfl ?_ | refine V.aload_n (pc := 588) d_L_law_588 rfl ?_
      first | refine V.aload_nR (pc := 589) d_L_law_589 rfl ?_ | refine V.aload_n (pc := 589) d_L_law_589 rfl ?_
      refine V.iload (pc := 590) d_L_law_590 rfl ?_
      refine Vi.iconst (pc := 592) d_L_law_592 ?_
      refine Vi.iadd (pc := 593) d_L_law_593 ?_
      refine Vl.sld d_L_law_594 (by omega) hL ?_
      first | refine V.aload_nR (pc := 595) d_L_law_595 rfl ?_ | refine V.aload_n (pc := 595) d_L_law_595 rfl ?_
      refine V.callS (pc := 596) d_L_law_596 Y_L_noted l_L_84 ws_L_noted wn_L_noted [_, _, _] rfl rfl ⟨by repeat (first | exact trivial | refine ⟨(by first | rfl | exact vrf_cat _), ?_⟩), Nat.le_of_ble_eq_true rfl⟩ ⟨⟨(by first | rfl | exact vrf_cat _), (by first | rfl | exact vrf_cat _), (by first | rfl | exact vrf_cat _), trivial⟩, Nat.le_of_ble_eq_true rfl⟩ (wc) (fun v hs ho => ?_) (fun E hs ho => by first | (simp at ho; done) | (obtain ⟨_, _, ho, _⟩ := ho; cases ho; done) | (obtain ⟨_, _, _, ho, _⟩ := ho; cases ho; done))
      obtain ⟨T, kv, v', ho, hJ1, hv, hT, rfl⟩ := ho
      rw [hT] at hJ1
      cases ho
      simp only at hv ⊢
      have hcd : (z_noted S (sx w (i + 1))).1 = 0 ∨ (z_noted S (sx w (i + 1))).1 = 1 := zr_noted
      have hcr : jr ((z_noted S (sx w (i + 1))).1) := by omega
      have hRT : Rt (1000200 * q + 1000) (S) := hR0
      obtain ⟨fR, hoR⟩ := hJ1.oR
      obtain ⟨g2, hR1, backr⟩ := hJ1.r
      refine V.istore (pc := 599) d_L_law_599 (by decide) ?_
      first | refine V.aload_nR (pc := 601) d_L_law_601 rfl ?_ | refine V.aload_n (pc := 601) d_L_law_601 rfl ?_
      first | refine V.aload_nR (pc := 602) d_L_law_602 rfl ?_ | refine V.aload_n (pc := 602) d_L_law_602 rfl ?_
      refine V.iload (pc := 603) d_L_law_603 rfl ?_
      refine Vi.iconst (pc := 605) d_L_law_605 ?_
      refine Vi.iadd (pc := 606) d_L_law_606 ?_
      refine Vl.sld d_L_law_607 (by omega) hL ?_
      refine V.callV (pc := 608) d_L_law_608 Y_R_noted l_L_86 wi_R_noted wv_R_noted (ci := 6) rfl rfl [_] hoR rfl rfl ⟨by repeat (first | exact trivial | refine ⟨(by first | rfl | exact vrf_cat _), ?_⟩), Nat.le_of_ble_eq_true rfl⟩ ⟨⟨rfl, (by first | rfl | exact vrf_cat _), trivial⟩, Nat.le_of_ble_eq_true rfl⟩ (r_noted hR1 hr0 h3) (fun v hs ho => ?_) (fun E hs ho => by first | (simp at ho; done) | (obtain ⟨_, _, ho, _⟩ := ho; cases ho; done) | (obtain ⟨_, _, _, ho, _⟩ := ho; cases ho; done))
      obtain ⟨ho, hR2⟩ := ho
      cases ho
      have hJ2 := backr _ _ hR2
      obtain ⟨fR2, hoR⟩ := hJ2.oR
      obtain ⟨g3, hR3, _⟩ := hJ2.r
      refine V.istore (pc := 611) d_L_law_611 (by decide) ?_
      first | refine V.aload_nR (pc := 613) d_L_law_613 rfl ?_ | refine V.aload_n (pc := 613) d_L_law_613 rfl ?_
      refine V.callV (pc := 614) d_L_law_614 Y_R_thrown l_L_57 wi_R_thrown wv_R_thrown (ci := 6) rfl rfl [] hoR rfl rfl ⟨by repeat (first | exact trivial | refine ⟨(by first | rfl | exact vrf_cat _), ?_⟩), Nat.le_of_ble_eq_true rfl⟩ ⟨⟨rfl, trivial⟩, Nat.le_of_ble_eq_true rfl⟩ (r_thrown hR3) (fun v hs ho => ?_) (fun E hs ho => by first | (simp at ho; done) | (obtain ⟨_, _, ho, _⟩ := ho; cases ho; done) | (obtain ⟨_, _, _, ho, _⟩ := ho; cases ho; done))
      obtain ⟨ho, rfl⟩ := ho
      cases ho
      rw [up_s]
      refine V.iload (pc := 617) d_L_law_617 rfl ?_
      refine Vi.icmp_eq (pc := 619) (tgt := 624) d_L_law_619 (by decide) (hcr) (hcr) (fun c_619 => ?_) (fun c_619 => ?_)
      · refine V.iload (pc := 624) d_L_law_624 rfl ?_
        refine Vi.if_ne (pc := 626) (tgt := 641) d_L_law_626 (by decide) (hcr) (fun c_626 => ?_) (fun c_626 => ?_)
        · refine V.goto (pc := 641) (tgt := 669) d_L_law_641 (by decide) ?_
          exact V.lop (next _ _ _ _ _ hJ2 hRT b1' b2' hi5) ⟨rfl, rfl, rfl, rfl, rfl, trivial⟩
        · obtain ⟨ol, o1, o2, _⟩ := hJ2.out
          have e : ol (ii 0).toNatClampNeg = (ii (z_noted S (sx w (i + 1))).2).toInt64 := by
            have e0 : (ii 0).toNatClampNeg = 0 := by decide
            rw [e0, o2]
            exact hv c_626
          first | refine V.aload_nR (pc := 629) d_L_law_629 rfl ?_ | refine V.aload_n (pc := 629) d_L_law_629 rfl ?_
          refine Vi.iconst (pc := 630) d_L_law_630 ?_
          refine V.lald (pc := 631) (t0 := 2) d_L_law_631 o1 hwf.2.2.1 (ii_in (i := 0) (by omega) (by decide) (by decide)) ?_
          rw [e]
          refine V.iload (pc := 632) d_L_law_632 rfl ?_
          refine V.i2l (pc := 634) d_L_law_634 ?_
          refine V.lcmp (pc := 635) d_L_law_635 ?_
          rw [lg_same]
          refine Vi.if_eq (pc := 636) (tgt := 641) d_L_law_636 (by decide) (by decide) (fun c_636 => ?_) (fun c_636 => ?_)
          · refine V.goto (pc := 641) (tgt := 669) d_L_law_641 (by decide) ?_
            exact V.lop (next _ _ _ _ _ hJ2 hRT b1' b2' hi5) ⟨rfl, rfl, rfl, rfl, rfl, trivial⟩
          · exact absurd rfl c_636
      · exact absurd rfl c_619
    have case_count : i + 5 ≤ jL w → V jcl w m_L_law (d + 34) 644 [(0, .ref (jb w)), (1, .ref th), (2, .ref mo), (3, .ref oa), (4, .int (ii i))] [] hs (fun o _ => o = .inl (some (.int (ii 1)))) := by
      intro hi5
      have hr0 := sx_jr w (i + 1)
      obtain ⟨fJ, hoJ⟩ := h.oJ
      obtain ⟨am, g, e0, hP, back⟩ := h.c
      have htj := hI.tj hB (by omega)
      have hc := f_count (d := d + 31) hP hI (hB.le (by omega)) hr0
      rw [e0] at hc
      first | refine V.aload_nR (pc := 644) d_L_law_644 rfl ?_ | refine V.aload_n (pc := 644) d_L_law_644 rfl ?_
      first | refine V.aload_nR (pc := 645) d_L_law_645 rfl ?_ | refine V.aload_n (pc := 645) d_L_law_645 rfl ?_
      refine V.iload (pc := 646) d_L_law_646 rfl ?_
      refine Vi.iconst (pc := 648) d_L_law_648 ?_
      refine Vi.iadd (pc := 649) d_L_law_649 ?_
      refine Vl.sld d_L_law_650 (by omega) hL ?_
      refine V.callV (pc := 651) d_L_law_651 Y_J_count l_L_87 wi_J_count wv_J_count (ci := 0) rfl rfl [_] hoJ rfl rfl ⟨by repeat (first | exact trivial | refine ⟨(by first | rfl | exact vrf_cat _), ?_⟩), Nat.le_of_ble_eq_true rfl⟩ ⟨⟨rfl, (by first | rfl | exact vrf_cat _), trivial⟩, Nat.le_of_ble_eq_true rfl⟩ (hc) (fun v hs ho => ?_) (fun E hs ho => by first | (simp at ho; done) | (obtain ⟨_, _, ho, _⟩ := ho; cases ho; done) | (obtain ⟨_, _, _, ho, _⟩ := ho; cases ho; done))
      obtain ⟨ho, hP2⟩ := ho
      cases ho
      have hJ1 := back am S _ _ e0 hP2
      obtain ⟨fR, hoR⟩ := hJ1.oR
      obtain ⟨g2, hR1, backr⟩ := hJ1.r
      first | refine V.aload_nR (pc := 654) d_L_law_654 rfl ?_ | refine V.aload_n (pc := 654) d_L_law_654 rfl ?_
      first | refine V.aload_nR (pc := 655) d_L_law_655 rfl ?_ | refine V.aload_n (pc := 655) d_L_law_655 rfl ?_
      refine V.iload (pc := 656) d_L_law_656 rfl ?_
      refine Vi.iconst (pc := 658) d_L_law_658 ?_
      refine Vi.iadd (pc := 659) d_L_law_659 ?_
      refine Vl.sld d_L_law_660 (by omega) hL ?_
      refine V.callV (pc := 661) d_L_law_661 Y_R_count l_L_90 wi_R_count wv_R_count (ci := 6) rfl rfl [_] hoR rfl rfl ⟨by repeat (first | exact trivial | refine ⟨(by first | rfl | exact vrf_cat _), ?_⟩), Nat.le_of_ble_eq_true rfl⟩ ⟨⟨rfl, (by first | rfl | exact vrf_cat _), trivial⟩, Nat.le_of_ble_eq_true rfl⟩ (r_count hr0 hR1 hJ (fun k z1 z2 => ⟨(htj k z1 z2).1, (htj k z1 z2).2.1, (htj k z1 z2).2.2.1⟩)) (fun v hs ho => ?_) (fun E hs ho => by first | (simp at ho; done) | (obtain ⟨_, _, ho, _⟩ := ho; cases ho; done) | (obtain ⟨_, _, _, ho, _⟩ := ho; cases ho; done))
      obtain ⟨ho, hR2⟩ := ho
      cases ho
      have hJ2 := backr _ _ hR2
      refine V.icmp_eq (pc := 664) (tgt := 669) d_L_law_664 (by decide) (fun c_664 => ?_) (fun c_664 => ?_)
      · exact V.lop (next _ _ _ _ _ hJ2 hR0 (by omega) (by omega) hi5) ⟨rfl, rfl, rfl, rfl, rfl, trivial⟩
      · exact absurd rfl c_664
    have case_no : i + 5 ≤ jL w → V jcl w m_L_law (d + 34) 669 [(0, .ref (jb w)), (1, .ref th), (2, .ref mo), (3, .ref oa), (4, .int (ii i))] [] hs (fun o _ => o = .inl (some (.int (ii 1)))) := by
      intro hi5
      have e : up S 0 0 (S 0 0) = S := up_same rfl
      exact next v S (S 0 0) b hs (by rw [e]; exact h) hR0 (by omega) (by omega) hi5
    clear next ih
    refine V.iload (pc := 23) d_L_law_23 rfl ?_
    first | refine V.aload_nR (pc := 25) d_L_law_25 rfl ?_ | refine V.aload_n (pc := 25) d_L_law_25 rfl ?_
    refine V.slen (pc := 26) d_L_law_26 ?_
    rw [show Int32.ofNat (jL w) = ii (jL w : Int) from (Int32.ofInt_eq_ofNat ..).symm]
    refine Vi.iconst (pc := 27) d_L_law_27 ?_
    refine Vi.isub (pc := 28) d_L_law_28 ?_
    refine Vi.icmp_gt (pc := 29) (tgt := 675) d_L_law_29 (by decide) (by omega) (by omega) (fun c_29 => ?_) (fun c_29 => ?_)
    · refine Vi.iconst (pc := 675) d_L_law_675 ?_
      refine Vi.zreturn (pc := 676) d_L_law_676 rfl (by omega) ?_
      rfl
    · have hi5 : i + 5 ≤ jL w := by omega
      first | refine V.aload_nR (pc := 32) d_L_law_32 rfl ?_ | refine V.aload_n (pc := 32) d_L_law_32 rfl ?_
      refine V.iload (pc := 33) d_L_law_33 rfl ?_
      refine Vl.sld d_L_law_35 (by omega) hL ?_
      refine Vi.bipush (pc := 36) d_L_law_36 (by decide) ?_
      refine V.iand (pc := 38) d_L_law_38 ?_
      rw [ii_of (ii (sx w i) &&& ii 15)]
      have hu := jr_of (ii (sx w i) &&& ii 15)
      generalize (ii (sx w i) &&& ii 15).toInt = u at hu ⊢
      refine Vi.tsw (pc := 39) (tgt := 669) d_L_law_39 (hu) (by decide) (fun s_39 => ?_) (fun n_39 s_39 z_39 => ?_)
      · exact V.lop (case_no hi5) ⟨rfl, rfl, rfl, rfl, rfl, trivial⟩
      · have z_39 : n_39 < 10 := z_39
        have q_39 : n_39 = 0 ∨ n_39 = 1 ∨ n_39 = 2 ∨ n_39 = 3 ∨ n_39 = 4 ∨ n_39 = 5 ∨ n_39 = 6 ∨ n_39 = 7 ∨ n_39 = 8 ∨ n_39 = 9 := by omega
        rcases q_39 with rfl | rfl | rfl | rfl | rfl | rfl | rfl | rfl | rfl | rfl
        · refine Vi.atpc (pc := 92) (by rfl) ?_
          simp at s_39
          exact V.lop (case_act hi5) ⟨rfl, rfl, rfl, rfl, rfl, trivial⟩
        · refine Vi.atpc (pc := 184) (by rfl) ?_
          simp at s_39
          exact V.lop (case_start hi5) ⟨rfl, rfl, rfl, rfl, rfl, trivial⟩
        · refine Vi.atpc (pc := 240) (by rfl) ?_
          simp at s_39
          exact V.lop (case_cancel hi5) ⟨rfl, rfl, rfl, rfl, rfl, trivial⟩
        · refine Vi.atpc (pc := 296) (by rfl) ?_
          simp at s_39
          exact V.lop (case_run hi5) ⟨rfl, rfl, rfl, rfl, rfl, trivial⟩
        · refine Vi.atpc (pc := 352) (by rfl) ?_
          simp at s_39
          exact V.lop (case_result hi5) ⟨rfl, rfl, rfl, rfl, rfl, trivial⟩
        · refine Vi.atpc (pc := 408) (by rfl) ?_
          simp at s_39
          exact V.lop (case_state hi5) ⟨rfl, rfl, rfl, rfl, rfl, trivial⟩
        · refine Vi.atpc (pc := 464) (by rfl) ?_
          simp at s_39
          exact V.lop (case_cause hi5) ⟨rfl, rfl, rfl, rfl, rfl, trivial⟩
        · refine Vi.atpc (pc := 520) (by rfl) ?_
          simp at s_39
          exact V.lop (case_about hi5) ⟨rfl, rfl, rfl, rfl, rfl, trivial⟩
        · refine Vi.atpc (pc := 588) (by rfl) ?_
          simp at s_39
          exact V.lop (case_noted hi5) ⟨rfl, rfl, rfl, rfl, rfl, trivial⟩
        · refine Vi.atpc (pc := 644) (by rfl) ?_
          simp at s_39
          exact V.lop (case_count hi5) ⟨rfl, rfl, rfl, rfl, rfl, trivial⟩
end KO
