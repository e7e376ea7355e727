/-! the class at the reference's state: throwAtLastFrame, leaveFramesAtTheirEnd -/
section KC
variable {w : jw} {d : Nat} {hs : jh} {am : Nat → Int → Nat} {C S T : js} {g : Nat → Option va_E} {b : Nat × Nat}
theorem Eb.le {j m n : Int} (h : Eb j m S) (hn : n ≤ m) : Eb j n S := ⟨h.1, h.2.1, h.2.2.1, h.2.2.2.1.le (by omega), h.2.2.2.2⟩
/-- from S to S', where j goes on or has no frames left -/
def Th (j m : Int) (S S' : js) : Prop := Tq S S' ∧ ((Kk j m S' ∧ S' 8 0 = -1 ∧ S' 9 0 = S 9 0 ∧ Sg j S S' ∧ Mu j S' + 1 ≤ Mu j S) ∨ (Eb j m S' ∧ RS j S (z_bodyEnds S' j)))
theorem Tq.tp {j : Int} : Tq S (z_tp S j) := Tq.cg fun f i hf => z_tp_e.1 f i (by omega) (by omega)
theorem k_th {j m x : Int} (hm : 0 ≤ m) (hx : 0 ≤ x ∧ x ≤ 99) : ∀ (q : Nat) (S : js) (hs : jh), PR w am S g b hs → Kk j (m + 1) S → S 8 0 = x → S 21 j ≤ q →
    V jcl w m_J_throwAtLastFrame (d + 27) 7 [(0, .ref (am 0 0)), (1, .ref (am 10 j)), (2, .int (ii x)), (3, .int (ii (S 21 j - 1)))] [] hs (fun o hs' => ∃ S', o = .inl none ∧ PR w am S' g b hs' ∧ Th j m S S') := by
  intro q
  induction q with
  | zero =>
    intro S hs hP hK h8 hq
    have := hK.2.2.2.2.1
    omega
  | succ q ih =>
    intro S hs hP hK h8 hq
    subst h8
    obtain ⟨C, hC, hA, h6⟩ := hP
    have hC1 := hA.j1
    have hI := hK.1
    have hJ := hI.J
    have hj := hK.2.1.1
    have h0 := hK.2.2.2.2.1
    have hB := hK.2.2.2.1
    have hfr := hK.fr
    have h21 : C 21 j = S 21 j := hA.a1 21 j (by unfold cm; omega)
    have hF := hA.a4 j (j * 6 + S 21 j - 1) hj.1 hj.2 (by omega) (by omega)
    have h35 : C 35 (j * 6 + S 21 j - 1) = S 35 (j * 6 + S 21 j - 1) := hF.2.2.1
    have h36 := hF.2.2.2.2
    have h3 : C 3 0 = S 3 0 := hA.a1 3 0 (by unfold cm; omega)
    have ht3 := hI.tm.1
    have ef : j * 6 + (S 21 j - 1) = j * 6 + S 21 j - 1 := by omega
    have hrf : 0 ≤ j * 6 + S 21 j - 1 ∧ j * 6 + S 21 j - 1 < 6 * C 1 0 := by omega
    have hA1 : Ag (up C 21 j (S 21 j - 1)) (z_tp S j) := ((hA.so (f := 8) (i := 0) (v := S 8 0) (by omega)).pop (j := j) (n := S 21 j - 1) (by rw [up_f (by decide)]; omega)).so (by omega)
    have hA0 : Ag (up C 21 j (S 21 j - 1)) (up (up S 8 0 (S 8 0)) 21 j (S 21 j - 1)) := (hA.so (f := 8) (i := 0) (v := S 8 0) (by omega)).pop (j := j) (n := S 21 j - 1) (by rw [up_f (by decide)]; omega)
    have h61 : A6 (up C 21 j (S 21 j - 1)) := h6.cg fun f i hf => up_f (by omega)
    have o35 : up C 21 j (S 21 j - 1) 35 (j * 6 + S 21 j - 1) = S 35 (j * 6 + S 21 j - 1) := by rw [up_f (by decide)]; exact h35
    have o36 : up C 21 j (S 21 j - 1) 36 (j * 6 + S 21 j - 1) = C 36 (j * 6 + S 21 j - 1) := up_f (by decide)
    have o1 : up C 21 j (S 21 j - 1) 1 0 = S 1 0 := by rw [up_f (by decide)]; exact hC1
    have o3 : up C 21 j (S 21 j - 1) 3 0 = S 3 0 := by rw [up_f (by decide)]; exact h3
    have hb3 : 0 ≤ S 3 0 ∧ S 3 0 < 2000000000 := by unfold Bd at hB; omega
    have h35r := hfr.1.2
    have t1 : z_tp S j 1 0 = S 1 0 := z_tp_e.1 1 0 (by decide) (by decide)
    have t21 : z_tp S j 21 j = S 21 j - 1 := z_tp_e.2.2
    refine V.iload_n (pc := 7) d_J_throwAtLastFrame_7 rfl ?_
    refine Vi.if_lt (pc := 8) (tgt := 110) d_J_throwAtLastFrame_8 (by decide) (by first | assumption | decide | omega | (simp [up] <;> omega)) (fun c_8 => ?_) (fun c_8 => ?_)
    · omega
    · first | refine V.aload_nR (pc := 11) d_J_throwAtLastFrame_11 rfl ?_ | refine V.aload_n (pc := 11) d_J_throwAtLastFrame_11 rfl ?_
      refine Vc.get_B (pc := 12) d_J_throwAtLastFrame_12 g_J_215 hC (by first | assumption | omega | (simp [up, up_f] <;> omega)) rfl ?_
      refine V.iload_n (pc := 15) d_J_throwAtLastFrame_15 rfl ?_
      refine Vc.ald_frames (pc := 16) d_J_throwAtLastFrame_16 hC (by first | assumption | omega | (simp [up, up_f] <;> omega)) (by first | assumption | omega | (simp [up, up_f] <;> omega)) ?_
      rw [ef]
      first | refine V.astoreR (pc := 17) d_J_throwAtLastFrame_17 (by decide) ?_ | refine V.astore (pc := 17) d_J_throwAtLastFrame_17 (by decide) ?_
      first | refine V.aload_nR (pc := 19) d_J_throwAtLastFrame_19 rfl ?_ | refine V.aload_n (pc := 19) d_J_throwAtLastFrame_19 rfl ?_
      refine V.iload_n (pc := 20) d_J_throwAtLastFrame_20 rfl ?_
      refine Vc.put_B7 (pc := 21) d_J_throwAtLastFrame_21 f_J_106 hC (by first | assumption | omega | (simp [up, up_f] <;> omega)) (fun hs hC => ?_)
      have hP1 : PR w am (z_tp S j) g b hs := ⟨_, hC, hA1, h61⟩
      have hP0 : PR w am (up (up S 8 0 (S 8 0)) 21 j (S 21 j - 1)) g b hs := ⟨_, hC, hA0, h61⟩
      generalize up C 21 j (S 21 j - 1) = D at hC hA1 hA0 h61 o35 o36 o1 o3
      first | refine V.aloadR (pc := 24) d_J_throwAtLastFrame_24 rfl ?_ | refine V.aload (pc := 24) d_J_throwAtLastFrame_24 rfl ?_
      refine Vc.get_F (pc := 26) d_J_throwAtLastFrame_26 g_J_204 hC (by first | assumption | omega | (simp [up, up_f] <;> omega)) rfl ?_
      rw [o35]
      refine Vi.if_ne (pc := 29) (tgt := 40) d_J_throwAtLastFrame_29 (by decide) (by first | assumption | decide | omega | (simp [up] <;> omega)) (fun c_29 => ?_) (fun c_29 => ?_)
      · first | refine V.aloadR (pc := 40) d_J_throwAtLastFrame_40 rfl ?_ | refine V.aload (pc := 40) d_J_throwAtLastFrame_40 rfl ?_
        refine Vc.get_F (pc := 42) d_J_throwAtLastFrame_42 g_J_204 hC (by first | assumption | omega | (simp [up, up_f] <;> omega)) rfl ?_
        rw [o35]
        refine Vi.iconst (pc := 45) d_J_throwAtLastFrame_45 ?_
        have try_ : S 35 (j * 6 + S 21 j - 1) = 1 → 0 < S 8 0 → V jcl w m_J_throwAtLastFrame (d + 27) 53 [(0, .ref (am 0 0)), (1, .ref (am 10 j)), (2, .int (ii (S 8 0))), (3, .int (ii (S 21 j - 1))), (4, .ref (am 15 (j * 6 + S 21 j - 1)))] [] hs (fun o hs' => ∃ S', o = .inl none ∧ PR w am S' g b hs' ∧ Th j m S S') := by
          intro y1 y2
          have L := th_try hK hm hx y1 y2
          have hA2 := hA1.write (v := 100 + S 8 0)
          have h62 : A6 (z_write D (100 + S 8 0)) := h61.cg fun f i hf => z_write_e.1 f i (by omega) (by omega)
          have p36 : z_write D (100 + S 8 0) 36 (j * 6 + S 21 j - 1) = S 36 (j * 6 + S 21 j - 1) := by rw [z_write_e.1 _ _ (by decide) (by decide), o36]; exact h36 (by omega)
          have p1 : z_write D (100 + S 8 0) 1 0 = S 1 0 := by rw [z_write_e.1 _ _ (by decide) (by decide)]; exact o1
          have w1 : z_write (z_tp S j) (100 + S 8 0) 1 0 = S 1 0 := by rw [z_write_e.1 _ _ (by decide) (by decide)]; exact t1
          have w21 : z_write (z_tp S j) (100 + S 8 0) 21 j = S 21 j - 1 := by rw [z_write_e.1 _ _ (by decide) (by decide)]; exact t21
          have hIw : Iv (z_write (z_tp S j) (100 + S 8 0)) := ((hK.u8.pop (n := S 21 j - 1) (by rw [up_f (by decide)]; omega)).u8 (v := -1)).1.write
          first | refine V.aload_nR (pc := 53) d_J_throwAtLastFrame_53 rfl ?_ | refine V.aload_n (pc := 53) d_J_throwAtLastFrame_53 rfl ?_
          refine Vi.bipush (pc := 54) d_J_throwAtLastFrame_54 (by decide) ?_
          refine V.iload_n (pc := 56) d_J_throwAtLastFrame_56 rfl ?_
          refine Vi.iadd (pc := 57) d_J_throwAtLastFrame_57 ?_
          refine V.callV (pc := 58) d_J_throwAtLastFrame_58 Y_J_note l_J_219 wi_J_note wv_J_note (ci := 0) rfl rfl [_] hC.oJ rfl rfl ⟨by repeat (first | exact trivial | refine ⟨(by first | rfl | exact vrf_cat _), ?_⟩), Nat.le_of_ble_eq_true rfl⟩ ⟨⟨rfl, (by first | rfl | exact vrf_cat _), trivial⟩, Nat.le_of_ble_eq_true rfl⟩ (c_note hC (by omega)) (fun v hs ho => ?_) (fun E hs ho => by simp at ho)
          obtain ⟨ho, hC⟩ := ho
          cases ho
          have hP2 : PR w am (z_write (z_tp S j) (100 + S 8 0)) g b hs := ⟨_, hC, hA2, h62⟩
          generalize z_write D (100 + S 8 0) = E at hC p36 p1
          first | refine V.aload_nR (pc := 61) d_J_throwAtLastFrame_61 rfl ?_ | refine V.aload_n (pc := 61) d_J_throwAtLastFrame_61 rfl ?_
          refine Vi.iconst (pc := 62) d_J_throwAtLastFrame_62 ?_
          first | refine V.aloadR (pc := 63) d_J_throwAtLastFrame_63 rfl ?_ | refine V.aload (pc := 63) d_J_throwAtLastFrame_63 rfl ?_
          refine Vc.get_F (pc := 65) d_J_throwAtLastFrame_65 g_J_205 hC (by first | assumption | omega | (simp [up, up_f] <;> omega)) rfl ?_
          rw [p36]
          first | refine V.aloadR (pc := 68) d_J_throwAtLastFrame_68 rfl ?_ | refine V.aload (pc := 68) d_J_throwAtLastFrame_68 rfl ?_
          refine Vc.get_F (pc := 70) d_J_throwAtLastFrame_70 g_J_205 hC (by first | assumption | omega | (simp [up, up_f] <;> omega)) rfl ?_
          rw [p36]
          refine Vi.iconst (pc := 73) d_J_throwAtLastFrame_73 ?_
          refine V.callV (pc := 74) d_J_throwAtLastFrame_74 Y_B_pushFrame l_J_208 wi_B_pushFrame wv_B_pushFrame (ci := 3) rfl rfl [_, _, _, _] (hC.oB (by first | assumption | omega | (simp [up, up_f] <;> omega))) rfl rfl ⟨by repeat (first | exact trivial | refine ⟨(by first | rfl | exact vrf_cat _), ?_⟩), Nat.le_of_ble_eq_true rfl⟩ ⟨⟨rfl, (by first | rfl | exact vrf_cat _), (by first | rfl | exact vrf_cat _), (by first | rfl | exact vrf_cat _), (by first | rfl | exact vrf_cat _), trivial⟩, Nat.le_of_ble_eq_true rfl⟩ (k_push (q' := 0) hP2 hIw (by omega) (by omega) (by omega)) (fun v hs ho => ?_) (fun E hs ho => by simp at ho)
          obtain ⟨ho, hP3⟩ := ho
          cases ho
          refine V.return_ (pc := 77) d_J_throwAtLastFrame_77 rfl ?_
          refine ⟨_, rfl, hP3, (Tq.tp.tr Tq.write).tr Tq.push, Or.inl ⟨L.2.1, L.2.2.1, ?_, L.2.2.2.1, L.2.2.2.2⟩⟩
          rw [z_push_e.1 _ _ (by decide) (by decide) (by decide) (by decide) (by decide) (by decide), z_write_e.1 _ _ (by decide) (by decide), z_tp_e.1 _ _ (by decide) (by decide)]
        have aft : ¬ (S 35 (j * 6 + S 21 j - 1) = 1 ∧ 0 < S 8 0) → V jcl w m_J_throwAtLastFrame (d + 27) 78 [(0, .ref (am 0 0)), (1, .ref (am 10 j)), (2, .int (ii (S 8 0))), (3, .int (ii (S 21 j - 1))), (4, .ref (am 15 (j * 6 + S 21 j - 1)))] [] hs (fun o hs' => ∃ S', o = .inl none ∧ PR w am S' g b hs' ∧ Th j m S S') := by
          intro y1
          have hIt : Iv (z_tp S j) := by
            by_cases h2 : 1 < S 21 j
            · exact ((hK.u8.pop (n := S 21 j - 1) (by rw [up_f (by decide)]; omega)).u8 (v := -1)).1
            · have hfz := hfr.2
              unfold FJ at hfz
              have := hfz.2.2.1
              omega
          first | refine V.aloadR (pc := 78) d_J_throwAtLastFrame_78 rfl ?_ | refine V.aload (pc := 78) d_J_throwAtLastFrame_78 rfl ?_
          refine Vc.get_F (pc := 80) d_J_throwAtLastFrame_80 g_J_204 hC (by first | assumption | omega | (simp [up, up_f] <;> omega)) rfl ?_
          rw [o35]
          refine Vi.iconst (pc := 83) d_J_throwAtLastFrame_83 ?_
          refine Vi.icmp_ne (pc := 84) (tgt := 104) d_J_throwAtLastFrame_84 (by decide) (by first | assumption | decide | omega | (simp [up] <;> omega)) (by first | assumption | decide | omega | (simp [up] <;> omega)) (fun c_84 => ?_) (fun c_84 => ?_)
          · have L := th_else hK (by omega) hx c_29 y1 c_84
            have e21 : up (up S 8 0 (S 8 0)) 21 j (S 21 j - 1) 21 j = S 21 j - 1 := up_s ..
            refine Vi.iinc (pc := 104) d_J_throwAtLastFrame_104 rfl (by decide) ?_
            refine V.goto (pc := 107) (tgt := 7) d_J_throwAtLastFrame_107 (by decide) ?_
            have hh := ih (up (up S 8 0 (S 8 0)) 21 j (S 21 j - 1)) _ hP0 L.2.1 L.2.2.1 (by omega)
            rw [e21] at hh
            refine (V.lop hh ⟨rfl, rfl, rfl, rfl, trivial⟩).post (fun o hs' ho => ?_)
            obtain ⟨S', ho, hP', hq', hT⟩ := ho
            have hq0 : Tq S (up (up S 8 0 (S 8 0)) 21 j (S 21 j - 1)) := Tq.cg fun f i hf => by rw [up_f (by omega), up_f (by omega)]
            refine ⟨S', ho, hP', hq0.tr hq', ?_⟩
            rcases hT with ⟨t1, t2, t3, t4, t5⟩ | ⟨t1, t2⟩
            · exact Or.inl ⟨t1, t2, by rw [t3, up_f (by decide), up_f (by decide)], L.2.2.2.1.tr t4, by have := L.2.2.2.2; omega⟩
            · exact Or.inr ⟨t1, L.2.2.2.1 _ t2⟩
          · have L := th_after hK (by omega) hx c_84
            have p36 : D 36 (j * 6 + S 21 j - 1) = S 36 (j * 6 + S 21 j - 1) := by rw [o36]; exact h36 (by omega)
            first | refine V.aload_nR (pc := 87) d_J_throwAtLastFrame_87 rfl ?_ | refine V.aload_n (pc := 87) d_J_throwAtLastFrame_87 rfl ?_
            refine Vi.iconst (pc := 88) d_J_throwAtLastFrame_88 ?_
            first | refine V.aloadR (pc := 89) d_J_throwAtLastFrame_89 rfl ?_ | refine V.aload (pc := 89) d_J_throwAtLastFrame_89 rfl ?_
            refine Vc.get_F (pc := 91) d_J_throwAtLastFrame_91 g_J_205 hC (by first | assumption | omega | (simp [up, up_f] <;> omega)) rfl ?_
            rw [p36]
            first | refine V.aloadR (pc := 94) d_J_throwAtLastFrame_94 rfl ?_ | refine V.aload (pc := 94) d_J_throwAtLastFrame_94 rfl ?_
            refine Vc.get_F (pc := 96) d_J_throwAtLastFrame_96 g_J_205 hC (by first | assumption | omega | (simp [up, up_f] <;> omega)) rfl ?_
            rw [p36]
            refine V.iload_n (pc := 99) d_J_throwAtLastFrame_99 rfl ?_
            refine V.callV (pc := 100) d_J_throwAtLastFrame_100 Y_B_pushFrame l_J_208 wi_B_pushFrame wv_B_pushFrame (ci := 3) rfl rfl [_, _, _, _] (hC.oB (by first | assumption | omega | (simp [up, up_f] <;> omega))) rfl rfl ⟨by repeat (first | exact trivial | refine ⟨(by first | rfl | exact vrf_cat _), ?_⟩), Nat.le_of_ble_eq_true rfl⟩ ⟨⟨rfl, (by first | rfl | exact vrf_cat _), (by first | rfl | exact vrf_cat _), (by first | rfl | exact vrf_cat _), (by first | rfl | exact vrf_cat _), trivial⟩, Nat.le_of_ble_eq_true rfl⟩ (k_push (q' := 0) hP1 hIt (by omega) (by omega) (by omega)) (fun v hs ho => ?_) (fun E hs ho => by simp at ho)
            obtain ⟨ho, hP3⟩ := ho
            cases ho
            refine V.return_ (pc := 103) d_J_throwAtLastFrame_103 rfl ?_
            refine ⟨_, rfl, hP3, Tq.tp.tr Tq.push, Or.inl ⟨L.2.1.le (by omega), L.2.2.1, ?_, L.2.2.2.1, L.2.2.2.2⟩⟩
            rw [z_push_e.1 _ _ (by decide) (by decide) (by decide) (by decide) (by decide) (by decide), z_tp_e.1 _ _ (by decide) (by decide)]
        refine Vi.icmp_ne (pc := 46) (tgt := 78) d_J_throwAtLastFrame_46 (by decide) (by omega) (by decide) (fun c_46 => ?_) (fun c_46 => ?_)
        · exact V.lop (aft (by omega)) ⟨rfl, rfl, rfl, rfl, rfl, trivial⟩
        · refine V.iload_n (pc := 49) d_J_throwAtLastFrame_49 rfl ?_
          refine Vi.if_eq (pc := 50) (tgt := 78) d_J_throwAtLastFrame_50 (by decide) (by omega) (fun c_50 => ?_) (fun c_50 => ?_)
          · exact V.lop (aft (by omega)) ⟨rfl, rfl, rfl, rfl, rfl, trivial⟩
          · exact V.lop (try_ c_46 (by omega)) ⟨rfl, rfl, rfl, rfl, rfl, trivial⟩
      · have L := th_body hK (by omega) hx c_29
        have hIt : Iv (z_tp S j) := by
          unfold z_tp
          rw [L.1]
          exact ((hK.u8 (v := S 8 0)).pop0.u8 (v := -1)).1
        first | refine V.aload_nR (pc := 32) d_J_throwAtLastFrame_32 rfl ?_ | refine V.aload_n (pc := 32) d_J_throwAtLastFrame_32 rfl ?_
        first | refine V.aload_nR (pc := 33) d_J_throwAtLastFrame_33 rfl ?_ | refine V.aload_n (pc := 33) d_J_throwAtLastFrame_33 rfl ?_
        refine V.iload_n (pc := 34) d_J_throwAtLastFrame_34 rfl ?_
        refine Vi.iconst (pc := 35) d_J_throwAtLastFrame_35 ?_
        refine V.callV (pc := 36) d_J_throwAtLastFrame_36 Y_J_give l_J_78 wi_J_give wv_J_give (ci := 0) rfl rfl [_, _, _] hC.oJ rfl rfl ⟨by repeat (first | exact trivial | refine ⟨(by first | rfl | exact vrf_cat _), ?_⟩), Nat.le_of_ble_eq_true rfl⟩ ⟨⟨rfl, (by first | rfl | exact vrf_cat _), (by first | rfl | exact vrf_cat _), (by first | rfl | exact vrf_cat _), trivial⟩, Nat.le_of_ble_eq_true rfl⟩ (k_give0 (d := d) hP1 hIt (by omega) (by omega)) (fun v hs ho => ?_) (fun E hs ho => by simp at ho)
        obtain ⟨ho, hP3⟩ := ho
        cases ho
        refine V.return_ (pc := 39) d_J_throwAtLastFrame_39 rfl ?_
        exact ⟨_, rfl, hP3, Tq.tp.tr (Tq.give (by omega)), Or.inr ⟨L.2.1.le (by omega), L.2.2⟩⟩
theorem k_throw {j m x : Int} (hm : 0 ≤ m) (hx : 0 ≤ x ∧ x ≤ 99) (hP : PR w am S g b hs) (hK : Kk j (m + 1) S) (h8 : S 8 0 = x) : V jcl w m_J_throwAtLastFrame (d + 27) 0 [(0, .ref (am 0 0)), (1, .ref (am 10 j)), (2, .int (ii x))] [] hs (fun o hs' => ∃ S', o = .inl none ∧ PR w am S' g b hs' ∧ Th j m S S') := by
  have hP' := hP
  obtain ⟨C, hC, hA, h6⟩ := hP
  have hC1 := hA.j1
  have hj := hK.2.1.1
  have h21 : C 21 j = S 21 j := hA.a1 21 j (by unfold cm; omega)
  first | refine V.aload_nR (pc := 0) d_J_throwAtLastFrame_0 rfl ?_ | refine V.aload_n (pc := 0) d_J_throwAtLastFrame_0 rfl ?_
  refine Vc.get_B (pc := 1) d_J_throwAtLastFrame_1 g_J_106 hC (by first | assumption | omega | (simp [up, up_f] <;> omega)) rfl ?_
  rw [h21]
  refine Vi.iconst (pc := 4) d_J_throwAtLastFrame_4 ?_
  refine Vi.isub (pc := 5) d_J_throwAtLastFrame_5 ?_
  refine V.istore_n (pc := 6) d_J_throwAtLastFrame_6 (by decide) ?_
  exact V.lop (k_th (d := d) hm hx (S 21 j).toNat S hs hP' hK h8 (by omega)) ⟨rfl, rfl, rfl, rfl, trivial⟩
/-- from S to S', where j stands at an action or has no frames left -/
def Lv (j m : Int) (S S' : js) : Prop := Tq S S' ∧ ((Kk j m S' ∧ S' 8 0 = -1 ∧ S' 9 0 = S 9 0 ∧ Sg j S S' ∧ At j S') ∨ (Eb j m S' ∧ RS j S (z_bodyEnds S' j)))
theorem Lv.step {j m : Int} {U : js} (hq : Tq S T) (h9 : T 9 0 = S 9 0) (hs : Sg j S T) (h : Lv j m T U) : Lv j m S U := by
  obtain ⟨h1, h2⟩ := h
  refine ⟨hq.tr h1, ?_⟩
  rcases h2 with ⟨t1, t2, t3, t4, t5⟩ | ⟨t1, t2⟩
  · exact Or.inl ⟨t1, t2, by rw [t3, h9], hs.tr t4, t5⟩
  · exact Or.inr ⟨t1, hs _ t2⟩
theorem k_lv0 {j y : Int} (hP : PR w am S g b hs) (hj : 0 ≤ j ∧ j < S 1 0) (h0 : S 21 j = 0) (hy : jr y) : V jcl w m_J_leaveFramesAtTheirEnd d 2 [(0, .ref (am 0 0)), (1, .ref (am 10 j)), (2, .int (ii y))] [] hs (fun o hs' => o = .inl none ∧ PR w am S g b hs') := by
  have hP' := hP
  obtain ⟨C, hC, hA, h6⟩ := hP
  have hC1 := hA.j1
  have h21 : C 21 j = S 21 j := hA.a1 21 j (by unfold cm; omega)
  refine V.iload_n (pc := 2) d_J_leaveFramesAtTheirEnd_2 rfl ?_
  refine Vi.sipush (pc := 3) d_J_leaveFramesAtTheirEnd_3 (by decide) ?_
  refine Vi.icmp_ge (pc := 6) (tgt := 102) d_J_leaveFramesAtTheirEnd_6 (by decide) (by first | assumption | decide | omega | (simp [up] <;> omega)) (by first | assumption | decide | omega | (simp [up] <;> omega)) (fun c_6 => ?_) (fun c_6 => ?_)
  · refine V.return_ (pc := 102) d_J_leaveFramesAtTheirEnd_102 rfl ?_
    exact ⟨rfl, hP'⟩
  · first | refine V.aload_nR (pc := 9) d_J_leaveFramesAtTheirEnd_9 rfl ?_ | refine V.aload_n (pc := 9) d_J_leaveFramesAtTheirEnd_9 rfl ?_
    refine Vc.get_B (pc := 10) d_J_leaveFramesAtTheirEnd_10 g_J_106 hC (by first | assumption | omega | (simp [up, up_f] <;> omega)) rfl ?_
    refine Vi.if_le (pc := 13) (tgt := 102) d_J_leaveFramesAtTheirEnd_13 (by decide) (by first | assumption | decide | omega | (simp [up] <;> omega)) (fun c_13 => ?_) (fun c_13 => ?_)
    · refine V.return_ (pc := 102) d_J_leaveFramesAtTheirEnd_102 rfl ?_
      exact ⟨rfl, hP'⟩
    · omega
theorem k_lv {j m : Int} (hm : 0 ≤ m) : ∀ (q : Nat) (S : js) (y : Int) (hs : jh), PR w am S g b hs → Kk j (m + Mu j S) S → S 8 0 = -1 → Mu j S ≤ q → 0 ≤ y → y + q ≤ 100 →
    V jcl w m_J_leaveFramesAtTheirEnd (d + 28) 2 [(0, .ref (am 0 0)), (1, .ref (am 10 j)), (2, .int (ii y))] [] hs (fun o hs' => ∃ S', o = .inl none ∧ PR w am S' g b hs' ∧ Lv j m S S') := by
  intro q
  induction q with
  | zero =>
    intro S y hs hP hK h8 hq y1 y2
    have h0 := hK.2.2.2.2.1
    have := Mu.b (j := j) (S := S) ⟨by omega, hK.fr.1.1⟩
    omega
  | succ q ih =>
    intro S y hs hP hK h8 hq y1 y2
    have hP' := hP
    obtain ⟨C, hC, hA, h6⟩ := hP
    have hC1 := hA.j1
    have hI := hK.1
    have hJ := hI.J
    have hj := hK.2.1.1
    have h0 := hK.2.2.2.2.1
    have hfr := hK.fr
    have hmu := Mu.b (j := j) (S := S) ⟨by omega, hfr.1.1⟩
    have h21 : C 21 j = S 21 j := hA.a1 21 j (by unfold cm; omega)
    have hF := hA.a4 j (j * 6 + S 21 j - 1) hj.1 hj.2 (by omega) (by omega)
    have hFJ := hfr.2
    unfold FJ at hFJ
    have h33 := hF.1
    have h34 := hF.2.1
    have h35 := hF.2.2.1
    have h37 := hF.2.2.2.1
    have h36 := hF.2.2.2.2
    have h11 : C 11 (S 33 (j * 6 + S 21 j - 1)) = S 11 (S 33 (j * 6 + S 21 j - 1)) := hA.a1 11 _ (by unfold cm; omega)
    have hsz := hI.pg.1 (S 33 (j * 6 + S 21 j - 1)) (by omega) (by omega)
    have ef : j * 6 + (C 21 j - 1) = j * 6 + S 21 j - 1 := by omega
    have hrf : 0 ≤ j * 6 + S 21 j - 1 ∧ j * 6 + S 21 j - 1 < 6 * C 1 0 := by omega
    have hA0 : Ag (up C 21 j (S 21 j - 1)) (up S 21 j (S 21 j - 1)) := hA.pop (j := j) (n := S 21 j - 1) (by omega)
    have h61 : A6 (up C 21 j (S 21 j - 1)) := h6.cg fun f i hf => up_f (by omega)
    have o35 : up C 21 j (S 21 j - 1) 35 (j * 6 + S 21 j - 1) = S 35 (j * 6 + S 21 j - 1) := by rw [up_f (by decide)]; exact h35
    have o36 : up C 21 j (S 21 j - 1) 36 (j * 6 + S 21 j - 1) = C 36 (j * 6 + S 21 j - 1) := up_f (by decide)
    have o37 : up C 21 j (S 21 j - 1) 37 (j * 6 + S 21 j - 1) = S 37 (j * 6 + S 21 j - 1) := by rw [up_f (by decide)]; exact h37
    have o1 : up C 21 j (S 21 j - 1) 1 0 = S 1 0 := by rw [up_f (by decide)]; exact hC1
    have h35r := hfr.1.2
    have q0 : Tq S (up S 21 j (S 21 j - 1)) := Tq.cg fun f i hf => up_f (by omega)
    refine V.iload_n (pc := 2) d_J_leaveFramesAtTheirEnd_2 rfl ?_
    refine Vi.sipush (pc := 3) d_J_leaveFramesAtTheirEnd_3 (by decide) ?_
    refine Vi.icmp_ge (pc := 6) (tgt := 102) d_J_leaveFramesAtTheirEnd_6 (by decide) (by first | assumption | decide | omega | (simp [up] <;> omega)) (by first | assumption | decide | omega | (simp [up] <;> omega)) (fun c_6 => ?_) (fun c_6 => ?_)
    · omega
    · first | refine V.aload_nR (pc := 9) d_J_leaveFramesAtTheirEnd_9 rfl ?_ | refine V.aload_n (pc := 9) d_J_leaveFramesAtTheirEnd_9 rfl ?_
      refine Vc.get_B (pc := 10) d_J_leaveFramesAtTheirEnd_10 g_J_106 hC (by first | assumption | omega | (simp [up, up_f] <;> omega)) rfl ?_
      rw [h21]
      refine Vi.if_le (pc := 13) (tgt := 102) d_J_leaveFramesAtTheirEnd_13 (by decide) (by first | assumption | decide | omega | (simp [up] <;> omega)) (fun c_13 => ?_) (fun c_13 => ?_)
      · omega
      · first | refine V.aload_nR (pc := 16) d_J_leaveFramesAtTheirEnd_16 rfl ?_ | refine V.aload_n (pc := 16) d_J_leaveFramesAtTheirEnd_16 rfl ?_
        refine V.callV (pc := 17) d_J_leaveFramesAtTheirEnd_17 Y_B_lastFrame l_J_187 wi_B_lastFrame wv_B_lastFrame (ci := 3) rfl rfl [] (hC.oB (by first | assumption | omega | (simp [up, up_f] <;> omega))) rfl rfl ⟨by repeat (first | exact trivial | refine ⟨(by first | rfl | exact vrf_cat _), ?_⟩), Nat.le_of_ble_eq_true rfl⟩ ⟨⟨rfl, trivial⟩, Nat.le_of_ble_eq_true rfl⟩ (c_lastFrame hC (by omega) (by omega)) (fun v hs ho => ?_) (fun E hs ho => by simp at ho)
        obtain ⟨ho, rfl⟩ := ho
        cases ho
        rw [ef]
        first | refine V.astore_nR (pc := 20) d_J_leaveFramesAtTheirEnd_20 (by decide) ?_ | refine V.astore_n (pc := 20) d_J_leaveFramesAtTheirEnd_20 (by decide) ?_
        first | refine V.aload_nR (pc := 21) d_J_leaveFramesAtTheirEnd_21 rfl ?_ | refine V.aload_n (pc := 21) d_J_leaveFramesAtTheirEnd_21 rfl ?_
        refine Vc.get_F (pc := 22) d_J_leaveFramesAtTheirEnd_22 g_J_195 hC (by first | assumption | omega | (simp [up, up_f] <;> omega)) rfl ?_
        rw [h34]
        first | refine V.aload_nR (pc := 25) d_J_leaveFramesAtTheirEnd_25 rfl ?_ | refine V.aload_n (pc := 25) d_J_leaveFramesAtTheirEnd_25 rfl ?_
        refine Vc.get_F (pc := 26) d_J_leaveFramesAtTheirEnd_26 g_J_200 hC (by first | assumption | omega | (simp [up, up_f] <;> omega)) rfl ?_
        rw [h33]
        refine Vc.get_P (pc := 29) d_J_leaveFramesAtTheirEnd_29 g_J_46 hC (by first | assumption | omega | (simp [up, up_f] <;> omega)) rfl ?_
        rw [h11]
        refine Vi.icmp_ge (pc := 32) (tgt := 36) d_J_leaveFramesAtTheirEnd_32 (by decide) (by first | assumption | decide | omega | (simp [up] <;> omega)) (by first | assumption | decide | omega | (simp [up] <;> omega)) (fun c_32 => ?_) (fun c_32 => ?_)
        · have hnA : ¬ At j S := by unfold At; omega
          first | refine V.aload_nR (pc := 36) d_J_leaveFramesAtTheirEnd_36 rfl ?_ | refine V.aload_n (pc := 36) d_J_leaveFramesAtTheirEnd_36 rfl ?_
          refine V.dup (pc := 37) d_J_leaveFramesAtTheirEnd_37 (by first | rfl | exact vrf_cat _) ?_
          refine Vc.get_B (pc := 38) d_J_leaveFramesAtTheirEnd_38 g_J_106 hC (by first | assumption | omega | (simp [up, up_f] <;> omega)) rfl ?_
          rw [h21]
          refine Vi.iconst (pc := 41) d_J_leaveFramesAtTheirEnd_41 ?_
          refine Vi.isub (pc := 42) d_J_leaveFramesAtTheirEnd_42 ?_
          refine Vc.put_B7 (pc := 43) d_J_leaveFramesAtTheirEnd_43 f_J_106 hC (by first | assumption | omega | (simp [up, up_f] <;> omega)) (fun hs hC => ?_)
          have hP0 : PR w am (up S 21 j (S 21 j - 1)) g b hs := ⟨_, hC, hA0, h61⟩
          generalize up C 21 j (S 21 j - 1) = D at hC hA0 h61 o35 o36 o37 o1
          have next : ∀ (T : js) (hs : jh), PR w am T g b hs → Kk j (m + Mu j S) T → T 8 0 = -1 → T 9 0 = S 9 0 → Sg j S T → Mu j T + 1 ≤ Mu j S → Tq S T → V jcl w m_J_leaveFramesAtTheirEnd (d + 28) 96 [(0, .ref (am 0 0)), (1, .ref (am 10 j)), (2, .int (ii y))] [] hs (fun o hs' => ∃ S', o = .inl none ∧ PR w am S' g b hs' ∧ Lv j m S S') := by
            intro T hs hPT hKT hT8 hT9 hST hMT hQT
            refine Vi.iinc (pc := 96) d_J_leaveFramesAtTheirEnd_96 rfl (by decide) ?_
            refine V.goto (pc := 99) (tgt := 2) d_J_leaveFramesAtTheirEnd_99 (by decide) ?_
            refine (V.lop (ih T (y + 1) hs hPT (hKT.le (by omega)) hT8 (by omega) (by omega) (by omega)) ⟨rfl, rfl, rfl, trivial⟩).post (fun o hs' ho => ?_)
            obtain ⟨S', ho, hP2, hL⟩ := ho
            exact ⟨S', ho, hP2, hL.step hQT hT9 hST⟩
          first | refine V.aload_nR (pc := 46) d_J_leaveFramesAtTheirEnd_46 rfl ?_ | refine V.aload_n (pc := 46) d_J_leaveFramesAtTheirEnd_46 rfl ?_
          refine Vc.get_F (pc := 47) d_J_leaveFramesAtTheirEnd_47 g_J_204 hC (by first | assumption | omega | (simp [up, up_f] <;> omega)) rfl ?_
          rw [o35]
          refine Vi.iconst (pc := 50) d_J_leaveFramesAtTheirEnd_50 ?_
          refine Vi.icmp_ne (pc := 51) (tgt := 71) d_J_leaveFramesAtTheirEnd_51 (by decide) (by omega) (by decide) (fun c_51 => ?_) (fun c_51 => ?_)
          · first | refine V.aload_nR (pc := 71) d_J_leaveFramesAtTheirEnd_71 rfl ?_ | refine V.aload_n (pc := 71) d_J_leaveFramesAtTheirEnd_71 rfl ?_
            refine Vc.get_F (pc := 72) d_J_leaveFramesAtTheirEnd_72 g_J_204 hC (by first | assumption | omega | (simp [up, up_f] <;> omega)) rfl ?_
            rw [o35]
            refine Vi.iconst (pc := 75) d_J_leaveFramesAtTheirEnd_75 ?_
            refine Vi.icmp_ne (pc := 76) (tgt := 96) d_J_leaveFramesAtTheirEnd_76 (by decide) (by omega) (by decide) (fun c_76 => ?_) (fun c_76 => ?_)
            · by_cases hb : S 35 (j * 6 + S 21 j - 1) = 0
              · have L := fe_body hK (by omega) h8 hnA hb
                refine Vi.iinc (pc := 96) d_J_leaveFramesAtTheirEnd_96 rfl (by decide) ?_
                refine V.goto (pc := 99) (tgt := 2) d_J_leaveFramesAtTheirEnd_99 (by decide) ?_
                refine (V.lop (k_lv0 (S := up S 21 j (S 21 j - 1)) (y := y + 1) hP0 (by rw [up_f (by decide)]; exact hj) (by rw [up_s]; omega) (by omega)) ⟨rfl, rfl, rfl, trivial⟩).post (fun o hs' ho => ?_)
                exact ⟨_, ho.1, ho.2, q0, Or.inr ⟨L.2.1.le (by omega), L.2.2⟩⟩
              · have L := fe_else hK (by omega) h8 hnA hb c_51 c_76
                exact V.lop (next _ _ hP0 L.2.1 L.2.2.1 (up_f (by decide)) L.2.2.2.1 L.2.2.2.2 q0) ⟨rfl, rfl, rfl, trivial⟩
            · have L := fe_last hK (by omega) h8 hnA c_76
              have hA8 := hA0.so (f := 8) (i := 0) (v := S 37 (j * 6 + S 21 j - 1)) (by omega)
              have hP8 : PR w am (up (up S 21 j (S 21 j - 1)) 8 0 (S 37 (j * 6 + S 21 j - 1))) g b hs := ⟨_, hC, hA8, h61⟩
              have q8 : Tq S (up (up S 21 j (S 21 j - 1)) 8 0 (S 37 (j * 6 + S 21 j - 1))) := Tq.cg fun f i hf => by rw [up_f (by omega), up_f (by omega)]
              have n8 : up (up S 21 j (S 21 j - 1)) 8 0 (S 37 (j * 6 + S 21 j - 1)) 8 0 = S 37 (j * 6 + S 21 j - 1) := up_s ..
              have n9 : up (up S 21 j (S 21 j - 1)) 8 0 (S 37 (j * 6 + S 21 j - 1)) 9 0 = S 9 0 := by rw [up_f (by decide), up_f (by decide)]
              have hk37 := L.2.2.1
              first | refine V.aload_nR (pc := 79) d_J_leaveFramesAtTheirEnd_79 rfl ?_ | refine V.aload_n (pc := 79) d_J_leaveFramesAtTheirEnd_79 rfl ?_
              refine Vc.get_F (pc := 80) d_J_leaveFramesAtTheirEnd_80 g_J_212 hC (by first | assumption | omega | (simp [up, up_f] <;> omega)) rfl ?_
              rw [o37]
              refine Vi.iconst (pc := 83) d_J_leaveFramesAtTheirEnd_83 ?_
              refine Vi.icmp_eq (pc := 84) (tgt := 96) d_J_leaveFramesAtTheirEnd_84 (by decide) (by first | assumption | decide | omega | (simp [up] <;> omega)) (by first | assumption | decide | omega | (simp [up] <;> omega)) (fun c_84 => ?_) (fun c_84 => ?_)
              · exact V.lop (next _ _ hP8 L.2.1 (by omega) n9 L.2.2.2.1 L.2.2.2.2 q8) ⟨rfl, rfl, rfl, trivial⟩
              · first | refine V.aload_nR (pc := 87) d_J_leaveFramesAtTheirEnd_87 rfl ?_ | refine V.aload_n (pc := 87) d_J_leaveFramesAtTheirEnd_87 rfl ?_
                first | refine V.aload_nR (pc := 88) d_J_leaveFramesAtTheirEnd_88 rfl ?_ | refine V.aload_n (pc := 88) d_J_leaveFramesAtTheirEnd_88 rfl ?_
                first | refine V.aload_nR (pc := 89) d_J_leaveFramesAtTheirEnd_89 rfl ?_ | refine V.aload_n (pc := 89) d_J_leaveFramesAtTheirEnd_89 rfl ?_
                refine Vc.get_F (pc := 90) d_J_leaveFramesAtTheirEnd_90 g_J_212 hC (by first | assumption | omega | (simp [up, up_f] <;> omega)) rfl ?_
                rw [o37]
                refine V.callV (pc := 93) d_J_leaveFramesAtTheirEnd_93 Y_J_throwAtLastFrame l_J_178 wi_J_throwAtLastFrame wv_J_throwAtLastFrame (ci := 0) rfl rfl [_, _] hC.oJ rfl rfl ⟨by repeat (first | exact trivial | refine ⟨(by first | rfl | exact vrf_cat _), ?_⟩), Nat.le_of_ble_eq_true rfl⟩ ⟨⟨rfl, (by first | rfl | exact vrf_cat _), (by first | rfl | exact vrf_cat _), trivial⟩, Nat.le_of_ble_eq_true rfl⟩ (k_throw (d := d) (m := m + Mu j S - 1) (by omega) (by omega) hP8 (L.2.1.le (by omega)) n8) (fun v hs ho => ?_) (fun E hs ho => by simp at ho)
                obtain ⟨T, ho, hPT, hTq, hT⟩ := ho
                cases ho
                have hB := hPT
                rcases hT with ⟨t1, t2, t3, t4, t5⟩ | ⟨t1, t2⟩
                · refine Vi.iinc (pc := 96) d_J_leaveFramesAtTheirEnd_96 rfl (by decide) ?_
                  refine V.goto (pc := 99) (tgt := 2) d_J_leaveFramesAtTheirEnd_99 (by decide) ?_
                  refine (V.lop (ih T (y + 1) _ hPT (t1.le (by have := L.2.2.2.2; omega)) t2 (by have := L.2.2.2.2; omega) (by omega) (by omega)) ⟨rfl, rfl, rfl, trivial⟩).post (fun o hs' ho => ?_)
                  obtain ⟨S', ho, hP2, hL⟩ := ho
                  exact ⟨S', ho, hP2, hL.step (q8.tr hTq) (by rw [t3, n9]) (L.2.2.2.1.tr t4)⟩
                · refine Vi.iinc (pc := 96) d_J_leaveFramesAtTheirEnd_96 rfl (by decide) ?_
                  refine V.goto (pc := 99) (tgt := 2) d_J_leaveFramesAtTheirEnd_99 (by decide) ?_
                  have hT1 : T 1 0 = S 1 0 := (q8.tr hTq).1
                  refine (V.lop (k_lv0 (S := T) (y := y + 1) hPT (by omega) t1.2.2.2.2 (by omega)) ⟨rfl, rfl, rfl, trivial⟩).post (fun o hs' ho => ?_)
                  exact ⟨_, ho.1, ho.2, q8.tr hTq, Or.inr ⟨t1.le (by omega), L.2.2.2.1 _ t2⟩⟩
          · have L := fe_after hK (by omega) h8 hnA c_51
            have p36 : D 36 (j * 6 + S 21 j - 1) = S 36 (j * 6 + S 21 j - 1) := by rw [o36]; exact h36 (by omega)
            have hIt : Iv (up S 21 j (S 21 j - 1)) := (hK.pop (n := S 21 j - 1) (by omega)).1
            first | refine V.aload_nR (pc := 54) d_J_leaveFramesAtTheirEnd_54 rfl ?_ | refine V.aload_n (pc := 54) d_J_leaveFramesAtTheirEnd_54 rfl ?_
            refine Vi.iconst (pc := 55) d_J_leaveFramesAtTheirEnd_55 ?_
            first | refine V.aload_nR (pc := 56) d_J_leaveFramesAtTheirEnd_56 rfl ?_ | refine V.aload_n (pc := 56) d_J_leaveFramesAtTheirEnd_56 rfl ?_
            refine Vc.get_F (pc := 57) d_J_leaveFramesAtTheirEnd_57 g_J_205 hC (by first | assumption | omega | (simp [up, up_f] <;> omega)) rfl ?_
            rw [p36]
            first | refine V.aload_nR (pc := 60) d_J_leaveFramesAtTheirEnd_60 rfl ?_ | refine V.aload_n (pc := 60) d_J_leaveFramesAtTheirEnd_60 rfl ?_
            refine Vc.get_F (pc := 61) d_J_leaveFramesAtTheirEnd_61 g_J_205 hC (by first | assumption | omega | (simp [up, up_f] <;> omega)) rfl ?_
            rw [p36]
            refine Vi.iconst (pc := 64) d_J_leaveFramesAtTheirEnd_64 ?_
            refine V.callV (pc := 65) d_J_leaveFramesAtTheirEnd_65 Y_B_pushFrame l_J_208 wi_B_pushFrame wv_B_pushFrame (ci := 3) rfl rfl [_, _, _, _] (hC.oB (by first | assumption | omega | (simp [up, up_f] <;> omega))) rfl rfl ⟨by repeat (first | exact trivial | refine ⟨(by first | rfl | exact vrf_cat _), ?_⟩), Nat.le_of_ble_eq_true rfl⟩ ⟨⟨rfl, (by first | rfl | exact vrf_cat _), (by first | rfl | exact vrf_cat _), (by first | rfl | exact vrf_cat _), (by first | rfl | exact vrf_cat _), trivial⟩, Nat.le_of_ble_eq_true rfl⟩ (k_push (q' := 0) hP0 hIt (by rw [up_f (by decide)]; exact hj) (by rw [up_s]; omega) (by omega)) (fun v hs ho => ?_) (fun E hs ho => by simp at ho)
            obtain ⟨ho, hP3⟩ := ho
            cases ho
            refine V.goto (pc := 68) (tgt := 96) d_J_leaveFramesAtTheirEnd_68 (by decide) ?_
            refine V.lop (next _ _ hP3 L.2.1 L.2.2.1 ?_ L.2.2.2.1 L.2.2.2.2 (q0.tr Tq.push)) ⟨rfl, rfl, rfl, trivial⟩
            rw [z_push_e.1 _ _ (by decide) (by decide) (by decide) (by decide) (by decide) (by decide), up_f (by decide)]
        · refine V.return_ (pc := 35) d_J_leaveFramesAtTheirEnd_35 rfl ?_
          exact ⟨S, rfl, hP', Tq.rf, Or.inl ⟨hK.le (by omega), h8, rfl, Sg.rf, by unfold At; omega⟩⟩
theorem k_leave {j m : Int} (hm : 0 ≤ m) (hP : PR w am S g b hs) (hK : Kk j (m + 12) S) (h8 : S 8 0 = -1) : V jcl w m_J_leaveFramesAtTheirEnd (d + 28) 0 [(0, .ref (am 0 0)), (1, .ref (am 10 j))] [] hs (fun o hs' => ∃ S', o = .inl none ∧ PR w am S' g b hs' ∧ Lv j m S S') := by
  have hmu := Mu.b (j := j) (S := S) ⟨by have := hK.2.2.2.2.1; omega, hK.fr.1.1⟩
  refine Vi.iconst (pc := 0) d_J_leaveFramesAtTheirEnd_0 ?_
  refine V.istore_n (pc := 1) d_J_leaveFramesAtTheirEnd_1 (by decide) ?_
  exact V.lop (k_lv (d := d) hm 12 S 0 hs hP (hK.le (by omega)) h8 (by omega) (by omega) (by omega)) ⟨rfl, rfl, rfl, trivial⟩
theorem k_leave0 {j : Int} (hP : PR w am S g b hs) (hj : 0 ≤ j ∧ j < S 1 0) (h0 : S 21 j = 0) : V jcl w m_J_leaveFramesAtTheirEnd d 0 [(0, .ref (am 0 0)), (1, .ref (am 10 j))] [] hs (fun o hs' => o = .inl none ∧ PR w am S g b hs') := by
  refine Vi.iconst (pc := 0) d_J_leaveFramesAtTheirEnd_0 ?_
  refine V.istore_n (pc := 1) d_J_leaveFramesAtTheirEnd_1 (by decide) ?_
  exact V.lop (k_lv0 (y := 0) hP hj h0 (by omega)) ⟨rfl, rfl, rfl, trivial⟩
end KC
