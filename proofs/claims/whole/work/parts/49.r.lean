/-! the class at the reference's state: resume, run -/
section KG
variable {w : jw} {d : Nat} {hs : jh} {am : Nat → Int → Nat} {C S T : js} {g : Nat → Option va_E} {b : Nat × Nat}
theorem up_same {f : Nat} {i v : Int} (h : S f i = v) : up S f i v = S := by
  funext f' i'
  simp only [up]
  split
  · rename_i z
    rw [z.1, z.2, h]
  · rfl
theorem PR.zend {j m : Int} (h : PR w am S g b hs) (hE : Eb j m S) : PR w am (z_end S j) g b hs := by
  obtain ⟨C, hC, hA, h6⟩ := h
  refine ⟨C, hC, ?_, h6⟩
  unfold z_end
  rw [up_same hE.2.2.2.2]
  exact (hA.ended hE.2.1.1).so (by omega)
/-- what a resuming of j leads to -/
def Rz (w : jw) (th : Nat) (g : Nat → Option va_E) (b : Nat × Nat) (j m : Int) (S : js) (o : jo) (hs' : jh) : Prop := ∃ (am' : Nat → Int → Nat) (T : js), o = .inl none ∧ am' 0 0 = th ∧ PR w am' T g b hs' ∧ RS j S T ∧ Rt m T ∧ Tw 1 S T
theorem Rz.step {th : Nat} {j m : Int} {o : jo} (hS : Sg j S T) (hw : Tw 0 S T) (h : Rz w th g b j m T o hs) : Rz w th g b j m S o hs := by
  obtain ⟨am', U, h1, h2, h3, h4, h5, h6⟩ := h
  exact ⟨am', U, h1, h2, h3, hS _ h4, h5, (hw.tr h6).le (by omega)⟩
theorem k_rend {j m x y : Int} (hm : 0 ≤ m) {S0 : js} (hP : PR w am S g b hs) (hE : Eb j m S) (hS : RS j S0 (z_bodyEnds S j)) (hq : Tq S0 S) : V jcl w m_J_resume (d + 31) 38 [(0, .ref (am 0 0)), (1, .ref (am 10 j))] [] hs (Rz w (am 0 0) g b j m S0) := by
  have hj := hE.2.1.1
  have hP2 := hP.zend hE
  have he := z_end_ok hE.1 hE.2.1 hE.2.2.1 (by have := hE.2.2.2.2; omega)
  have hB : Bd 25 (z_end S j) := (hE.2.2.2.1.cg fun f i hf => by simp [z_end, up]; omega).le (by omega)
  have e1 : z_end S j 1 0 = S 1 0 := by simp [z_end, up]
  obtain ⟨C, hC, hA, h6⟩ := hP
  have hC1 := hA.j1
  have h21 : C 21 j = 0 := by rw [hA.a1 21 j (by unfold cm; omega)]; exact hE.2.2.2.2
  first | refine V.aload_nR (pc := 38) d_J_resume_38 rfl ?_ | refine V.aload_n (pc := 38) d_J_resume_38 rfl ?_
  refine Vc.get_B (pc := 39) d_J_resume_39 g_J_106 hC (by first | assumption | omega | (simp [up, up_f] <;> omega)) rfl ?_
  rw [h21]
  refine Vi.if_ne (pc := 42) (tgt := 51) d_J_resume_42 (by decide) (by decide) (fun c_42 => ?_) (fun c_42 => ?_)
  · exact absurd rfl c_42
  · first | refine V.aload_nR (pc := 45) d_J_resume_45 rfl ?_ | refine V.aload_n (pc := 45) d_J_resume_45 rfl ?_
    first | refine V.aload_nR (pc := 46) d_J_resume_46 rfl ?_ | refine V.aload_n (pc := 46) d_J_resume_46 rfl ?_
    refine V.callV (pc := 47) d_J_resume_47 Y_J_finishUpwards l_J_184 wi_J_finishUpwards wv_J_finishUpwards (ci := 0) rfl rfl [_] hC.oJ rfl rfl ⟨by repeat (first | exact trivial | refine ⟨(by first | rfl | exact vrf_cat _), ?_⟩), Nat.le_of_ble_eq_true rfl⟩ ⟨⟨rfl, (by first | rfl | exact vrf_cat _), trivial⟩, Nat.le_of_ble_eq_true rfl⟩ (k_finishUpwards (d := d + 2) hP2 he.1 he.2 hB (by omega)) (fun v hs ho => ?_) (fun E hs ho => by first | (simp at ho; done) | (obtain ⟨_, _, ho, _⟩ := ho; cases ho))
    obtain ⟨ho, hP3⟩ := ho
    cases ho
    refine V.return_ (pc := 50) d_J_resume_50 rfl ?_
    exact ⟨am, _, rfl, rfl, hP3, hS, hE.ends.1, (hq.tr (hE.tq hm)).w.le (by omega)⟩
theorem k_rs {j m : Int} (hm : 0 ≤ m) : ∀ (q : Nat) (am : Nat → Int → Nat) (S : js) (y : Int) (hs : jh), PR w am S g b hs → Kk j (m + 15 * (61 - y)) S → (-1 ≤ S 8 0 ∧ S 8 0 ≤ 99) → S 9 0 = y → 60 - y ≤ q →
    V jcl w m_J_resume (d + 31) 17 [(0, .ref (am 0 0)), (1, .ref (am 10 j)), (2, .int (ii (S 8 0))), (3, .int (ii y))] [] hs (Rz w (am 0 0) g b j m S) := by
  intro q
  induction q with
  | zero =>
    intro am S y hs hP hK h8 h9 hq
    have h9b := hK.2.2.2.2.2.1
    have hy : y = 60 := by omega
    subst hy
    have hj := hK.2.1.1
    -- stands at an action, all actions done
    have go : ∀ (S2 : js) (hs : jh) (x : Int), PR w am S2 g b hs → Kk j m S2 → S2 8 0 = -1 → S2 9 0 = S 9 0 → At j S2 → Sg j S S2 → Tq S S2 → V jcl w m_J_resume (d + 31) 38 [(0, .ref (am 0 0)), (1, .ref (am 10 j)), (2, .int (ii x)), (3, .int (ii 60))] [] hs (Rz w (am 0 0) g b j m S) := by
      intro S2 hs x hP hK2 h82 h92 hAt hSg hTq
      have hP' := hP
      obtain ⟨C, hC, hA, h6⟩ := hP
      have hC1 := hA.j1
      have h21 : C 21 j = S2 21 j := hA.a1 21 j (by unfold cm; omega)
      have h0 := hK2.2.2.2.2.1
      have h6b := hK2.fr.1.1
      have hj2 := hK2.2.1.1
      have F := st_full hK2 hm h82 hAt (by omega)
      have hrm := Ok.room hK2.1 hK2.2.1
      first | refine V.aload_nR (pc := 38) d_J_resume_38 rfl ?_ | refine V.aload_n (pc := 38) d_J_resume_38 rfl ?_
      refine Vc.get_B (pc := 39) d_J_resume_39 g_J_106 hC (by first | assumption | omega | (simp [up, up_f] <;> omega)) rfl ?_
      rw [h21]
      refine Vi.if_ne (pc := 42) (tgt := 51) d_J_resume_42 (by decide) (by first | assumption | decide | omega | (simp [up] <;> omega)) (fun c_42 => ?_) (fun c_42 => ?_)
      · refine V.iload_n (pc := 51) d_J_resume_51 rfl ?_
        refine Vi.bipush (pc := 52) d_J_resume_52 (by decide) ?_
        refine Vi.icmp_ne (pc := 54) (tgt := 64) d_J_resume_54 (by decide) (by decide) (by decide) (fun c_54 => ?_) (fun c_54 => ?_)
        · exact absurd rfl c_54
        · first | refine V.aload_nR (pc := 57) d_J_resume_57 rfl ?_ | refine V.aload_n (pc := 57) d_J_resume_57 rfl ?_
          first | refine V.aload_nR (pc := 58) d_J_resume_58 rfl ?_ | refine V.aload_n (pc := 58) d_J_resume_58 rfl ?_
          refine Vi.iconst (pc := 59) d_J_resume_59 ?_
          refine V.callV (pc := 60) d_J_resume_60 Y_J_makeReady l_J_154 wi_J_makeReady wv_J_makeReady (ci := 0) rfl rfl [_, _] hC.oJ rfl rfl ⟨by repeat (first | exact trivial | refine ⟨(by first | rfl | exact vrf_cat _), ?_⟩), Nat.le_of_ble_eq_true rfl⟩ ⟨⟨rfl, (by first | rfl | exact vrf_cat _), (by first | rfl | exact vrf_cat _), trivial⟩, Nat.le_of_ble_eq_true rfl⟩ (k_ready hP' hj2 hrm) (fun v hs ho => ?_) (fun E hs ho => by first | (simp at ho; done) | (obtain ⟨_, _, ho, _⟩ := ho; cases ho))
          obtain ⟨ho, hP3⟩ := ho
          cases ho
          refine V.return_ (pc := 63) d_J_resume_63 rfl ?_
          obtain ⟨D, hD, hA3, h63⟩ := hP3
          refine ⟨am, _, rfl, rfl, ⟨D, hD, hA3.so (f := 10) (i := 0) (v := 1) (by omega), h63⟩, hSg _ F.1, F.2, ?_⟩
          exact (((hTq.tr Tq.ready).tr (Tq.cg fun f i hf => up_f (by omega))).w).le (by omega)
      · omega
    have lv : ∀ (S1 : js) (hs : jh) (x : Int), PR w am S1 g b hs → Kk j (m + 12) S1 → S1 8 0 = -1 → S1 9 0 = S 9 0 → Sg j S S1 → Tq S S1 → V jcl w m_J_resume (d + 31) 33 [(0, .ref (am 0 0)), (1, .ref (am 10 j)), (2, .int (ii x)), (3, .int (ii 60))] [] hs (Rz w (am 0 0) g b j m S) := by
      intro S1 hs x hP1 hK1 h81 h91 hSg hTq
      have hP1' := hP1
      obtain ⟨C, hC, hA, h6⟩ := hP1
      first | refine V.aload_nR (pc := 33) d_J_resume_33 rfl ?_ | refine V.aload_n (pc := 33) d_J_resume_33 rfl ?_
      first | refine V.aload_nR (pc := 34) d_J_resume_34 rfl ?_ | refine V.aload_n (pc := 34) d_J_resume_34 rfl ?_
      refine V.callV (pc := 35) d_J_resume_35 Y_J_leaveFramesAtTheirEnd l_J_181 wi_J_leaveFramesAtTheirEnd wv_J_leaveFramesAtTheirEnd (ci := 0) rfl rfl [_] hC.oJ rfl rfl ⟨by repeat (first | exact trivial | refine ⟨(by first | rfl | exact vrf_cat _), ?_⟩), Nat.le_of_ble_eq_true rfl⟩ ⟨⟨rfl, (by first | rfl | exact vrf_cat _), trivial⟩, Nat.le_of_ble_eq_true rfl⟩ (k_leave (d := d + 2) hm hP1' hK1 h81) (fun v hs ho => ?_) (fun E hs ho => by first | (simp at ho; done) | (obtain ⟨_, _, ho, _⟩ := ho; cases ho))
      obtain ⟨S2, ho, hP2, hTq2, hL⟩ := ho
      cases ho
      rcases hL with ⟨t1, t2, t3, t4, t5⟩ | ⟨t1, t2⟩
      · exact go S2 _ x hP2 t1 t2 (by omega) t5 (hSg.tr t4) (hTq.tr hTq2)
      · exact V.lop (k_rend (d := d) (x := x) (y := 60) hm hP2 t1 (hSg _ t2) (hTq.tr hTq2)) ⟨rfl, rfl, trivial⟩
    have hP' := hP
    obtain ⟨C, hC, hA, h6⟩ := hP
    refine V.iload_n (pc := 17) d_J_resume_17 rfl ?_
    refine Vi.bipush (pc := 18) d_J_resume_18 (by decide) ?_
    refine Vi.icmp_gt (pc := 20) (tgt := 87) d_J_resume_20 (by decide) (by decide) (by decide) (fun c_20 => ?_) (fun c_20 => ?_)
    · exact absurd c_20 (by decide)
    · refine V.iload_n (pc := 23) d_J_resume_23 rfl ?_
      refine Vi.if_lt (pc := 24) (tgt := 33) d_J_resume_24 (by decide) (by first | assumption | decide | omega | (simp [up] <;> omega)) (fun c_24 => ?_) (fun c_24 => ?_)
      · exact lv S _ _ hP' (hK.le (by omega)) (by omega) rfl Sg.rf Tq.rf
      · first | refine V.aload_nR (pc := 27) d_J_resume_27 rfl ?_ | refine V.aload_n (pc := 27) d_J_resume_27 rfl ?_
        first | refine V.aload_nR (pc := 28) d_J_resume_28 rfl ?_ | refine V.aload_n (pc := 28) d_J_resume_28 rfl ?_
        refine V.iload_n (pc := 29) d_J_resume_29 rfl ?_
        refine V.callV (pc := 30) d_J_resume_30 Y_J_throwAtLastFrame l_J_178 wi_J_throwAtLastFrame wv_J_throwAtLastFrame (ci := 0) rfl rfl [_, _] hC.oJ rfl rfl ⟨by repeat (first | exact trivial | refine ⟨(by first | rfl | exact vrf_cat _), ?_⟩), Nat.le_of_ble_eq_true rfl⟩ ⟨⟨rfl, (by first | rfl | exact vrf_cat _), (by first | rfl | exact vrf_cat _), trivial⟩, Nat.le_of_ble_eq_true rfl⟩ (k_throw (d := d + 3) (m := m + 12) (by omega) (by omega) hP' (hK.le (by omega)) rfl) (fun v hs ho => ?_) (fun E hs ho => by first | (simp at ho; done) | (obtain ⟨_, _, ho, _⟩ := ho; cases ho))
        obtain ⟨S1, ho, hP1, hTq1, hT⟩ := ho
        cases ho
        rcases hT with ⟨t1, t2, t3, t4, t5⟩ | ⟨t1, t2⟩
        · exact lv S1 _ _ hP1 t1 t2 t3 t4 hTq1
        · have hP1' := hP1
          obtain ⟨D, hC, hA1, h61⟩ := hP1
          first | refine V.aload_nR (pc := 33) d_J_resume_33 rfl ?_ | refine V.aload_n (pc := 33) d_J_resume_33 rfl ?_
          first | refine V.aload_nR (pc := 34) d_J_resume_34 rfl ?_ | refine V.aload_n (pc := 34) d_J_resume_34 rfl ?_
          refine V.callV (pc := 35) d_J_resume_35 Y_J_leaveFramesAtTheirEnd l_J_181 wi_J_leaveFramesAtTheirEnd wv_J_leaveFramesAtTheirEnd (ci := 0) rfl rfl [_] hC.oJ rfl rfl ⟨by repeat (first | exact trivial | refine ⟨(by first | rfl | exact vrf_cat _), ?_⟩), Nat.le_of_ble_eq_true rfl⟩ ⟨⟨rfl, (by first | rfl | exact vrf_cat _), trivial⟩, Nat.le_of_ble_eq_true rfl⟩ (k_leave0 hP1' t1.2.1.1 t1.2.2.2.2) (fun v hs ho => ?_) (fun E hs ho => by first | (simp at ho; done) | (obtain ⟨_, _, ho, _⟩ := ho; cases ho))
          obtain ⟨ho, hP2⟩ := ho
          cases ho
          exact V.lop (k_rend (d := d) (x := 0) (y := 60) hm hP2 (t1.le (by omega)) t2 hTq1) ⟨rfl, rfl, trivial⟩
  | succ q ih =>
    intro am S y hs hP hK h8 h9 hq
    have h9b := hK.2.2.2.2.2.1
    have hj := hK.2.1.1
    have go : ∀ (S2 : js) (hs : jh) (x : Int), PR w am S2 g b hs → Kk j (m + 15 * (60 - y) + 1) S2 → S2 8 0 = -1 → S2 9 0 = S 9 0 → At j S2 → Sg j S S2 → Tq S S2 → V jcl w m_J_resume (d + 31) 38 [(0, .ref (am 0 0)), (1, .ref (am 10 j)), (2, .int (ii x)), (3, .int (ii y))] [] hs (Rz w (am 0 0) g b j m S) := by
      intro S2 hs x hP hK2 h82 h92 hAt hSg hTq
      have hP' := hP
      obtain ⟨C, hC, hA, h6⟩ := hP
      have hC1 := hA.j1
      have h21 : C 21 j = S2 21 j := hA.a1 21 j (by unfold cm; omega)
      have h0 := hK2.2.2.2.2.1
      have h6b := hK2.fr.1.1
      have hj2 := hK2.2.1.1
      have hrm := Ok.room hK2.1 hK2.2.1
      first | refine V.aload_nR (pc := 38) d_J_resume_38 rfl ?_ | refine V.aload_n (pc := 38) d_J_resume_38 rfl ?_
      refine Vc.get_B (pc := 39) d_J_resume_39 g_J_106 hC (by first | assumption | omega | (simp [up, up_f] <;> omega)) rfl ?_
      rw [h21]
      refine Vi.if_ne (pc := 42) (tgt := 51) d_J_resume_42 (by decide) (by first | assumption | decide | omega | (simp [up] <;> omega)) (fun c_42 => ?_) (fun c_42 => ?_)
      · refine V.iload_n (pc := 51) d_J_resume_51 rfl ?_
        refine Vi.bipush (pc := 52) d_J_resume_52 (by decide) ?_
        refine Vi.icmp_ne (pc := 54) (tgt := 64) d_J_resume_54 (by decide) (by omega) (by decide) (fun c_54 => ?_) (fun c_54 => ?_)
        · have A := st_act hK2 (by omega) h82 hAt (by omega)
          first | refine V.aload_nR (pc := 64) d_J_resume_64 rfl ?_ | refine V.aload_n (pc := 64) d_J_resume_64 rfl ?_
          first | refine V.aload_nR (pc := 65) d_J_resume_65 rfl ?_ | refine V.aload_n (pc := 65) d_J_resume_65 rfl ?_
          first | refine V.aload_nR (pc := 66) d_J_resume_66 rfl ?_ | refine V.aload_n (pc := 66) d_J_resume_66 rfl ?_
          refine V.callV (pc := 67) d_J_resume_67 Y_B_lastFrame l_J_187 wi_B_lastFrame wv_B_lastFrame (ci := 3) rfl rfl [] (hC.oB (by first | assumption | omega | (simp [up, up_f] <;> omega))) rfl rfl ⟨by repeat (first | exact trivial | refine ⟨(by first | rfl | exact vrf_cat _), ?_⟩), Nat.le_of_ble_eq_true rfl⟩ ⟨⟨rfl, trivial⟩, Nat.le_of_ble_eq_true rfl⟩ (c_lastFrame hC (by omega) (by omega)) (fun v hs ho => ?_) (fun E hs ho => by first | (simp at ho; done) | (obtain ⟨_, _, ho, _⟩ := ho; cases ho))
          obtain ⟨ho, rfl⟩ := ho
          cases ho
          rw [h21]
          refine V.callV (pc := 70) d_J_resume_70 Y_J_perform l_J_191 wi_J_perform wv_J_perform (ci := 0) rfl rfl [_, _] hC.oJ rfl rfl ⟨by repeat (first | exact trivial | refine ⟨(by first | rfl | exact vrf_cat _), ?_⟩), Nat.le_of_ble_eq_true rfl⟩ ⟨⟨rfl, (by first | rfl | exact vrf_cat _), (by first | rfl | exact vrf_cat _), trivial⟩, Nat.le_of_ble_eq_true rfl⟩ (k_perform (d := d) (m := m + 15 * (60 - y)) (by omega) hP' hK2 h82 hAt (by omega)) (fun v hs ho => ?_) (fun E hs ho => by first | (simp at ho; done) | (obtain ⟨_, _, ho, _⟩ := ho; cases ho))
          obtain ⟨r, am', ho, hE, hP3, hQ, hW⟩ := ho
          cases ho
          have e0 := hE.1
          have ej := hE.2
          refine V.istore_n (pc := 73) d_J_resume_73 (by decide) ?_
          refine V.iload_n (pc := 74) d_J_resume_74 rfl ?_
          refine Vi.bipush (pc := 75) d_J_resume_75 (by decide) ?_
          rcases hQ with ⟨q1, q2, q3⟩ | ⟨q1, q2, q3, q4⟩
          · refine Vi.icmp_ne (pc := 77) (tgt := 81) d_J_resume_77 (by decide) (by omega) (by decide) (fun c_77 => ?_) (fun c_77 => ?_)
            · exact absurd q1 c_77
            · refine V.return_ (pc := 80) d_J_resume_80 rfl ?_
              rw [q1, if_pos rfl] at hW
              exact ⟨am', _, rfl, e0, hP3, hSg _ (A.2 q2), ⟨q3.1, q3.2.1, q3.2.2.le (by omega)⟩, (hTq.w.tr hW).le (by omega)⟩
          · refine Vi.icmp_ne (pc := 77) (tgt := 81) d_J_resume_77 (by decide) (by omega) (by decide) (fun c_77 => ?_) (fun c_77 => ?_)
            · rw [if_neg c_77] at hW
              refine Vi.iinc (pc := 81) d_J_resume_81 rfl (by decide) ?_
              refine V.goto (pc := 84) (tgt := 17) d_J_resume_84 (by decide) ?_
              rw [← e0, ← ej]
              subst q1
              refine (V.lop (ih am' (z_doAction S2 j) (y + 1) _ hP3 (q3.le (by omega)) q2 (by omega) (by omega)) ⟨rfl, rfl, rfl, rfl, trivial⟩).post (fun o hs' ho => ?_)
              exact (ho.step A.1 hW).step hSg (hTq.w)
            · omega
        · have F := st_full hK2 (by omega) h82 hAt (by omega)
          first | refine V.aload_nR (pc := 57) d_J_resume_57 rfl ?_ | refine V.aload_n (pc := 57) d_J_resume_57 rfl ?_
          first | refine V.aload_nR (pc := 58) d_J_resume_58 rfl ?_ | refine V.aload_n (pc := 58) d_J_resume_58 rfl ?_
          refine Vi.iconst (pc := 59) d_J_resume_59 ?_
          refine V.callV (pc := 60) d_J_resume_60 Y_J_makeReady l_J_154 wi_J_makeReady wv_J_makeReady (ci := 0) rfl rfl [_, _] hC.oJ rfl rfl ⟨by repeat (first | exact trivial | refine ⟨(by first | rfl | exact vrf_cat _), ?_⟩), Nat.le_of_ble_eq_true rfl⟩ ⟨⟨rfl, (by first | rfl | exact vrf_cat _), (by first | rfl | exact vrf_cat _), trivial⟩, Nat.le_of_ble_eq_true rfl⟩ (k_ready hP' hj2 hrm) (fun v hs ho => ?_) (fun E hs ho => by first | (simp at ho; done) | (obtain ⟨_, _, ho, _⟩ := ho; cases ho))
          obtain ⟨ho, hP3⟩ := ho
          cases ho
          refine V.return_ (pc := 63) d_J_resume_63 rfl ?_
          obtain ⟨D, hD, hA3, h63⟩ := hP3
          refine ⟨am, _, rfl, rfl, ⟨D, hD, hA3.so (f := 10) (i := 0) (v := 1) (by omega), h63⟩, hSg _ F.1, ⟨F.2.1, F.2.2.1, F.2.2.2.le (by omega)⟩, ?_⟩
          exact (((hTq.tr Tq.ready).tr (Tq.cg fun f i hf => up_f (by omega))).w).le (by omega)
      · omega
    have lv : ∀ (S1 : js) (hs : jh) (x : Int), PR w am S1 g b hs → Kk j (m + 15 * (60 - y) + 1 + 12) S1 → S1 8 0 = -1 → S1 9 0 = S 9 0 → Sg j S S1 → Tq S S1 → V jcl w m_J_resume (d + 31) 33 [(0, .ref (am 0 0)), (1, .ref (am 10 j)), (2, .int (ii x)), (3, .int (ii y))] [] hs (Rz w (am 0 0) g b j m S) := by
      intro S1 hs x hP1 hK1 h81 h91 hSg hTq
      have hP1' := hP1
      obtain ⟨C, hC, hA, h6⟩ := hP1
      first | refine V.aload_nR (pc := 33) d_J_resume_33 rfl ?_ | refine V.aload_n (pc := 33) d_J_resume_33 rfl ?_
      first | refine V.aload_nR (pc := 34) d_J_resume_34 rfl ?_ | refine V.aload_n (pc := 34) d_J_resume_34 rfl ?_
      refine V.callV (pc := 35) d_J_resume_35 Y_J_leaveFramesAtTheirEnd l_J_181 wi_J_leaveFramesAtTheirEnd wv_J_leaveFramesAtTheirEnd (ci := 0) rfl rfl [_] hC.oJ rfl rfl ⟨by repeat (first | exact trivial | refine ⟨(by first | rfl | exact vrf_cat _), ?_⟩), Nat.le_of_ble_eq_true rfl⟩ ⟨⟨rfl, (by first | rfl | exact vrf_cat _), trivial⟩, Nat.le_of_ble_eq_true rfl⟩ (k_leave (d := d + 2) (m := m + 15 * (60 - y) + 1) (by omega) hP1' hK1 h81) (fun v hs ho => ?_) (fun E hs ho => by first | (simp at ho; done) | (obtain ⟨_, _, ho, _⟩ := ho; cases ho))
      obtain ⟨S2, ho, hP2, hTq2, hL⟩ := ho
      cases ho
      rcases hL with ⟨t1, t2, t3, t4, t5⟩ | ⟨t1, t2⟩
      · exact go S2 _ x hP2 t1 t2 (by omega) t5 (hSg.tr t4) (hTq.tr hTq2)
      · exact V.lop (k_rend (d := d) (x := x) (y := y) hm hP2 (t1.le (by omega)) (hSg _ t2) (hTq.tr hTq2)) ⟨rfl, rfl, trivial⟩
    have hP' := hP
    obtain ⟨C, hC, hA, h6⟩ := hP
    refine V.iload_n (pc := 17) d_J_resume_17 rfl ?_
    refine Vi.bipush (pc := 18) d_J_resume_18 (by decide) ?_
    refine Vi.icmp_gt (pc := 20) (tgt := 87) d_J_resume_20 (by decide) (by omega) (by decide) (fun c_20 => ?_) (fun c_20 => ?_)
    · omega
    · refine V.iload_n (pc := 23) d_J_resume_23 rfl ?_
      refine Vi.if_lt (pc := 24) (tgt := 33) d_J_resume_24 (by decide) (by first | assumption | decide | omega | (simp [up] <;> omega)) (fun c_24 => ?_) (fun c_24 => ?_)
      · exact lv S _ _ hP' (hK.le (by omega)) (by omega) rfl Sg.rf Tq.rf
      · first | refine V.aload_nR (pc := 27) d_J_resume_27 rfl ?_ | refine V.aload_n (pc := 27) d_J_resume_27 rfl ?_
        first | refine V.aload_nR (pc := 28) d_J_resume_28 rfl ?_ | refine V.aload_n (pc := 28) d_J_resume_28 rfl ?_
        refine V.iload_n (pc := 29) d_J_resume_29 rfl ?_
        refine V.callV (pc := 30) d_J_resume_30 Y_J_throwAtLastFrame l_J_178 wi_J_throwAtLastFrame wv_J_throwAtLastFrame (ci := 0) rfl rfl [_, _] hC.oJ rfl rfl ⟨by repeat (first | exact trivial | refine ⟨(by first | rfl | exact vrf_cat _), ?_⟩), Nat.le_of_ble_eq_true rfl⟩ ⟨⟨rfl, (by first | rfl | exact vrf_cat _), (by first | rfl | exact vrf_cat _), trivial⟩, Nat.le_of_ble_eq_true rfl⟩ (k_throw (d := d + 3) (m := m + 15 * (60 - y) + 1 + 12) (by omega) (by omega) hP' (hK.le (by omega)) rfl) (fun v hs ho => ?_) (fun E hs ho => by first | (simp at ho; done) | (obtain ⟨_, _, ho, _⟩ := ho; cases ho))
        obtain ⟨S1, ho, hP1, hTq1, hT⟩ := ho
        cases ho
        rcases hT with ⟨t1, t2, t3, t4, t5⟩ | ⟨t1, t2⟩
        · exact lv S1 _ _ hP1 t1 t2 t3 t4 hTq1
        · have hP1' := hP1
          obtain ⟨D, hC, hA1, h61⟩ := hP1
          first | refine V.aload_nR (pc := 33) d_J_resume_33 rfl ?_ | refine V.aload_n (pc := 33) d_J_resume_33 rfl ?_
          first | refine V.aload_nR (pc := 34) d_J_resume_34 rfl ?_ | refine V.aload_n (pc := 34) d_J_resume_34 rfl ?_
          refine V.callV (pc := 35) d_J_resume_35 Y_J_leaveFramesAtTheirEnd l_J_181 wi_J_leaveFramesAtTheirEnd wv_J_leaveFramesAtTheirEnd (ci := 0) rfl rfl [_] hC.oJ rfl rfl ⟨by repeat (first | exact trivial | refine ⟨(by first | rfl | exact vrf_cat _), ?_⟩), Nat.le_of_ble_eq_true rfl⟩ ⟨⟨rfl, (by first | rfl | exact vrf_cat _), trivial⟩, Nat.le_of_ble_eq_true rfl⟩ (k_leave0 hP1' t1.2.1.1 t1.2.2.2.2) (fun v hs ho => ?_) (fun E hs ho => by first | (simp at ho; done) | (obtain ⟨_, _, ho, _⟩ := ho; cases ho))
          obtain ⟨ho, hP2⟩ := ho
          cases ho
          exact V.lop (k_rend (d := d) (x := 0) (y := y) hm hP2 (t1.le (by omega)) t2 hTq1) ⟨rfl, rfl, trivial⟩
/-- resume: S is the reference's state behind the taking of j -/
theorem k_resume {j m : Int} (hm : 0 ≤ m) (hC : RepC w am C g b hs) (hA : Ag (up C 4 0 (C 4 0 + 1)) S) (h6 : A6 C) (hI : Iv S) (hr : Rn j S) (hE : En (-1) S) (hf : 0 < S 21 j) (hB : Bd (m + 1000) S) : V jcl w m_J_resume (d + 31) 0 [(0, .ref (am 0 0)), (1, .ref (am 10 j))] [] hs (Rz w (am 0 0) g b j m (z_res0 S j)) := by
  have hC1 : C 1 0 = S 1 0 := by have := hA.j1; rw [up_f (by decide)] at this; exact this
  have hj := hr.1
  have h23 : up C 4 0 (C 4 0 + 1) 23 j = S 23 j := hA.a1 23 j (by unfold cm; omega)
  have o1 : up C 4 0 (C 4 0 + 1) 1 0 = C 1 0 := up_f (by decide)
  have hw := hI.rw.2 j hj.1 hj.2
  have hA2 : Ag (up C 4 0 (C 4 0 + 1)) (z_res0 S j) := ((hA.so (by omega)).so (by omega)).so (by omega)
  have h62 : A6 (up C 4 0 (C 4 0 + 1)) := h6.cg fun f i hf => up_f (by omega)
  have z8 : z_res0 S j 8 0 = S 23 j := by simp [z_res0, up]
  have hK : Kk j (m + 15 * (61 - 0)) (z_res0 S j) := by
    refine ⟨((hI.fr1 (by omega)).fr1 (by omega)).fr1 (by omega), hr.cg fun f i hf => ?_, (show En j S from fun i z1 z2 => ⟨(hE i z1 z2).1, fun _ y => (hE i z1 z2).2 (by omega) y⟩).cg fun f i hf => ?_, (hB.le (by omega)).cg fun f i hf => ?_, ?_, ?_, ?_⟩
    · simp [z_res0, up]; omega
    · simp [z_res0, up]; omega
    · simp [z_res0, up]; omega
    · simp [z_res0, up]; omega
    · simp [z_res0, up]
    · simp [z_res0, up]
  first | refine V.aload_nR (pc := 0) d_J_resume_0 rfl ?_ | refine V.aload_n (pc := 0) d_J_resume_0 rfl ?_
  refine V.dup (pc := 1) d_J_resume_1 (by first | rfl | exact vrf_cat _) ?_
  refine Vc.get_J (pc := 2) d_J_resume_2 g_J_141 hC rfl ?_
  refine Vi.iconst (pc := 5) d_J_resume_5 ?_
  refine Vi.iadd (pc := 6) d_J_resume_6 ?_
  refine Vc.put_J8 (pc := 7) d_J_resume_7 f_J_141 hC (fun hs hC => ?_)
  generalize up C 4 0 (C 4 0 + 1) = D at hC hA hA2 h62 h23 o1
  first | refine V.aload_nR (pc := 10) d_J_resume_10 rfl ?_ | refine V.aload_n (pc := 10) d_J_resume_10 rfl ?_
  refine Vc.get_B (pc := 11) d_J_resume_11 g_J_173 hC (by first | assumption | omega | (simp [up, up_f] <;> omega)) rfl ?_
  rw [h23, ← z8]
  refine V.istore_n (pc := 14) d_J_resume_14 (by decide) ?_
  refine Vi.iconst (pc := 15) d_J_resume_15 ?_
  refine V.istore_n (pc := 16) d_J_resume_16 (by decide) ?_
  exact V.lop (k_rs (d := d) hm 60 am (z_res0 S j) 0 _ ⟨D, hC, hA2, h62⟩ hK (by omega) (by simp [z_res0, up]) (by omega)) ⟨rfl, rfl, rfl, rfl, trivial⟩
end KG
