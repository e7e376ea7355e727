/-! the law's wrappers -/
section KN
variable {w : jw} {d : Nat} {hs : jh} {th mo oa : Nat} {ra : Nat → Nat} {v : Int64} {S T : js} {b : Nat × Nat} {p0 p1 p2 p3 : Int} {X : js → Int × Int → Prop}
/-- how a wrapper ends -/
def Wx (w : jw) (th mo oa : Nat) (ra : Nat → Nat) (S : js) (b : Nat × Nat) (X : js → Int × Int → Prop) (o : jo) (hs' : jh) : Prop := ∃ (T : js) (kv : Int × Int) (v' : Int64), o = .inl (some (.int (ii kv.1))) ∧ JX w th mo oa ra v' S T (b.1 - 1, b.2 - 6) hs' ∧ (kv.1 = 0 → v' = (ii kv.2).toInt64) ∧ X T kv
def Fx (w : jw) (th : Nat) (g : Nat → Option va_E) (b : Nat × Nat) (nm : Int → String) (X : js → Int × Int → Prop) (o : jo) (hs' : jh) : Prop := ∃ (T : js) (kv : Int × Int), Fz w th g b T nm kv o hs' ∧ X T kv
theorem w_act (h : JX w th mo oa ra v S S b hs) (fc : ∀ (am : Nat → Int → Nat) (g : Nat → Option va_E), am 0 0 = th → PR w am S g b hs → V jcl w m_J_act (d + 6) 0 [(0, .ref th), (1, .int (ii p0)), (2, .int (ii p1)), (3, .int (ii p2)), (4, .int (ii p3))] [] hs (Fx w th g b xA X)) (hX : ∀ T kv, X T kv → kv.1 = 0 ∨ kv.1 = 1 ∨ kv.1 = 2) : V jcl w m_L_act (d + 6 + 1) 0 [(0, .ref th), (1, .int (ii p0)), (2, .int (ii p1)), (3, .int (ii p2)), (4, .int (ii p3)), (5, .ref oa)] [] hs (Wx w th mo oa ra S b X) := by
  obtain ⟨fJ, hoJ⟩ := h.oJ
  have hwf := h.wf
  obtain ⟨am, g, e0, hP, back⟩ := h.c
  have hc := fc am g e0 hP
  first | refine V.aloadR (pc := 0) d_L_act_0 rfl ?_ | refine V.aload (pc := 0) d_L_act_0 rfl ?_
  refine Vi.iconst (pc := 2) d_L_act_2 ?_
  first | refine V.aload_nR (pc := 3) d_L_act_3 rfl ?_ | refine V.aload_n (pc := 3) d_L_act_3 rfl ?_
  refine V.iload_n (pc := 4) d_L_act_4 rfl ?_
  refine V.iload_n (pc := 5) d_L_act_5 rfl ?_
  refine V.iload_n (pc := 6) d_L_act_6 rfl ?_
  refine V.iload (pc := 7) d_L_act_7 rfl ?_
  refine V.callV (pc := 9) d_L_act_9 Y_J_act l_L_7 wi_J_act wv_J_act (ci := 0) rfl rfl [_, _, _, _] hoJ rfl rfl ⟨by repeat (first | exact trivial | refine ⟨(by first | rfl | exact vrf_cat _), ?_⟩), Nat.le_of_ble_eq_true rfl⟩ ⟨⟨rfl, (by first | rfl | exact vrf_cat _), (by first | rfl | exact vrf_cat _), (by first | rfl | exact vrf_cat _), (by first | rfl | exact vrf_cat _), trivial⟩, Nat.le_of_ble_eq_true rfl⟩ (hc) (fun v hs ho => ?_) (fun E hs ho => ?_)
  · obtain ⟨T, kv, ⟨am', e1, hP2, hz⟩, hXT⟩ := ho
    rcases hz with ⟨hk, ho⟩ | ⟨hk, ho⟩
    · cases ho
      have hJ := back am' T _ _ e1 hP2
      obtain ⟨ol, o1, o2, o3⟩ := hJ.out
      refine V.i2l (pc := 12) d_L_act_12 ?_
      refine V.last (pc := 13) (t0 := 2) d_L_act_13 o1 hwf.2.2.1 (ii_in (i := 0) (by omega) (by decide) (by decide)) ?_
      have hJ2 := o3 (vp_updL ol (ii 0).toNatClampNeg (ii kv.2).toInt64)
      refine V.goto (pc := 14) (tgt := 25) d_L_act_14 (by decide) ?_
      refine Vi.iconst (pc := 25) d_L_act_25 ?_
      refine Vi.ireturn (pc := 26) d_L_act_26 rfl ?_
      refine ⟨T, kv, _, by rw [hk], hJ2, fun _ => ?_, hXT⟩
      rfl
    · cases ho
  · obtain ⟨T, kv, ⟨am', e1, hP2, hz⟩, hXT⟩ := ho
    rcases hz with ⟨hk, ho⟩ | ⟨hk, ho⟩
    · cases ho
    · have hJ := back am' T _ _ e1 hP2
      have hE : E = xA kv.1 := Sum.inr.inj ho
      rcases hX T kv hXT with hk0 | hk1 | hk2
      · omega
      · rw [hk1] at hE
        have hE : E = "java/lang/IllegalArgumentException" := by rw [hE]; rfl
        subst hE
        refine VX.catch_ [] (0, 14, 17, 13) [(0, 14, 21, 15)] rfl (fun z hz => by cases hz) (by decide) (by decide) xl_13 xc_IllegalArgumentException (fun q => ?_)
        first | refine V.astoreR (pc := 17) d_L_act_17 (by decide) ?_ | refine V.astore (pc := 17) d_L_act_17 (by decide) ?_
        refine Vi.iconst (pc := 19) d_L_act_19 ?_
        refine Vi.ireturn (pc := 20) d_L_act_20 rfl ?_
        exact ⟨T, kv, v, by rw [hk1], hJ, fun z => by omega, hXT⟩
      · rw [hk2] at hE
        have hE : E = "java/lang/IllegalStateException" := by rw [hE]; rfl
        subst hE
        refine VX.catch_ [(0, 14, 17, 13)] (0, 14, 21, 15) [] rfl (fun z hz => by
          simp only [List.mem_cons, List.not_mem_nil, or_false] at hz
          rcases hz with rfl
          · exact ⟨by decide, "java/lang/IllegalArgumentException", xl_13, by simp⟩
          ) (by decide) (by decide) xl_15 xc_IllegalStateException (fun q => ?_)
        first | refine V.astoreR (pc := 21) d_L_act_21 (by decide) ?_ | refine V.astore (pc := 21) d_L_act_21 (by decide) ?_
        refine Vi.iconst (pc := 23) d_L_act_23 ?_
        refine Vi.ireturn (pc := 24) d_L_act_24 rfl ?_
        exact ⟨T, kv, v, by rw [hk2], hJ, fun z => by omega, hXT⟩
theorem w_start (h : JX w th mo oa ra v S S b hs) (fc : ∀ (am : Nat → Int → Nat) (g : Nat → Option va_E), am 0 0 = th → PR w am S g b hs → V jcl w m_J_start (d + 6) 0 [(0, .ref th), (1, .int (ii p0))] [] hs (Fx w th g b xA X)) (hX : ∀ T kv, X T kv → kv.1 = 0 ∨ kv.1 = 1 ∨ kv.1 = 2) : V jcl w m_L_start (d + 6 + 1) 0 [(0, .ref th), (1, .int (ii p0)), (2, .ref oa)] [] hs (Wx w th mo oa ra S b X) := by
  obtain ⟨fJ, hoJ⟩ := h.oJ
  have hwf := h.wf
  obtain ⟨am, g, e0, hP, back⟩ := h.c
  have hc := fc am g e0 hP
  first | refine V.aload_nR (pc := 0) d_L_start_0 rfl ?_ | refine V.aload_n (pc := 0) d_L_start_0 rfl ?_
  refine Vi.iconst (pc := 1) d_L_start_1 ?_
  first | refine V.aload_nR (pc := 2) d_L_start_2 rfl ?_ | refine V.aload_n (pc := 2) d_L_start_2 rfl ?_
  refine V.iload_n (pc := 3) d_L_start_3 rfl ?_
  refine V.callV (pc := 4) d_L_start_4 Y_J_start l_L_17 wi_J_start wv_J_start (ci := 0) rfl rfl [_] hoJ rfl rfl ⟨by repeat (first | exact trivial | refine ⟨(by first | rfl | exact vrf_cat _), ?_⟩), Nat.le_of_ble_eq_true rfl⟩ ⟨⟨rfl, (by first | rfl | exact vrf_cat _), trivial⟩, Nat.le_of_ble_eq_true rfl⟩ (hc) (fun v hs ho => ?_) (fun E hs ho => ?_)
  · obtain ⟨T, kv, ⟨am', e1, hP2, hz⟩, hXT⟩ := ho
    rcases hz with ⟨hk, ho⟩ | ⟨hk, ho⟩
    · cases ho
      have hJ := back am' T _ _ e1 hP2
      obtain ⟨ol, o1, o2, o3⟩ := hJ.out
      refine V.i2l (pc := 7) d_L_start_7 ?_
      refine V.last (pc := 8) (t0 := 2) d_L_start_8 o1 hwf.2.2.1 (ii_in (i := 0) (by omega) (by decide) (by decide)) ?_
      have hJ2 := o3 (vp_updL ol (ii 0).toNatClampNeg (ii kv.2).toInt64)
      refine V.goto (pc := 9) (tgt := 18) d_L_start_9 (by decide) ?_
      refine Vi.iconst (pc := 18) d_L_start_18 ?_
      refine Vi.ireturn (pc := 19) d_L_start_19 rfl ?_
      refine ⟨T, kv, _, by rw [hk], hJ2, fun _ => ?_, hXT⟩
      rfl
    · cases ho
  · obtain ⟨T, kv, ⟨am', e1, hP2, hz⟩, hXT⟩ := ho
    rcases hz with ⟨hk, ho⟩ | ⟨hk, ho⟩
    · cases ho
    · have hJ := back am' T _ _ e1 hP2
      have hE : E = xA kv.1 := Sum.inr.inj ho
      rcases hX T kv hXT with hk0 | hk1 | hk2
      · omega
      · rw [hk1] at hE
        have hE : E = "java/lang/IllegalArgumentException" := by rw [hE]; rfl
        subst hE
        refine VX.catch_ [] (0, 9, 12, 13) [(0, 9, 15, 15)] rfl (fun z hz => by cases hz) (by decide) (by decide) xl_13 xc_IllegalArgumentException (fun q => ?_)
        first | refine V.astore_nR (pc := 12) d_L_start_12 (by decide) ?_ | refine V.astore_n (pc := 12) d_L_start_12 (by decide) ?_
        refine Vi.iconst (pc := 13) d_L_start_13 ?_
        refine Vi.ireturn (pc := 14) d_L_start_14 rfl ?_
        exact ⟨T, kv, v, by rw [hk1], hJ, fun z => by omega, hXT⟩
      · rw [hk2] at hE
        have hE : E = "java/lang/IllegalStateException" := by rw [hE]; rfl
        subst hE
        refine VX.catch_ [(0, 9, 12, 13)] (0, 9, 15, 15) [] rfl (fun z hz => by
          simp only [List.mem_cons, List.not_mem_nil, or_false] at hz
          rcases hz with rfl
          · exact ⟨by decide, "java/lang/IllegalArgumentException", xl_13, by simp⟩
          ) (by decide) (by decide) xl_15 xc_IllegalStateException (fun q => ?_)
        first | refine V.astore_nR (pc := 15) d_L_start_15 (by decide) ?_ | refine V.astore_n (pc := 15) d_L_start_15 (by decide) ?_
        refine Vi.iconst (pc := 16) d_L_start_16 ?_
        refine Vi.ireturn (pc := 17) d_L_start_17 rfl ?_
        exact ⟨T, kv, v, by rw [hk2], hJ, fun z => by omega, hXT⟩
theorem w_cancel (h : JX w th mo oa ra v S S b hs) (fc : ∀ (am : Nat → Int → Nat) (g : Nat → Option va_E), am 0 0 = th → PR w am S g b hs → V jcl w m_J_cancel (d + 27) 0 [(0, .ref th), (1, .int (ii p0))] [] hs (Fx w th g b xA X)) (hX : ∀ T kv, X T kv → kv.1 = 0 ∨ kv.1 = 1) : V jcl w m_L_cancel (d + 27 + 1) 0 [(0, .ref th), (1, .int (ii p0)), (2, .ref oa)] [] hs (Wx w th mo oa ra S b X) := by
  obtain ⟨fJ, hoJ⟩ := h.oJ
  have hwf := h.wf
  obtain ⟨am, g, e0, hP, back⟩ := h.c
  have hc := fc am g e0 hP
  first | refine V.aload_nR (pc := 0) d_L_cancel_0 rfl ?_ | refine V.aload_n (pc := 0) d_L_cancel_0 rfl ?_
  refine Vi.iconst (pc := 1) d_L_cancel_1 ?_
  first | refine V.aload_nR (pc := 2) d_L_cancel_2 rfl ?_ | refine V.aload_n (pc := 2) d_L_cancel_2 rfl ?_
  refine V.iload_n (pc := 3) d_L_cancel_3 rfl ?_
  refine V.callV (pc := 4) d_L_cancel_4 Y_J_cancel l_L_21 wi_J_cancel wv_J_cancel (ci := 0) rfl rfl [_] hoJ rfl rfl ⟨by repeat (first | exact trivial | refine ⟨(by first | rfl | exact vrf_cat _), ?_⟩), Nat.le_of_ble_eq_true rfl⟩ ⟨⟨rfl, (by first | rfl | exact vrf_cat _), trivial⟩, Nat.le_of_ble_eq_true rfl⟩ (hc) (fun v hs ho => ?_) (fun E hs ho => ?_)
  · obtain ⟨T, kv, ⟨am', e1, hP2, hz⟩, hXT⟩ := ho
    rcases hz with ⟨hk, ho⟩ | ⟨hk, ho⟩
    · cases ho
      have hJ := back am' T _ _ e1 hP2
      obtain ⟨ol, o1, o2, o3⟩ := hJ.out
      refine V.i2l (pc := 7) d_L_cancel_7 ?_
      refine V.last (pc := 8) (t0 := 2) d_L_cancel_8 o1 hwf.2.2.1 (ii_in (i := 0) (by omega) (by decide) (by decide)) ?_
      have hJ2 := o3 (vp_updL ol (ii 0).toNatClampNeg (ii kv.2).toInt64)
      refine V.goto (pc := 9) (tgt := 15) d_L_cancel_9 (by decide) ?_
      refine Vi.iconst (pc := 15) d_L_cancel_15 ?_
      refine Vi.ireturn (pc := 16) d_L_cancel_16 rfl ?_
      refine ⟨T, kv, _, by rw [hk], hJ2, fun _ => ?_, hXT⟩
      rfl
    · cases ho
  · obtain ⟨T, kv, ⟨am', e1, hP2, hz⟩, hXT⟩ := ho
    rcases hz with ⟨hk, ho⟩ | ⟨hk, ho⟩
    · cases ho
    · have hJ := back am' T _ _ e1 hP2
      have hE : E = xA kv.1 := Sum.inr.inj ho
      rcases hX T kv hXT with hk0 | hk1
      · omega
      · rw [hk1] at hE
        have hE : E = "java/lang/IllegalArgumentException" := by rw [hE]; rfl
        subst hE
        refine VX.catch_ [] (0, 9, 12, 13) [] rfl (fun z hz => by cases hz) (by decide) (by decide) xl_13 xc_IllegalArgumentException (fun q => ?_)
        first | refine V.astore_nR (pc := 12) d_L_cancel_12 (by decide) ?_ | refine V.astore_n (pc := 12) d_L_cancel_12 (by decide) ?_
        refine Vi.iconst (pc := 13) d_L_cancel_13 ?_
        refine Vi.ireturn (pc := 14) d_L_cancel_14 rfl ?_
        exact ⟨T, kv, v, by rw [hk1], hJ, fun z => by omega, hXT⟩
theorem w_run (h : JX w th mo oa ra v S S b hs) (fc : ∀ (am : Nat → Int → Nat) (g : Nat → Option va_E), am 0 0 = th → PR w am S g b hs → V jcl w m_J_run (d + 32) 0 [(0, .ref th), (1, .int (ii p0))] [] hs (Fx w th g b xA X)) (hX : ∀ T kv, X T kv → kv.1 = 0 ∨ kv.1 = 1) : V jcl w m_L_run (d + 32 + 1) 0 [(0, .ref th), (1, .int (ii p0)), (2, .ref oa)] [] hs (Wx w th mo oa ra S b X) := by
  obtain ⟨fJ, hoJ⟩ := h.oJ
  have hwf := h.wf
  obtain ⟨am, g, e0, hP, back⟩ := h.c
  have hc := fc am g e0 hP
  first | refine V.aload_nR (pc := 0) d_L_run_0 rfl ?_ | refine V.aload_n (pc := 0) d_L_run_0 rfl ?_
  refine Vi.iconst (pc := 1) d_L_run_1 ?_
  first | refine V.aload_nR (pc := 2) d_L_run_2 rfl ?_ | refine V.aload_n (pc := 2) d_L_run_2 rfl ?_
  refine V.iload_n (pc := 3) d_L_run_3 rfl ?_
  refine V.callV (pc := 4) d_L_run_4 Y_J_run l_L_24 wi_J_run wv_J_run (ci := 0) rfl rfl [_] hoJ rfl rfl ⟨by repeat (first | exact trivial | refine ⟨(by first | rfl | exact vrf_cat _), ?_⟩), Nat.le_of_ble_eq_true rfl⟩ ⟨⟨rfl, (by first | rfl | exact vrf_cat _), trivial⟩, Nat.le_of_ble_eq_true rfl⟩ (hc) (fun v hs ho => ?_) (fun E hs ho => ?_)
  · obtain ⟨T, kv, ⟨am', e1, hP2, hz⟩, hXT⟩ := ho
    rcases hz with ⟨hk, ho⟩ | ⟨hk, ho⟩
    · cases ho
      have hJ := back am' T _ _ e1 hP2
      obtain ⟨ol, o1, o2, o3⟩ := hJ.out
      refine V.i2l (pc := 7) d_L_run_7 ?_
      refine V.last (pc := 8) (t0 := 2) d_L_run_8 o1 hwf.2.2.1 (ii_in (i := 0) (by omega) (by decide) (by decide)) ?_
      have hJ2 := o3 (vp_updL ol (ii 0).toNatClampNeg (ii kv.2).toInt64)
      refine V.goto (pc := 9) (tgt := 15) d_L_run_9 (by decide) ?_
      refine Vi.iconst (pc := 15) d_L_run_15 ?_
      refine Vi.ireturn (pc := 16) d_L_run_16 rfl ?_
      refine ⟨T, kv, _, by rw [hk], hJ2, fun _ => ?_, hXT⟩
      rfl
    · cases ho
  · obtain ⟨T, kv, ⟨am', e1, hP2, hz⟩, hXT⟩ := ho
    rcases hz with ⟨hk, ho⟩ | ⟨hk, ho⟩
    · cases ho
    · have hJ := back am' T _ _ e1 hP2
      have hE : E = xA kv.1 := Sum.inr.inj ho
      rcases hX T kv hXT with hk0 | hk1
      · omega
      · rw [hk1] at hE
        have hE : E = "java/lang/IllegalArgumentException" := by rw [hE]; rfl
        subst hE
        refine VX.catch_ [] (0, 9, 12, 13) [] rfl (fun z hz => by cases hz) (by decide) (by decide) xl_13 xc_IllegalArgumentException (fun q => ?_)
        first | refine V.astore_nR (pc := 12) d_L_run_12 (by decide) ?_ | refine V.astore_n (pc := 12) d_L_run_12 (by decide) ?_
        refine Vi.iconst (pc := 13) d_L_run_13 ?_
        refine Vi.ireturn (pc := 14) d_L_run_14 rfl ?_
        exact ⟨T, kv, v, by rw [hk1], hJ, fun z => by omega, hXT⟩
theorem w_result (h : JX w th mo oa ra v S S b hs) (fc : ∀ (am : Nat → Int → Nat) (g : Nat → Option va_E), am 0 0 = th → PR w am S g b hs → V jcl w m_J_result (d + 7) 0 [(0, .ref th), (1, .int (ii p0))] [] hs (Fx w th g b xA X)) (hX : ∀ T kv, X T kv → kv.1 = 0 ∨ kv.1 = 1 ∨ kv.1 = 2 ∨ kv.1 = 3 ∨ kv.1 = 4) : V jcl w m_L_result (d + 7 + 1) 0 [(0, .ref th), (1, .int (ii p0)), (2, .ref oa)] [] hs (Wx w th mo oa ra S b X) := by
  obtain ⟨fJ, hoJ⟩ := h.oJ
  have hwf := h.wf
  obtain ⟨am, g, e0, hP, back⟩ := h.c
  have hc := fc am g e0 hP
  first | refine V.aload_nR (pc := 0) d_L_result_0 rfl ?_ | refine V.aload_n (pc := 0) d_L_result_0 rfl ?_
  refine Vi.iconst (pc := 1) d_L_result_1 ?_
  first | refine V.aload_nR (pc := 2) d_L_result_2 rfl ?_ | refine V.aload_n (pc := 2) d_L_result_2 rfl ?_
  refine V.iload_n (pc := 3) d_L_result_3 rfl ?_
  refine V.callV (pc := 4) d_L_result_4 Y_J_result l_L_27 wi_J_result wv_J_result (ci := 0) rfl rfl [_] hoJ rfl rfl ⟨by repeat (first | exact trivial | refine ⟨(by first | rfl | exact vrf_cat _), ?_⟩), Nat.le_of_ble_eq_true rfl⟩ ⟨⟨rfl, (by first | rfl | exact vrf_cat _), trivial⟩, Nat.le_of_ble_eq_true rfl⟩ (hc) (fun v hs ho => ?_) (fun E hs ho => ?_)
  · obtain ⟨T, kv, ⟨am', e1, hP2, hz⟩, hXT⟩ := ho
    rcases hz with ⟨hk, ho⟩ | ⟨hk, ho⟩
    · cases ho
      have hJ := back am' T _ _ e1 hP2
      obtain ⟨ol, o1, o2, o3⟩ := hJ.out
      refine V.i2l (pc := 7) d_L_result_7 ?_
      refine V.last (pc := 8) (t0 := 2) d_L_result_8 o1 hwf.2.2.1 (ii_in (i := 0) (by omega) (by decide) (by decide)) ?_
      have hJ2 := o3 (vp_updL ol (ii 0).toNatClampNeg (ii kv.2).toInt64)
      refine V.goto (pc := 9) (tgt := 24) d_L_result_9 (by decide) ?_
      refine Vi.iconst (pc := 24) d_L_result_24 ?_
      refine Vi.ireturn (pc := 25) d_L_result_25 rfl ?_
      refine ⟨T, kv, _, by rw [hk], hJ2, fun _ => ?_, hXT⟩
      rfl
    · cases ho
  · obtain ⟨T, kv, ⟨am', e1, hP2, hz⟩, hXT⟩ := ho
    rcases hz with ⟨hk, ho⟩ | ⟨hk, ho⟩
    · cases ho
    · have hJ := back am' T _ _ e1 hP2
      have hE : E = xA kv.1 := Sum.inr.inj ho
      rcases hX T kv hXT with hk0 | hk1 | hk2 | hk3 | hk4
      · omega
      · rw [hk1] at hE
        have hE : E = "java/lang/IllegalArgumentException" := by rw [hE]; rfl
        subst hE
        refine VX.catch_ [] (0, 9, 12, 13) [(0, 9, 15, 15), (0, 9, 18, 30), (0, 9, 21, 32)] rfl (fun z hz => by cases hz) (by decide) (by decide) xl_13 xc_IllegalArgumentException (fun q => ?_)
        first | refine V.astore_nR (pc := 12) d_L_result_12 (by decide) ?_ | refine V.astore_n (pc := 12) d_L_result_12 (by decide) ?_
        refine Vi.iconst (pc := 13) d_L_result_13 ?_
        refine Vi.ireturn (pc := 14) d_L_result_14 rfl ?_
        exact ⟨T, kv, v, by rw [hk1], hJ, fun z => by omega, hXT⟩
      · rw [hk2] at hE
        have hE : E = "java/lang/IllegalStateException" := by rw [hE]; rfl
        subst hE
        refine VX.catch_ [(0, 9, 12, 13)] (0, 9, 15, 15) [(0, 9, 18, 30), (0, 9, 21, 32)] rfl (fun z hz => by
          simp only [List.mem_cons, List.not_mem_nil, or_false] at hz
          rcases hz with rfl
          · exact ⟨by decide, "java/lang/IllegalArgumentException", xl_13, by simp⟩
          ) (by decide) (by decide) xl_15 xc_IllegalStateException (fun q => ?_)
        first | refine V.astore_nR (pc := 15) d_L_result_15 (by decide) ?_ | refine V.astore_n (pc := 15) d_L_result_15 (by decide) ?_
        refine Vi.iconst (pc := 16) d_L_result_16 ?_
        refine Vi.ireturn (pc := 17) d_L_result_17 rfl ?_
        exact ⟨T, kv, v, by rw [hk2], hJ, fun z => by omega, hXT⟩
      · rw [hk3] at hE
        have hE : E = "java/lang/ArithmeticException" := by rw [hE]; rfl
        subst hE
        refine VX.catch_ [(0, 9, 12, 13), (0, 9, 15, 15)] (0, 9, 18, 30) [(0, 9, 21, 32)] rfl (fun z hz => by
          simp only [List.mem_cons, List.not_mem_nil, or_false] at hz
          rcases hz with rfl | rfl
          · exact ⟨by decide, "java/lang/IllegalArgumentException", xl_13, by simp⟩
          · exact ⟨by decide, "java/lang/IllegalStateException", xl_15, by simp⟩
          ) (by decide) (by decide) xl_30 xc_ArithmeticException (fun q => ?_)
        first | refine V.astore_nR (pc := 18) d_L_result_18 (by decide) ?_ | refine V.astore_n (pc := 18) d_L_result_18 (by decide) ?_
        refine Vi.iconst (pc := 19) d_L_result_19 ?_
        refine Vi.ireturn (pc := 20) d_L_result_20 rfl ?_
        exact ⟨T, kv, v, by rw [hk3], hJ, fun z => by omega, hXT⟩
      · rw [hk4] at hE
        have hE : E = "java/util/NoSuchElementException" := by rw [hE]; rfl
        subst hE
        refine VX.catch_ [(0, 9, 12, 13), (0, 9, 15, 15), (0, 9, 18, 30)] (0, 9, 21, 32) [] rfl (fun z hz => by
          simp only [List.mem_cons, List.not_mem_nil, or_false] at hz
          rcases hz with rfl | rfl | rfl
          · exact ⟨by decide, "java/lang/IllegalArgumentException", xl_13, by simp⟩
          · exact ⟨by decide, "java/lang/IllegalStateException", xl_15, by simp⟩
          · exact ⟨by decide, "java/lang/ArithmeticException", xl_30, by simp⟩
          ) (by decide) (by decide) xl_32 xc_NoSuchElementException (fun q => ?_)
        first | refine V.astore_nR (pc := 21) d_L_result_21 (by decide) ?_ | refine V.astore_n (pc := 21) d_L_result_21 (by decide) ?_
        refine Vi.iconst (pc := 22) d_L_result_22 ?_
        refine Vi.ireturn (pc := 23) d_L_result_23 rfl ?_
        exact ⟨T, kv, v, by rw [hk4], hJ, fun z => by omega, hXT⟩
theorem w_state (h : JX w th mo oa ra v S S b hs) (fc : ∀ (am : Nat → Int → Nat) (g : Nat → Option va_E), am 0 0 = th → PR w am S g b hs → V jcl w m_J_state (d + 7) 0 [(0, .ref th), (1, .int (ii p0))] [] hs (Fx w th g b xA X)) (hX : ∀ T kv, X T kv → kv.1 = 0 ∨ kv.1 = 1) : V jcl w m_L_state (d + 7 + 1) 0 [(0, .ref th), (1, .int (ii p0)), (2, .ref oa)] [] hs (Wx w th mo oa ra S b X) := by
  obtain ⟨fJ, hoJ⟩ := h.oJ
  have hwf := h.wf
  obtain ⟨am, g, e0, hP, back⟩ := h.c
  have hc := fc am g e0 hP
  first | refine V.aload_nR (pc := 0) d_L_state_0 rfl ?_ | refine V.aload_n (pc := 0) d_L_state_0 rfl ?_
  refine Vi.iconst (pc := 1) d_L_state_1 ?_
  first | refine V.aload_nR (pc := 2) d_L_state_2 rfl ?_ | refine V.aload_n (pc := 2) d_L_state_2 rfl ?_
  refine V.iload_n (pc := 3) d_L_state_3 rfl ?_
  refine V.callV (pc := 4) d_L_state_4 Y_J_state l_L_34 wi_J_state wv_J_state (ci := 0) rfl rfl [_] hoJ rfl rfl ⟨by repeat (first | exact trivial | refine ⟨(by first | rfl | exact vrf_cat _), ?_⟩), Nat.le_of_ble_eq_true rfl⟩ ⟨⟨rfl, (by first | rfl | exact vrf_cat _), trivial⟩, Nat.le_of_ble_eq_true rfl⟩ (hc) (fun v hs ho => ?_) (fun E hs ho => ?_)
  · obtain ⟨T, kv, ⟨am', e1, hP2, hz⟩, hXT⟩ := ho
    rcases hz with ⟨hk, ho⟩ | ⟨hk, ho⟩
    · cases ho
      have hJ := back am' T _ _ e1 hP2
      obtain ⟨ol, o1, o2, o3⟩ := hJ.out
      refine V.i2l (pc := 7) d_L_state_7 ?_
      refine V.last (pc := 8) (t0 := 2) d_L_state_8 o1 hwf.2.2.1 (ii_in (i := 0) (by omega) (by decide) (by decide)) ?_
      have hJ2 := o3 (vp_updL ol (ii 0).toNatClampNeg (ii kv.2).toInt64)
      refine V.goto (pc := 9) (tgt := 15) d_L_state_9 (by decide) ?_
      refine Vi.iconst (pc := 15) d_L_state_15 ?_
      refine Vi.ireturn (pc := 16) d_L_state_16 rfl ?_
      refine ⟨T, kv, _, by rw [hk], hJ2, fun _ => ?_, hXT⟩
      rfl
    · cases ho
  · obtain ⟨T, kv, ⟨am', e1, hP2, hz⟩, hXT⟩ := ho
    rcases hz with ⟨hk, ho⟩ | ⟨hk, ho⟩
    · cases ho
    · have hJ := back am' T _ _ e1 hP2
      have hE : E = xA kv.1 := Sum.inr.inj ho
      rcases hX T kv hXT with hk0 | hk1
      · omega
      · rw [hk1] at hE
        have hE : E = "java/lang/IllegalArgumentException" := by rw [hE]; rfl
        subst hE
        refine VX.catch_ [] (0, 9, 12, 13) [] rfl (fun z hz => by cases hz) (by decide) (by decide) xl_13 xc_IllegalArgumentException (fun q => ?_)
        first | refine V.astore_nR (pc := 12) d_L_state_12 (by decide) ?_ | refine V.astore_n (pc := 12) d_L_state_12 (by decide) ?_
        refine Vi.iconst (pc := 13) d_L_state_13 ?_
        refine Vi.ireturn (pc := 14) d_L_state_14 rfl ?_
        exact ⟨T, kv, v, by rw [hk1], hJ, fun z => by omega, hXT⟩
theorem w_cause (h : JX w th mo oa ra v S S b hs) (fc : ∀ (am : Nat → Int → Nat) (g : Nat → Option va_E), am 0 0 = th → PR w am S g b hs → V jcl w m_J_cause (d + 7) 0 [(0, .ref th), (1, .int (ii p0))] [] hs (Fx w th g b xC X)) (hX : ∀ T kv, X T kv → kv.1 = 0 ∨ kv.1 = 1 ∨ kv.1 = 2) : V jcl w m_L_cause (d + 7 + 1) 0 [(0, .ref th), (1, .int (ii p0)), (2, .ref oa)] [] hs (Wx w th mo oa ra S b X) := by
  obtain ⟨fJ, hoJ⟩ := h.oJ
  have hwf := h.wf
  obtain ⟨am, g, e0, hP, back⟩ := h.c
  have hc := fc am g e0 hP
  first | refine V.aload_nR (pc := 0) d_L_cause_0 rfl ?_ | refine V.aload_n (pc := 0) d_L_cause_0 rfl ?_
  refine Vi.iconst (pc := 1) d_L_cause_1 ?_
  first | refine V.aload_nR (pc := 2) d_L_cause_2 rfl ?_ | refine V.aload_n (pc := 2) d_L_cause_2 rfl ?_
  refine V.iload_n (pc := 3) d_L_cause_3 rfl ?_
  refine V.callV (pc := 4) d_L_cause_4 Y_J_cause l_L_37 wi_J_cause wv_J_cause (ci := 0) rfl rfl [_] hoJ rfl rfl ⟨by repeat (first | exact trivial | refine ⟨(by first | rfl | exact vrf_cat _), ?_⟩), Nat.le_of_ble_eq_true rfl⟩ ⟨⟨rfl, (by first | rfl | exact vrf_cat _), trivial⟩, Nat.le_of_ble_eq_true rfl⟩ (hc) (fun v hs ho => ?_) (fun E hs ho => ?_)
  · obtain ⟨T, kv, ⟨am', e1, hP2, hz⟩, hXT⟩ := ho
    rcases hz with ⟨hk, ho⟩ | ⟨hk, ho⟩
    · cases ho
      have hJ := back am' T _ _ e1 hP2
      obtain ⟨ol, o1, o2, o3⟩ := hJ.out
      refine V.i2l (pc := 7) d_L_cause_7 ?_
      refine V.last (pc := 8) (t0 := 2) d_L_cause_8 o1 hwf.2.2.1 (ii_in (i := 0) (by omega) (by decide) (by decide)) ?_
      have hJ2 := o3 (vp_updL ol (ii 0).toNatClampNeg (ii kv.2).toInt64)
      refine V.goto (pc := 9) (tgt := 18) d_L_cause_9 (by decide) ?_
      refine Vi.iconst (pc := 18) d_L_cause_18 ?_
      refine Vi.ireturn (pc := 19) d_L_cause_19 rfl ?_
      refine ⟨T, kv, _, by rw [hk], hJ2, fun _ => ?_, hXT⟩
      rfl
    · cases ho
  · obtain ⟨T, kv, ⟨am', e1, hP2, hz⟩, hXT⟩ := ho
    rcases hz with ⟨hk, ho⟩ | ⟨hk, ho⟩
    · cases ho
    · have hJ := back am' T _ _ e1 hP2
      have hE : E = xC kv.1 := Sum.inr.inj ho
      rcases hX T kv hXT with hk0 | hk1 | hk2
      · omega
      · rw [hk1] at hE
        have hE : E = "java/lang/IllegalArgumentException" := by rw [hE]; rfl
        subst hE
        refine VX.catch_ [] (0, 9, 12, 13) [(0, 9, 15, 32)] rfl (fun z hz => by cases hz) (by decide) (by decide) xl_13 xc_IllegalArgumentException (fun q => ?_)
        first | refine V.astore_nR (pc := 12) d_L_cause_12 (by decide) ?_ | refine V.astore_n (pc := 12) d_L_cause_12 (by decide) ?_
        refine Vi.iconst (pc := 13) d_L_cause_13 ?_
        refine Vi.ireturn (pc := 14) d_L_cause_14 rfl ?_
        exact ⟨T, kv, v, by rw [hk1], hJ, fun z => by omega, hXT⟩
      · rw [hk2] at hE
        have hE : E = "java/util/NoSuchElementException" := by rw [hE]; rfl
        subst hE
        refine VX.catch_ [(0, 9, 12, 13)] (0, 9, 15, 32) [] rfl (fun z hz => by
          simp only [List.mem_cons, List.not_mem_nil, or_false] at hz
          rcases hz with rfl
          · exact ⟨by decide, "java/lang/IllegalArgumentException", xl_13, by simp⟩
          ) (by decide) (by decide) xl_32 xc_NoSuchElementException (fun q => ?_)
        first | refine V.astore_nR (pc := 15) d_L_cause_15 (by decide) ?_ | refine V.astore_n (pc := 15) d_L_cause_15 (by decide) ?_
        refine Vi.iconst (pc := 16) d_L_cause_16 ?_
        refine Vi.ireturn (pc := 17) d_L_cause_17 rfl ?_
        exact ⟨T, kv, v, by rw [hk2], hJ, fun z => by omega, hXT⟩
theorem w_about (h : JX w th mo oa ra v S S b hs) (fc : ∀ (am : Nat → Int → Nat) (g : Nat → Option va_E), am 0 0 = th → PR w am S g b hs → V jcl w m_J_about (d + 7) 0 [(0, .ref th), (1, .int (ii p0)), (2, .int (ii p1))] [] hs (Fx w th g b xA X)) (hX : ∀ T kv, X T kv → kv.1 = 0 ∨ kv.1 = 1) : V jcl w m_L_about (d + 7 + 1) 0 [(0, .ref th), (1, .int (ii p0)), (2, .int (ii p1)), (3, .ref oa)] [] hs (Wx w th mo oa ra S b X) := by
  obtain ⟨fJ, hoJ⟩ := h.oJ
  have hwf := h.wf
  obtain ⟨am, g, e0, hP, back⟩ := h.c
  have hc := fc am g e0 hP
  first | refine V.aload_nR (pc := 0) d_L_about_0 rfl ?_ | refine V.aload_n (pc := 0) d_L_about_0 rfl ?_
  refine Vi.iconst (pc := 1) d_L_about_1 ?_
  first | refine V.aload_nR (pc := 2) d_L_about_2 rfl ?_ | refine V.aload_n (pc := 2) d_L_about_2 rfl ?_
  refine V.iload_n (pc := 3) d_L_about_3 rfl ?_
  refine V.iload_n (pc := 4) d_L_about_4 rfl ?_
  refine V.callV (pc := 5) d_L_about_5 Y_J_about l_L_40 wi_J_about wv_J_about (ci := 0) rfl rfl [_, _] hoJ rfl rfl ⟨by repeat (first | exact trivial | refine ⟨(by first | rfl | exact vrf_cat _), ?_⟩), Nat.le_of_ble_eq_true rfl⟩ ⟨⟨rfl, (by first | rfl | exact vrf_cat _), (by first | rfl | exact vrf_cat _), trivial⟩, Nat.le_of_ble_eq_true rfl⟩ (hc) (fun v hs ho => ?_) (fun E hs ho => ?_)
  · obtain ⟨T, kv, ⟨am', e1, hP2, hz⟩, hXT⟩ := ho
    rcases hz with ⟨hk, ho⟩ | ⟨hk, ho⟩
    · cases ho
      have hJ := back am' T _ _ e1 hP2
      obtain ⟨ol, o1, o2, o3⟩ := hJ.out
      refine V.i2l (pc := 8) d_L_about_8 ?_
      refine V.last (pc := 9) (t0 := 2) d_L_about_9 o1 hwf.2.2.1 (ii_in (i := 0) (by omega) (by decide) (by decide)) ?_
      have hJ2 := o3 (vp_updL ol (ii 0).toNatClampNeg (ii kv.2).toInt64)
      refine V.goto (pc := 10) (tgt := 17) d_L_about_10 (by decide) ?_
      refine Vi.iconst (pc := 17) d_L_about_17 ?_
      refine Vi.ireturn (pc := 18) d_L_about_18 rfl ?_
      refine ⟨T, kv, _, by rw [hk], hJ2, fun _ => ?_, hXT⟩
      rfl
    · cases ho
  · obtain ⟨T, kv, ⟨am', e1, hP2, hz⟩, hXT⟩ := ho
    rcases hz with ⟨hk, ho⟩ | ⟨hk, ho⟩
    · cases ho
    · have hJ := back am' T _ _ e1 hP2
      have hE : E = xA kv.1 := Sum.inr.inj ho
      rcases hX T kv hXT with hk0 | hk1
      · omega
      · rw [hk1] at hE
        have hE : E = "java/lang/IllegalArgumentException" := by rw [hE]; rfl
        subst hE
        refine VX.catch_ [] (0, 10, 13, 13) [] rfl (fun z hz => by cases hz) (by decide) (by decide) xl_13 xc_IllegalArgumentException (fun q => ?_)
        first | refine V.astoreR (pc := 13) d_L_about_13 (by decide) ?_ | refine V.astore (pc := 13) d_L_about_13 (by decide) ?_
        refine Vi.iconst (pc := 15) d_L_about_15 ?_
        refine Vi.ireturn (pc := 16) d_L_about_16 rfl ?_
        exact ⟨T, kv, v, by rw [hk1], hJ, fun z => by omega, hXT⟩
theorem w_noted (h : JX w th mo oa ra v S S b hs) (fc : ∀ (am : Nat → Int → Nat) (g : Nat → Option va_E), am 0 0 = th → PR w am S g b hs → V jcl w m_J_noted (d + 7) 0 [(0, .ref th), (1, .int (ii p0))] [] hs (Fx w th g b xN X)) (hX : ∀ T kv, X T kv → kv.1 = 0 ∨ kv.1 = 1) : V jcl w m_L_noted (d + 7 + 1) 0 [(0, .ref th), (1, .int (ii p0)), (2, .ref oa)] [] hs (Wx w th mo oa ra S b X) := by
  obtain ⟨fJ, hoJ⟩ := h.oJ
  have hwf := h.wf
  obtain ⟨am, g, e0, hP, back⟩ := h.c
  have hc := fc am g e0 hP
  first | refine V.aload_nR (pc := 0) d_L_noted_0 rfl ?_ | refine V.aload_n (pc := 0) d_L_noted_0 rfl ?_
  refine Vi.iconst (pc := 1) d_L_noted_1 ?_
  first | refine V.aload_nR (pc := 2) d_L_noted_2 rfl ?_ | refine V.aload_n (pc := 2) d_L_noted_2 rfl ?_
  refine V.iload_n (pc := 3) d_L_noted_3 rfl ?_
  refine V.callV (pc := 4) d_L_noted_4 Y_J_noted l_L_44 wi_J_noted wv_J_noted (ci := 0) rfl rfl [_] hoJ rfl rfl ⟨by repeat (first | exact trivial | refine ⟨(by first | rfl | exact vrf_cat _), ?_⟩), Nat.le_of_ble_eq_true rfl⟩ ⟨⟨rfl, (by first | rfl | exact vrf_cat _), trivial⟩, Nat.le_of_ble_eq_true rfl⟩ (hc) (fun v hs ho => ?_) (fun E hs ho => ?_)
  · obtain ⟨T, kv, ⟨am', e1, hP2, hz⟩, hXT⟩ := ho
    rcases hz with ⟨hk, ho⟩ | ⟨hk, ho⟩
    · cases ho
      have hJ := back am' T _ _ e1 hP2
      obtain ⟨ol, o1, o2, o3⟩ := hJ.out
      refine V.i2l (pc := 7) d_L_noted_7 ?_
      refine V.last (pc := 8) (t0 := 2) d_L_noted_8 o1 hwf.2.2.1 (ii_in (i := 0) (by omega) (by decide) (by decide)) ?_
      have hJ2 := o3 (vp_updL ol (ii 0).toNatClampNeg (ii kv.2).toInt64)
      refine V.goto (pc := 9) (tgt := 15) d_L_noted_9 (by decide) ?_
      refine Vi.iconst (pc := 15) d_L_noted_15 ?_
      refine Vi.ireturn (pc := 16) d_L_noted_16 rfl ?_
      refine ⟨T, kv, _, by rw [hk], hJ2, fun _ => ?_, hXT⟩
      rfl
    · cases ho
  · obtain ⟨T, kv, ⟨am', e1, hP2, hz⟩, hXT⟩ := ho
    rcases hz with ⟨hk, ho⟩ | ⟨hk, ho⟩
    · cases ho
    · have hJ := back am' T _ _ e1 hP2
      have hE : E = xN kv.1 := Sum.inr.inj ho
      rcases hX T kv hXT with hk0 | hk1
      · omega
      · rw [hk1] at hE
        have hE : E = "java/util/NoSuchElementException" := by rw [hE]; rfl
        subst hE
        refine VX.catch_ [] (0, 9, 12, 32) [] rfl (fun z hz => by cases hz) (by decide) (by decide) xl_32 xc_NoSuchElementException (fun q => ?_)
        first | refine V.astore_nR (pc := 12) d_L_noted_12 (by decide) ?_ | refine V.astore_n (pc := 12) d_L_noted_12 (by decide) ?_
        refine Vi.iconst (pc := 13) d_L_noted_13 ?_
        refine Vi.ireturn (pc := 14) d_L_noted_14 rfl ?_
        exact ⟨T, kv, v, by rw [hk1], hJ, fun z => by omega, hXT⟩
end KN
