/-! the reference's questions; act, begin, start -/
section R3
variable {w : jw} {d : Nat} {hs : jh} {mo : Nat} {ra : Nat → Nat} {S : js} {g : Nat → Option va_E} {b : Nat × Nat}
def z_result (S : js) (j : Int) : Int × Int := if j < 0 ∨ S 1 0 ≤ j then (1, 0) else if S 25 j = 0 then (2, 0) else if 0 < S 19 j then (3, 0) else if S 19 j = 0 then (4, 0) else (0, S 18 j)
theorem r_result {j : Int} (hR : RepR w mo ra S g b hs) (hj : jr j) (hJ : 0 ≤ S 1 0 ∧ S 1 0 ≤ 24) (hp : ∀ i, 0 ≤ i → i < S 1 0 → jr (S 19 i) ∧ jr (S 25 i)) : V jcl w m_R_result (d + 1) 0 [(0, .ref mo), (1, .int (ii j))] [] hs (fun o hs' => o = .inl (some (.int (ii (z_result S j).2))) ∧ RepR w mo ra (up S 0 0 (z_result S j).1) g b hs') := by
  have hp' : 0 ≤ j ∧ j < S 1 0 → jr (S 19 j) ∧ jr (S 25 j) := fun z => hp j z.1 z.2
  first | refine V.aload_nR (pc := 0) d_R_result_0 rfl ?_ | refine V.aload_n (pc := 0) d_R_result_0 rfl ?_
  refine V.iload_n (pc := 1) d_R_result_1 rfl ?_
  refine V.callV (pc := 2) d_R_result_2 Y_R_no l_R_227 wi_R_no wv_R_no (ci := 6) rfl rfl [_] hR.o rfl rfl ⟨by repeat (first | exact trivial | refine ⟨(by first | rfl | exact vrf_cat _), ?_⟩), Nat.le_of_ble_eq_true rfl⟩ ⟨⟨rfl, (by first | rfl | exact vrf_cat _), trivial⟩, Nat.le_of_ble_eq_true rfl⟩ (r_no hR (by omega) (by omega)) (fun v hs ho => ?_) (fun E hs ho => by simp at ho)
  obtain ⟨r_2, ho, hr_2, rfl⟩ := ho
  cases ho
  refine Vi.if_eq (pc := 5) (tgt := 14) d_R_result_5 (by decide) (by first | omega | (simp [up] <;> omega)) (fun c_5 => ?_) (fun c_5 => ?_)
  · first | refine V.aload_nR (pc := 14) d_R_result_14 rfl ?_ | refine V.aload_n (pc := 14) d_R_result_14 rfl ?_
    refine Vr.get (pc := 15) d_R_result_15 g_R_88 hR rfl ?_
    refine V.iload_n (pc := 18) d_R_result_18 rfl ?_
    refine Vr.zald (pc := 19) (n := 24) d_R_result_19 hR (by decide) rfl (by first | omega | (simp [up] <;> omega)) ?_
    refine Vi.if_ne (pc := 20) (tgt := 29) d_R_result_20 (by decide) (by first | omega | (simp [up] <;> omega)) (fun c_20 => ?_) (fun c_20 => ?_)
    · first | refine V.aload_nR (pc := 29) d_R_result_29 rfl ?_ | refine V.aload_n (pc := 29) d_R_result_29 rfl ?_
      refine Vr.get (pc := 30) d_R_result_30 g_R_69 hR rfl ?_
      refine V.iload_n (pc := 33) d_R_result_33 rfl ?_
      refine Vr.ald (pc := 34) (n := 24) d_R_result_34 hR (by decide) rfl (by first | omega | (simp [up] <;> omega)) ?_
      refine Vi.if_le (pc := 35) (tgt := 44) d_R_result_35 (by decide) (by first | omega | (simp [up] <;> omega)) (fun c_35 => ?_) (fun c_35 => ?_)
      · first | refine V.aload_nR (pc := 44) d_R_result_44 rfl ?_ | refine V.aload_n (pc := 44) d_R_result_44 rfl ?_
        refine Vr.get (pc := 45) d_R_result_45 g_R_69 hR rfl ?_
        refine V.iload_n (pc := 48) d_R_result_48 rfl ?_
        refine Vr.ald (pc := 49) (n := 24) d_R_result_49 hR (by decide) rfl (by first | omega | (simp [up] <;> omega)) ?_
        refine Vi.if_ne (pc := 50) (tgt := 61) d_R_result_50 (by decide) (by first | omega | (simp [up] <;> omega)) (fun c_50 => ?_) (fun c_50 => ?_)
        · first | refine V.aload_nR (pc := 61) d_R_result_61 rfl ?_ | refine V.aload_n (pc := 61) d_R_result_61 rfl ?_
          first | refine V.aload_nR (pc := 62) d_R_result_62 rfl ?_ | refine V.aload_n (pc := 62) d_R_result_62 rfl ?_
          refine Vr.get (pc := 63) d_R_result_63 g_R_66 hR rfl ?_
          refine V.iload_n (pc := 66) d_R_result_66 rfl ?_
          refine Vr.ald (pc := 67) (n := 24) d_R_result_67 hR (by decide) rfl (by first | omega | (simp [up] <;> omega)) ?_
          refine V.callV (pc := 68) d_R_result_68 Y_R_fine l_R_147 wi_R_fine wv_R_fine (ci := 6) rfl rfl [_] hR.o rfl rfl ⟨by repeat (first | exact trivial | refine ⟨(by first | rfl | exact vrf_cat _), ?_⟩), Nat.le_of_ble_eq_true rfl⟩ ⟨⟨rfl, (by first | rfl | exact vrf_cat _), trivial⟩, Nat.le_of_ble_eq_true rfl⟩ (r_fine hR) (fun v hs ho => ?_) (fun E hs ho => by simp at ho)
          obtain ⟨ho, hR⟩ := ho
          cases ho
          refine Vi.ireturn (pc := 71) d_R_result_71 rfl ?_
          unfold z_result
          (repeat' split) <;> first | exact ⟨rfl, hR⟩ | (exfalso; omega)
        · first | refine V.aload_nR (pc := 53) d_R_result_53 rfl ?_ | refine V.aload_n (pc := 53) d_R_result_53 rfl ?_
          refine Vi.iconst (pc := 54) d_R_result_54 ?_
          refine V.callV (pc := 55) d_R_result_55 Y_R_refuse l_R_143 wi_R_refuse wv_R_refuse (ci := 6) rfl rfl [_] hR.o rfl rfl ⟨by repeat (first | exact trivial | refine ⟨(by first | rfl | exact vrf_cat _), ?_⟩), Nat.le_of_ble_eq_true rfl⟩ ⟨⟨rfl, (by first | rfl | exact vrf_cat _), trivial⟩, Nat.le_of_ble_eq_true rfl⟩ (r_refuse hR) (fun v hs ho => ?_) (fun E hs ho => by simp at ho)
          obtain ⟨ho, hR⟩ := ho
          cases ho
          refine V.goto (pc := 58) (tgt := 71) d_R_result_58 (by decide) ?_
          refine Vi.ireturn (pc := 71) d_R_result_71 rfl ?_
          unfold z_result
          (repeat' split) <;> first | exact ⟨rfl, hR⟩ | (exfalso; omega)
      · first | refine V.aload_nR (pc := 38) d_R_result_38 rfl ?_ | refine V.aload_n (pc := 38) d_R_result_38 rfl ?_
        refine Vi.iconst (pc := 39) d_R_result_39 ?_
        refine V.callV (pc := 40) d_R_result_40 Y_R_refuse l_R_143 wi_R_refuse wv_R_refuse (ci := 6) rfl rfl [_] hR.o rfl rfl ⟨by repeat (first | exact trivial | refine ⟨(by first | rfl | exact vrf_cat _), ?_⟩), Nat.le_of_ble_eq_true rfl⟩ ⟨⟨rfl, (by first | rfl | exact vrf_cat _), trivial⟩, Nat.le_of_ble_eq_true rfl⟩ (r_refuse hR) (fun v hs ho => ?_) (fun E hs ho => by simp at ho)
        obtain ⟨ho, hR⟩ := ho
        cases ho
        refine Vi.ireturn (pc := 43) d_R_result_43 rfl ?_
        unfold z_result
        (repeat' split) <;> first | exact ⟨rfl, hR⟩ | (exfalso; omega)
    · first | refine V.aload_nR (pc := 23) d_R_result_23 rfl ?_ | refine V.aload_n (pc := 23) d_R_result_23 rfl ?_
      refine Vi.iconst (pc := 24) d_R_result_24 ?_
      refine V.callV (pc := 25) d_R_result_25 Y_R_refuse l_R_143 wi_R_refuse wv_R_refuse (ci := 6) rfl rfl [_] hR.o rfl rfl ⟨by repeat (first | exact trivial | refine ⟨(by first | rfl | exact vrf_cat _), ?_⟩), Nat.le_of_ble_eq_true rfl⟩ ⟨⟨rfl, (by first | rfl | exact vrf_cat _), trivial⟩, Nat.le_of_ble_eq_true rfl⟩ (r_refuse hR) (fun v hs ho => ?_) (fun E hs ho => by simp at ho)
      obtain ⟨ho, hR⟩ := ho
      cases ho
      refine Vi.ireturn (pc := 28) d_R_result_28 rfl ?_
      unfold z_result
      (repeat' split) <;> first | exact ⟨rfl, hR⟩ | (exfalso; omega)
  · first | refine V.aload_nR (pc := 8) d_R_result_8 rfl ?_ | refine V.aload_n (pc := 8) d_R_result_8 rfl ?_
    refine Vi.iconst (pc := 9) d_R_result_9 ?_
    refine V.callV (pc := 10) d_R_result_10 Y_R_refuse l_R_143 wi_R_refuse wv_R_refuse (ci := 6) rfl rfl [_] hR.o rfl rfl ⟨by repeat (first | exact trivial | refine ⟨(by first | rfl | exact vrf_cat _), ?_⟩), Nat.le_of_ble_eq_true rfl⟩ ⟨⟨rfl, (by first | rfl | exact vrf_cat _), trivial⟩, Nat.le_of_ble_eq_true rfl⟩ (r_refuse hR) (fun v hs ho => ?_) (fun E hs ho => by simp at ho)
    obtain ⟨ho, hR⟩ := ho
    cases ho
    refine Vi.ireturn (pc := 13) d_R_result_13 rfl ?_
    unfold z_result
    (repeat' split) <;> first | exact ⟨rfl, hR⟩ | (exfalso; omega)
def z_state (S : js) (j : Int) : Int × Int := if j < 0 ∨ S 1 0 ≤ j then (1, 0) else if S 25 j ≠ 0 then (0, 8 + (if S 19 j < 0 then 0 else if S 19 j = 0 then 1 else 2)) else (0, (if S 19 j < 0 then 4 else 5) + (if S 24 j ≠ 0 then 8 else 0))
theorem r_state {j : Int} (hR : RepR w mo ra S g b hs) (hj : jr j) (hJ : 0 ≤ S 1 0 ∧ S 1 0 ≤ 24) (hp : ∀ i, 0 ≤ i → i < S 1 0 → jr (S 19 i) ∧ jr (S 25 i) ∧ jr (S 24 i)) : V jcl w m_R_state (d + 1) 0 [(0, .ref mo), (1, .int (ii j))] [] hs (fun o hs' => o = .inl (some (.int (ii (z_state S j).2))) ∧ RepR w mo ra (up S 0 0 (z_state S j).1) g b hs') := by
  have hp' : 0 ≤ j ∧ j < S 1 0 → jr (S 19 j) ∧ jr (S 25 j) ∧ jr (S 24 j) := fun z => hp j z.1 z.2
  first | refine V.aload_nR (pc := 0) d_R_state_0 rfl ?_ | refine V.aload_n (pc := 0) d_R_state_0 rfl ?_
  refine V.iload_n (pc := 1) d_R_state_1 rfl ?_
  refine V.callV (pc := 2) d_R_state_2 Y_R_no l_R_227 wi_R_no wv_R_no (ci := 6) rfl rfl [_] hR.o rfl rfl ⟨by repeat (first | exact trivial | refine ⟨(by first | rfl | exact vrf_cat _), ?_⟩), Nat.le_of_ble_eq_true rfl⟩ ⟨⟨rfl, (by first | rfl | exact vrf_cat _), trivial⟩, Nat.le_of_ble_eq_true rfl⟩ (r_no hR (by omega) (by omega)) (fun v hs ho => ?_) (fun E hs ho => by simp at ho)
  obtain ⟨r_2, ho, hr_2, rfl⟩ := ho
  cases ho
  refine Vi.if_eq (pc := 5) (tgt := 14) d_R_state_5 (by decide) (by first | omega | (simp [up] <;> omega)) (fun c_5 => ?_) (fun c_5 => ?_)
  · first | refine V.aload_nR (pc := 14) d_R_state_14 rfl ?_ | refine V.aload_n (pc := 14) d_R_state_14 rfl ?_
    refine Vr.get (pc := 15) d_R_state_15 g_R_88 hR rfl ?_
    refine V.iload_n (pc := 18) d_R_state_18 rfl ?_
    refine Vr.zald (pc := 19) (n := 24) d_R_state_19 hR (by decide) rfl (by first | omega | (simp [up] <;> omega)) ?_
    refine Vi.if_eq (pc := 20) (tgt := 58) d_R_state_20 (by decide) (by first | omega | (simp [up] <;> omega)) (fun c_20 => ?_) (fun c_20 => ?_)
    · first | refine V.aload_nR (pc := 58) d_R_state_58 rfl ?_ | refine V.aload_n (pc := 58) d_R_state_58 rfl ?_
      first | refine V.aload_nR (pc := 59) d_R_state_59 rfl ?_ | refine V.aload_n (pc := 59) d_R_state_59 rfl ?_
      refine Vr.get (pc := 60) d_R_state_60 g_R_69 hR rfl ?_
      refine V.iload_n (pc := 63) d_R_state_63 rfl ?_
      refine Vr.ald (pc := 64) (n := 24) d_R_state_64 hR (by decide) rfl (by first | omega | (simp [up] <;> omega)) ?_
      refine Vi.if_ge (pc := 65) (tgt := 72) d_R_state_65 (by decide) (by first | omega | (simp [up] <;> omega)) (fun c_65 => ?_) (fun c_65 => ?_)
      · refine Vi.iconst (pc := 72) d_R_state_72 ?_
        first | refine V.aload_nR (pc := 73) d_R_state_73 rfl ?_ | refine V.aload_n (pc := 73) d_R_state_73 rfl ?_
        refine Vr.get (pc := 74) d_R_state_74 g_R_84 hR rfl ?_
        refine V.iload_n (pc := 77) d_R_state_77 rfl ?_
        refine Vr.zald (pc := 78) (n := 24) d_R_state_78 hR (by decide) rfl (by first | omega | (simp [up] <;> omega)) ?_
        refine Vi.if_eq (pc := 79) (tgt := 87) d_R_state_79 (by decide) (by first | omega | (simp [up] <;> omega)) (fun c_79 => ?_) (fun c_79 => ?_)
        · refine Vi.iconst (pc := 87) d_R_state_87 ?_
          refine Vi.iadd (pc := 88) d_R_state_88 ?_
          refine V.callV (pc := 89) d_R_state_89 Y_R_fine l_R_147 wi_R_fine wv_R_fine (ci := 6) rfl rfl [_] hR.o rfl rfl ⟨by repeat (first | exact trivial | refine ⟨(by first | rfl | exact vrf_cat _), ?_⟩), Nat.le_of_ble_eq_true rfl⟩ ⟨⟨rfl, (by first | rfl | exact vrf_cat _), trivial⟩, Nat.le_of_ble_eq_true rfl⟩ (r_fine hR) (fun v hs ho => ?_) (fun E hs ho => by simp at ho)
          obtain ⟨ho, hR⟩ := ho
          cases ho
          refine Vi.ireturn (pc := 92) d_R_state_92 rfl ?_
          unfold z_state
          (repeat' split) <;> first | exact ⟨rfl, hR⟩ | (exfalso; omega)
        · refine Vi.bipush (pc := 82) d_R_state_82 (by decide) ?_
          refine V.goto (pc := 84) (tgt := 88) d_R_state_84 (by decide) ?_
          refine Vi.iadd (pc := 88) d_R_state_88 ?_
          refine V.callV (pc := 89) d_R_state_89 Y_R_fine l_R_147 wi_R_fine wv_R_fine (ci := 6) rfl rfl [_] hR.o rfl rfl ⟨by repeat (first | exact trivial | refine ⟨(by first | rfl | exact vrf_cat _), ?_⟩), Nat.le_of_ble_eq_true rfl⟩ ⟨⟨rfl, (by first | rfl | exact vrf_cat _), trivial⟩, Nat.le_of_ble_eq_true rfl⟩ (r_fine hR) (fun v hs ho => ?_) (fun E hs ho => by simp at ho)
          obtain ⟨ho, hR⟩ := ho
          cases ho
          refine Vi.ireturn (pc := 92) d_R_state_92 rfl ?_
          unfold z_state
          (repeat' split) <;> first | exact ⟨rfl, hR⟩ | (exfalso; omega)
      · refine Vi.iconst (pc := 68) d_R_state_68 ?_
        refine V.goto (pc := 69) (tgt := 73) d_R_state_69 (by decide) ?_
        first | refine V.aload_nR (pc := 73) d_R_state_73 rfl ?_ | refine V.aload_n (pc := 73) d_R_state_73 rfl ?_
        refine Vr.get (pc := 74) d_R_state_74 g_R_84 hR rfl ?_
        refine V.iload_n (pc := 77) d_R_state_77 rfl ?_
        refine Vr.zald (pc := 78) (n := 24) d_R_state_78 hR (by decide) rfl (by first | omega | (simp [up] <;> omega)) ?_
        refine Vi.if_eq (pc := 79) (tgt := 87) d_R_state_79 (by decide) (by first | omega | (simp [up] <;> omega)) (fun c_79 => ?_) (fun c_79 => ?_)
        · refine Vi.iconst (pc := 87) d_R_state_87 ?_
          refine Vi.iadd (pc := 88) d_R_state_88 ?_
          refine V.callV (pc := 89) d_R_state_89 Y_R_fine l_R_147 wi_R_fine wv_R_fine (ci := 6) rfl rfl [_] hR.o rfl rfl ⟨by repeat (first | exact trivial | refine ⟨(by first | rfl | exact vrf_cat _), ?_⟩), Nat.le_of_ble_eq_true rfl⟩ ⟨⟨rfl, (by first | rfl | exact vrf_cat _), trivial⟩, Nat.le_of_ble_eq_true rfl⟩ (r_fine hR) (fun v hs ho => ?_) (fun E hs ho => by simp at ho)
          obtain ⟨ho, hR⟩ := ho
          cases ho
          refine Vi.ireturn (pc := 92) d_R_state_92 rfl ?_
          unfold z_state
          (repeat' split) <;> first | exact ⟨rfl, hR⟩ | (exfalso; omega)
        · refine Vi.bipush (pc := 82) d_R_state_82 (by decide) ?_
          refine V.goto (pc := 84) (tgt := 88) d_R_state_84 (by decide) ?_
          refine Vi.iadd (pc := 88) d_R_state_88 ?_
          refine V.callV (pc := 89) d_R_state_89 Y_R_fine l_R_147 wi_R_fine wv_R_fine (ci := 6) rfl rfl [_] hR.o rfl rfl ⟨by repeat (first | exact trivial | refine ⟨(by first | rfl | exact vrf_cat _), ?_⟩), Nat.le_of_ble_eq_true rfl⟩ ⟨⟨rfl, (by first | rfl | exact vrf_cat _), trivial⟩, Nat.le_of_ble_eq_true rfl⟩ (r_fine hR) (fun v hs ho => ?_) (fun E hs ho => by simp at ho)
          obtain ⟨ho, hR⟩ := ho
          cases ho
          refine Vi.ireturn (pc := 92) d_R_state_92 rfl ?_
          unfold z_state
          (repeat' split) <;> first | exact ⟨rfl, hR⟩ | (exfalso; omega)
    · first | refine V.aload_nR (pc := 23) d_R_state_23 rfl ?_ | refine V.aload_n (pc := 23) d_R_state_23 rfl ?_
      refine Vi.bipush (pc := 24) d_R_state_24 (by decide) ?_
      first | refine V.aload_nR (pc := 26) d_R_state_26 rfl ?_ | refine V.aload_n (pc := 26) d_R_state_26 rfl ?_
      refine Vr.get (pc := 27) d_R_state_27 g_R_69 hR rfl ?_
      refine V.iload_n (pc := 30) d_R_state_30 rfl ?_
      refine Vr.ald (pc := 31) (n := 24) d_R_state_31 hR (by decide) rfl (by first | omega | (simp [up] <;> omega)) ?_
      refine Vi.if_ge (pc := 32) (tgt := 39) d_R_state_32 (by decide) (by first | omega | (simp [up] <;> omega)) (fun c_32 => ?_) (fun c_32 => ?_)
      · first | refine V.aload_nR (pc := 39) d_R_state_39 rfl ?_ | refine V.aload_n (pc := 39) d_R_state_39 rfl ?_
        refine Vr.get (pc := 40) d_R_state_40 g_R_69 hR rfl ?_
        refine V.iload_n (pc := 43) d_R_state_43 rfl ?_
        refine Vr.ald (pc := 44) (n := 24) d_R_state_44 hR (by decide) rfl (by first | omega | (simp [up] <;> omega)) ?_
        refine Vi.if_ne (pc := 45) (tgt := 52) d_R_state_45 (by decide) (by first | omega | (simp [up] <;> omega)) (fun c_45 => ?_) (fun c_45 => ?_)
        · refine Vi.iconst (pc := 52) d_R_state_52 ?_
          refine Vi.iadd (pc := 53) d_R_state_53 ?_
          refine V.callV (pc := 54) d_R_state_54 Y_R_fine l_R_147 wi_R_fine wv_R_fine (ci := 6) rfl rfl [_] hR.o rfl rfl ⟨by repeat (first | exact trivial | refine ⟨(by first | rfl | exact vrf_cat _), ?_⟩), Nat.le_of_ble_eq_true rfl⟩ ⟨⟨rfl, (by first | rfl | exact vrf_cat _), trivial⟩, Nat.le_of_ble_eq_true rfl⟩ (r_fine hR) (fun v hs ho => ?_) (fun E hs ho => by simp at ho)
          obtain ⟨ho, hR⟩ := ho
          cases ho
          refine Vi.ireturn (pc := 57) d_R_state_57 rfl ?_
          unfold z_state
          (repeat' split) <;> first | exact ⟨rfl, hR⟩ | (exfalso; omega)
        · refine Vi.iconst (pc := 48) d_R_state_48 ?_
          refine V.goto (pc := 49) (tgt := 53) d_R_state_49 (by decide) ?_
          refine Vi.iadd (pc := 53) d_R_state_53 ?_
          refine V.callV (pc := 54) d_R_state_54 Y_R_fine l_R_147 wi_R_fine wv_R_fine (ci := 6) rfl rfl [_] hR.o rfl rfl ⟨by repeat (first | exact trivial | refine ⟨(by first | rfl | exact vrf_cat _), ?_⟩), Nat.le_of_ble_eq_true rfl⟩ ⟨⟨rfl, (by first | rfl | exact vrf_cat _), trivial⟩, Nat.le_of_ble_eq_true rfl⟩ (r_fine hR) (fun v hs ho => ?_) (fun E hs ho => by simp at ho)
          obtain ⟨ho, hR⟩ := ho
          cases ho
          refine Vi.ireturn (pc := 57) d_R_state_57 rfl ?_
          unfold z_state
          (repeat' split) <;> first | exact ⟨rfl, hR⟩ | (exfalso; omega)
      · refine Vi.iconst (pc := 35) d_R_state_35 ?_
        refine V.goto (pc := 36) (tgt := 53) d_R_state_36 (by decide) ?_
        refine Vi.iadd (pc := 53) d_R_state_53 ?_
        refine V.callV (pc := 54) d_R_state_54 Y_R_fine l_R_147 wi_R_fine wv_R_fine (ci := 6) rfl rfl [_] hR.o rfl rfl ⟨by repeat (first | exact trivial | refine ⟨(by first | rfl | exact vrf_cat _), ?_⟩), Nat.le_of_ble_eq_true rfl⟩ ⟨⟨rfl, (by first | rfl | exact vrf_cat _), trivial⟩, Nat.le_of_ble_eq_true rfl⟩ (r_fine hR) (fun v hs ho => ?_) (fun E hs ho => by simp at ho)
        obtain ⟨ho, hR⟩ := ho
        cases ho
        refine Vi.ireturn (pc := 57) d_R_state_57 rfl ?_
        unfold z_state
        (repeat' split) <;> first | exact ⟨rfl, hR⟩ | (exfalso; omega)
  · first | refine V.aload_nR (pc := 8) d_R_state_8 rfl ?_ | refine V.aload_n (pc := 8) d_R_state_8 rfl ?_
    refine Vi.iconst (pc := 9) d_R_state_9 ?_
    refine V.callV (pc := 10) d_R_state_10 Y_R_refuse l_R_143 wi_R_refuse wv_R_refuse (ci := 6) rfl rfl [_] hR.o rfl rfl ⟨by repeat (first | exact trivial | refine ⟨(by first | rfl | exact vrf_cat _), ?_⟩), Nat.le_of_ble_eq_true rfl⟩ ⟨⟨rfl, (by first | rfl | exact vrf_cat _), trivial⟩, Nat.le_of_ble_eq_true rfl⟩ (r_refuse hR) (fun v hs ho => ?_) (fun E hs ho => by simp at ho)
    obtain ⟨ho, hR⟩ := ho
    cases ho
    refine Vi.ireturn (pc := 13) d_R_state_13 rfl ?_
    unfold z_state
    (repeat' split) <;> first | exact ⟨rfl, hR⟩ | (exfalso; omega)
def z_cause (S : js) (j : Int) : Int × Int := if j < 0 ∨ S 1 0 ≤ j then (1, 0) else if S 19 j < 0 then (2, 0) else (0, S 19 j)
theorem r_cause {j : Int} (hR : RepR w mo ra S g b hs) (hj : jr j) (hJ : 0 ≤ S 1 0 ∧ S 1 0 ≤ 24) (hp : ∀ i, 0 ≤ i → i < S 1 0 → jr (S 19 i)) : V jcl w m_R_cause (d + 1) 0 [(0, .ref mo), (1, .int (ii j))] [] hs (fun o hs' => o = .inl (some (.int (ii (z_cause S j).2))) ∧ RepR w mo ra (up S 0 0 (z_cause S j).1) g b hs') := by
  have hp' : 0 ≤ j ∧ j < S 1 0 → jr (S 19 j) := fun z => hp j z.1 z.2
  first | refine V.aload_nR (pc := 0) d_R_cause_0 rfl ?_ | refine V.aload_n (pc := 0) d_R_cause_0 rfl ?_
  refine V.iload_n (pc := 1) d_R_cause_1 rfl ?_
  refine V.callV (pc := 2) d_R_cause_2 Y_R_no l_R_227 wi_R_no wv_R_no (ci := 6) rfl rfl [_] hR.o rfl rfl ⟨by repeat (first | exact trivial | refine ⟨(by first | rfl | exact vrf_cat _), ?_⟩), Nat.le_of_ble_eq_true rfl⟩ ⟨⟨rfl, (by first | rfl | exact vrf_cat _), trivial⟩, Nat.le_of_ble_eq_true rfl⟩ (r_no hR (by omega) (by omega)) (fun v hs ho => ?_) (fun E hs ho => by simp at ho)
  obtain ⟨r_2, ho, hr_2, rfl⟩ := ho
  cases ho
  refine Vi.if_eq (pc := 5) (tgt := 14) d_R_cause_5 (by decide) (by first | omega | (simp [up] <;> omega)) (fun c_5 => ?_) (fun c_5 => ?_)
  · first | refine V.aload_nR (pc := 14) d_R_cause_14 rfl ?_ | refine V.aload_n (pc := 14) d_R_cause_14 rfl ?_
    refine Vr.get (pc := 15) d_R_cause_15 g_R_69 hR rfl ?_
    refine V.iload_n (pc := 18) d_R_cause_18 rfl ?_
    refine Vr.ald (pc := 19) (n := 24) d_R_cause_19 hR (by decide) rfl (by first | omega | (simp [up] <;> omega)) ?_
    refine Vi.if_ge (pc := 20) (tgt := 31) d_R_cause_20 (by decide) (by first | omega | (simp [up] <;> omega)) (fun c_20 => ?_) (fun c_20 => ?_)
    · first | refine V.aload_nR (pc := 31) d_R_cause_31 rfl ?_ | refine V.aload_n (pc := 31) d_R_cause_31 rfl ?_
      first | refine V.aload_nR (pc := 32) d_R_cause_32 rfl ?_ | refine V.aload_n (pc := 32) d_R_cause_32 rfl ?_
      refine Vr.get (pc := 33) d_R_cause_33 g_R_69 hR rfl ?_
      refine V.iload_n (pc := 36) d_R_cause_36 rfl ?_
      refine Vr.ald (pc := 37) (n := 24) d_R_cause_37 hR (by decide) rfl (by first | omega | (simp [up] <;> omega)) ?_
      refine V.callV (pc := 38) d_R_cause_38 Y_R_fine l_R_147 wi_R_fine wv_R_fine (ci := 6) rfl rfl [_] hR.o rfl rfl ⟨by repeat (first | exact trivial | refine ⟨(by first | rfl | exact vrf_cat _), ?_⟩), Nat.le_of_ble_eq_true rfl⟩ ⟨⟨rfl, (by first | rfl | exact vrf_cat _), trivial⟩, Nat.le_of_ble_eq_true rfl⟩ (r_fine hR) (fun v hs ho => ?_) (fun E hs ho => by simp at ho)
      obtain ⟨ho, hR⟩ := ho
      cases ho
      refine Vi.ireturn (pc := 41) d_R_cause_41 rfl ?_
      unfold z_cause
      (repeat' split) <;> first | exact ⟨rfl, hR⟩ | (exfalso; omega)
    · first | refine V.aload_nR (pc := 23) d_R_cause_23 rfl ?_ | refine V.aload_n (pc := 23) d_R_cause_23 rfl ?_
      refine Vi.iconst (pc := 24) d_R_cause_24 ?_
      refine V.callV (pc := 25) d_R_cause_25 Y_R_refuse l_R_143 wi_R_refuse wv_R_refuse (ci := 6) rfl rfl [_] hR.o rfl rfl ⟨by repeat (first | exact trivial | refine ⟨(by first | rfl | exact vrf_cat _), ?_⟩), Nat.le_of_ble_eq_true rfl⟩ ⟨⟨rfl, (by first | rfl | exact vrf_cat _), trivial⟩, Nat.le_of_ble_eq_true rfl⟩ (r_refuse hR) (fun v hs ho => ?_) (fun E hs ho => by simp at ho)
      obtain ⟨ho, hR⟩ := ho
      cases ho
      refine V.goto (pc := 28) (tgt := 41) d_R_cause_28 (by decide) ?_
      refine Vi.ireturn (pc := 41) d_R_cause_41 rfl ?_
      unfold z_cause
      (repeat' split) <;> first | exact ⟨rfl, hR⟩ | (exfalso; omega)
  · first | refine V.aload_nR (pc := 8) d_R_cause_8 rfl ?_ | refine V.aload_n (pc := 8) d_R_cause_8 rfl ?_
    refine Vi.iconst (pc := 9) d_R_cause_9 ?_
    refine V.callV (pc := 10) d_R_cause_10 Y_R_refuse l_R_143 wi_R_refuse wv_R_refuse (ci := 6) rfl rfl [_] hR.o rfl rfl ⟨by repeat (first | exact trivial | refine ⟨(by first | rfl | exact vrf_cat _), ?_⟩), Nat.le_of_ble_eq_true rfl⟩ ⟨⟨rfl, (by first | rfl | exact vrf_cat _), trivial⟩, Nat.le_of_ble_eq_true rfl⟩ (r_refuse hR) (fun v hs ho => ?_) (fun E hs ho => by simp at ho)
    obtain ⟨ho, hR⟩ := ho
    cases ho
    refine Vi.ireturn (pc := 13) d_R_cause_13 rfl ?_
    unfold z_cause
    (repeat' split) <;> first | exact ⟨rfl, hR⟩ | (exfalso; omega)
def z_noted (S : js) (k : Int) : Int × Int := if k < 0 ∨ 59 < k ∨ S 3 0 ≤ k then (1, 0) else (0, S 15 k)
theorem r_noted {k : Int} (hR : RepR w mo ra S g b hs) (hk : jr k) (hn : jr (S 3 0)) : V jcl w m_R_noted (d + 1) 0 [(0, .ref mo), (1, .int (ii k))] [] hs (fun o hs' => o = .inl (some (.int (ii (z_noted S k).2))) ∧ RepR w mo ra (up S 0 0 (z_noted S k).1) g b hs') := by
  refine V.iload_n (pc := 0) d_R_noted_0 rfl ?_
  refine Vi.if_lt (pc := 1) (tgt := 18) d_R_noted_1 (by decide) (by first | omega | (simp [up] <;> omega)) (fun c_1 => ?_) (fun c_1 => ?_)
  · first | refine V.aload_nR (pc := 18) d_R_noted_18 rfl ?_ | refine V.aload_n (pc := 18) d_R_noted_18 rfl ?_
    refine Vi.iconst (pc := 19) d_R_noted_19 ?_
    refine V.callV (pc := 20) d_R_noted_20 Y_R_refuse l_R_143 wi_R_refuse wv_R_refuse (ci := 6) rfl rfl [_] hR.o rfl rfl ⟨by repeat (first | exact trivial | refine ⟨(by first | rfl | exact vrf_cat _), ?_⟩), Nat.le_of_ble_eq_true rfl⟩ ⟨⟨rfl, (by first | rfl | exact vrf_cat _), trivial⟩, Nat.le_of_ble_eq_true rfl⟩ (r_refuse hR) (fun v hs ho => ?_) (fun E hs ho => by simp at ho)
    obtain ⟨ho, hR⟩ := ho
    cases ho
    refine V.goto (pc := 23) (tgt := 36) d_R_noted_23 (by decide) ?_
    refine Vi.ireturn (pc := 36) d_R_noted_36 rfl ?_
    unfold z_noted
    (repeat' split) <;> first | exact ⟨rfl, hR⟩ | (exfalso; omega)
  · refine V.iload_n (pc := 4) d_R_noted_4 rfl ?_
    refine Vi.bipush (pc := 5) d_R_noted_5 (by decide) ?_
    refine Vi.icmp_gt (pc := 7) (tgt := 18) d_R_noted_7 (by decide) (by first | omega | (simp [up] <;> omega)) (by first | omega | (simp [up] <;> omega)) (fun c_7 => ?_) (fun c_7 => ?_)
    · first | refine V.aload_nR (pc := 18) d_R_noted_18 rfl ?_ | refine V.aload_n (pc := 18) d_R_noted_18 rfl ?_
      refine Vi.iconst (pc := 19) d_R_noted_19 ?_
      refine V.callV (pc := 20) d_R_noted_20 Y_R_refuse l_R_143 wi_R_refuse wv_R_refuse (ci := 6) rfl rfl [_] hR.o rfl rfl ⟨by repeat (first | exact trivial | refine ⟨(by first | rfl | exact vrf_cat _), ?_⟩), Nat.le_of_ble_eq_true rfl⟩ ⟨⟨rfl, (by first | rfl | exact vrf_cat _), trivial⟩, Nat.le_of_ble_eq_true rfl⟩ (r_refuse hR) (fun v hs ho => ?_) (fun E hs ho => by simp at ho)
      obtain ⟨ho, hR⟩ := ho
      cases ho
      refine V.goto (pc := 23) (tgt := 36) d_R_noted_23 (by decide) ?_
      refine Vi.ireturn (pc := 36) d_R_noted_36 rfl ?_
      unfold z_noted
      (repeat' split) <;> first | exact ⟨rfl, hR⟩ | (exfalso; omega)
    · refine V.iload_n (pc := 10) d_R_noted_10 rfl ?_
      first | refine V.aload_nR (pc := 11) d_R_noted_11 rfl ?_ | refine V.aload_n (pc := 11) d_R_noted_11 rfl ?_
      refine Vr.get (pc := 12) d_R_noted_12 g_R_19 hR rfl ?_
      refine Vi.icmp_lt (pc := 15) (tgt := 26) d_R_noted_15 (by decide) (by first | omega | (simp [up] <;> omega)) (by first | omega | (simp [up] <;> omega)) (fun c_15 => ?_) (fun c_15 => ?_)
      · first | refine V.aload_nR (pc := 26) d_R_noted_26 rfl ?_ | refine V.aload_n (pc := 26) d_R_noted_26 rfl ?_
        first | refine V.aload_nR (pc := 27) d_R_noted_27 rfl ?_ | refine V.aload_n (pc := 27) d_R_noted_27 rfl ?_
        refine Vr.get (pc := 28) d_R_noted_28 g_R_57 hR rfl ?_
        refine V.iload_n (pc := 31) d_R_noted_31 rfl ?_
        refine Vr.ald (pc := 32) (n := 60) d_R_noted_32 hR (by decide) rfl (by first | omega | (simp [up] <;> omega)) ?_
        refine V.callV (pc := 33) d_R_noted_33 Y_R_fine l_R_147 wi_R_fine wv_R_fine (ci := 6) rfl rfl [_] hR.o rfl rfl ⟨by repeat (first | exact trivial | refine ⟨(by first | rfl | exact vrf_cat _), ?_⟩), Nat.le_of_ble_eq_true rfl⟩ ⟨⟨rfl, (by first | rfl | exact vrf_cat _), trivial⟩, Nat.le_of_ble_eq_true rfl⟩ (r_fine hR) (fun v hs ho => ?_) (fun E hs ho => by simp at ho)
        obtain ⟨ho, hR⟩ := ho
        cases ho
        refine Vi.ireturn (pc := 36) d_R_noted_36 rfl ?_
        unfold z_noted
        (repeat' split) <;> first | exact ⟨rfl, hR⟩ | (exfalso; omega)
      · first | refine V.aload_nR (pc := 18) d_R_noted_18 rfl ?_ | refine V.aload_n (pc := 18) d_R_noted_18 rfl ?_
        refine Vi.iconst (pc := 19) d_R_noted_19 ?_
        refine V.callV (pc := 20) d_R_noted_20 Y_R_refuse l_R_143 wi_R_refuse wv_R_refuse (ci := 6) rfl rfl [_] hR.o rfl rfl ⟨by repeat (first | exact trivial | refine ⟨(by first | rfl | exact vrf_cat _), ?_⟩), Nat.le_of_ble_eq_true rfl⟩ ⟨⟨rfl, (by first | rfl | exact vrf_cat _), trivial⟩, Nat.le_of_ble_eq_true rfl⟩ (r_refuse hR) (fun v hs ho => ?_) (fun E hs ho => by simp at ho)
        obtain ⟨ho, hR⟩ := ho
        cases ho
        refine V.goto (pc := 23) (tgt := 36) d_R_noted_23 (by decide) ?_
        refine Vi.ireturn (pc := 36) d_R_noted_36 rfl ?_
        unfold z_noted
        (repeat' split) <;> first | exact ⟨rfl, hR⟩ | (exfalso; omega)
/-- open children of j among the jobs from k on -/
def z_cn (S : js) (j : Int) : Nat → Int → Int
  | 0, _ => 0
  | n + 1, k => if k < S 1 0 then (if S 16 k = j ∧ S 25 k = 0 then 1 else 0) + z_cn S j n (k + 1) else 0
def z_open (S : js) (j : Int) : Int := z_cn S j 25 0
theorem r_on {j : Int} (hR : RepR w mo ra S g b hs) (hj : jr j) (hJ : 0 ≤ S 1 0 ∧ S 1 0 ≤ 24) (hp : ∀ i, 0 ≤ i → i < S 1 0 → jr (S 16 i) ∧ jr (S 25 i)) : ∀ (n : Nat) (k c : Int), 0 ≤ k → k ≤ 24 → 24 ≤ k + n →
    V jcl w m_R_open d 4 [(0, .ref mo), (1, .int (ii j)), (2, .int (ii c)), (3, .int (ii k))] [] hs (fun o hs' => o = .inl (some (.int (ii (c + z_cn S j (n + 1) k)))) ∧ hs' = hs) := by
  intro n
  induction n with
  | zero =>
    intro k c h1 h2 h3
    refine V.iload_n (pc := 4) d_R_open_4 rfl ?_
    first | refine V.aload_nR (pc := 5) d_R_open_5 rfl ?_ | refine V.aload_n (pc := 5) d_R_open_5 rfl ?_
    refine Vr.get (pc := 6) d_R_open_6 g_R_13 hR rfl ?_
    refine Vi.icmp_ge (pc := 9) (tgt := 40) d_R_open_9 (by decide) (by first | omega | (simp [up] <;> omega)) (by first | omega | (simp [up] <;> omega)) (fun c_9 => ?_) (fun c_9 => ?_)
    · refine V.iload_n (pc := 40) d_R_open_40 rfl ?_
      refine Vi.ireturn (pc := 41) d_R_open_41 rfl ?_
      exact ⟨by rw [z_cn, if_neg (by omega), Int.add_zero], rfl⟩
    · omega
  | succ n ih =>
    intro k c h1 h2 h3
    have hp' : k < S 1 0 → jr (S 16 k) ∧ jr (S 25 k) := fun z => hp k h1 z
    refine V.iload_n (pc := 4) d_R_open_4 rfl ?_
    first | refine V.aload_nR (pc := 5) d_R_open_5 rfl ?_ | refine V.aload_n (pc := 5) d_R_open_5 rfl ?_
    refine Vr.get (pc := 6) d_R_open_6 g_R_13 hR rfl ?_
    refine Vi.icmp_ge (pc := 9) (tgt := 40) d_R_open_9 (by decide) (by first | omega | (simp [up] <;> omega)) (by first | omega | (simp [up] <;> omega)) (fun c_9 => ?_) (fun c_9 => ?_)
    · refine V.iload_n (pc := 40) d_R_open_40 rfl ?_
      refine Vi.ireturn (pc := 41) d_R_open_41 rfl ?_
      exact ⟨by rw [z_cn, if_neg (by omega), Int.add_zero], rfl⟩
    · first | refine V.aload_nR (pc := 12) d_R_open_12 rfl ?_ | refine V.aload_n (pc := 12) d_R_open_12 rfl ?_
      refine Vr.get (pc := 13) d_R_open_13 g_R_60 hR rfl ?_
      refine V.iload_n (pc := 16) d_R_open_16 rfl ?_
      refine Vr.ald (pc := 17) (n := 24) d_R_open_17 hR (by decide) rfl (by first | omega | (simp [up] <;> omega)) ?_
      refine V.iload_n (pc := 18) d_R_open_18 rfl ?_
      refine Vi.icmp_ne (pc := 19) (tgt := 34) d_R_open_19 (by decide) (by first | omega | (simp [up] <;> omega)) (by first | omega | (simp [up] <;> omega)) (fun c_19 => ?_) (fun c_19 => ?_)
      · refine Vi.iinc (pc := 34) d_R_open_34 rfl (by decide) ?_
        refine V.goto (pc := 37) (tgt := 4) d_R_open_37 (by decide) ?_
        refine V.loc (L' := [(0, .ref mo), (1, .int (ii j)), (2, .int (ii c)), (3, .int (ii (k + 1)))]) ⟨rfl, rfl, rfl, rfl, trivial⟩ ?_
        rw [z_cn, if_pos (by omega), if_neg (by omega), Int.zero_add]
        exact ih (k + 1) c (by omega) (by omega) (by omega)
      · first | refine V.aload_nR (pc := 22) d_R_open_22 rfl ?_ | refine V.aload_n (pc := 22) d_R_open_22 rfl ?_
        refine Vr.get (pc := 23) d_R_open_23 g_R_88 hR rfl ?_
        refine V.iload_n (pc := 26) d_R_open_26 rfl ?_
        refine Vr.zald (pc := 27) (n := 24) d_R_open_27 hR (by decide) rfl (by first | omega | (simp [up] <;> omega)) ?_
        refine Vi.if_ne (pc := 28) (tgt := 34) d_R_open_28 (by decide) (by first | omega | (simp [up] <;> omega)) (fun c_28 => ?_) (fun c_28 => ?_)
        · refine Vi.iinc (pc := 34) d_R_open_34 rfl (by decide) ?_
          refine V.goto (pc := 37) (tgt := 4) d_R_open_37 (by decide) ?_
          refine V.loc (L' := [(0, .ref mo), (1, .int (ii j)), (2, .int (ii c)), (3, .int (ii (k + 1)))]) ⟨rfl, rfl, rfl, rfl, trivial⟩ ?_
          rw [z_cn, if_pos (by omega), if_neg (by omega), Int.zero_add]
          exact ih (k + 1) c (by omega) (by omega) (by omega)
        · refine Vi.iinc (pc := 31) d_R_open_31 rfl (by decide) ?_
          refine Vi.iinc (pc := 34) d_R_open_34 rfl (by decide) ?_
          refine V.goto (pc := 37) (tgt := 4) d_R_open_37 (by decide) ?_
          refine V.loc (L' := [(0, .ref mo), (1, .int (ii j)), (2, .int (ii (c + 1))), (3, .int (ii (k + 1)))]) ⟨rfl, rfl, rfl, rfl, trivial⟩ ?_
          rw [z_cn, if_pos (by omega), if_pos (by omega), ← Int.add_assoc]
          exact ih (k + 1) (c + 1) (by omega) (by omega) (by omega)
theorem r_open {j : Int} (hR : RepR w mo ra S g b hs) (hj : jr j) (hJ : 0 ≤ S 1 0 ∧ S 1 0 ≤ 24) (hp : ∀ i, 0 ≤ i → i < S 1 0 → jr (S 16 i) ∧ jr (S 25 i)) : V jcl w m_R_open d 0 [(0, .ref mo), (1, .int (ii j))] [] hs (fun o hs' => o = .inl (some (.int (ii (z_open S j)))) ∧ hs' = hs) := by
  refine Vi.iconst (pc := 0) d_R_open_0 ?_
  refine V.istore_n (pc := 1) d_R_open_1 (by decide) ?_
  refine Vi.iconst (pc := 2) d_R_open_2 ?_
  refine V.istore_n (pc := 3) d_R_open_3 (by decide) ?_
  refine V.loc (L' := [(0, .ref mo), (1, .int (ii j)), (2, .int (ii 0)), (3, .int (ii 0))]) ⟨rfl, rfl, rfl, rfl, trivial⟩ ?_
  have h := r_on (d := d) hR hj hJ hp 24 0 0 (by omega) (by omega) (by omega)
  rw [Int.zero_add] at h
  exact h
def z_about (S : js) (j x : Int) : Int × Int := if (j < 0 ∨ S 1 0 ≤ j) ∨ (x < 0 ∨ 8 < x) then (1, 0) else if x = 0 then (0, S 16 j) else if x = 1 then (0, S 17 j) else if x = 2 then (0, S 20 j) else if x = 3 then (0, S 18 j) else if x = 4 then (0, S 21 j) else if x < 8 then (0, S 22 (j * 3 + x - 5)) else (0, z_open S j)
theorem r_about {j x : Int} (hR : RepR w mo ra S g b hs) (hj : jr j) (hx : jr x) (hJ : 0 ≤ S 1 0 ∧ S 1 0 ≤ 24) (hp : ∀ i, 0 ≤ i → i < S 1 0 → jr (S 16 i) ∧ jr (S 25 i)) : V jcl w m_R_about (d + 1) 0 [(0, .ref mo), (1, .int (ii j)), (2, .int (ii x))] [] hs (fun o hs' => o = .inl (some (.int (ii (z_about S j x).2))) ∧ RepR w mo ra (up S 0 0 (z_about S j x).1) g b hs') := by
  first | refine V.aload_nR (pc := 0) d_R_about_0 rfl ?_ | refine V.aload_n (pc := 0) d_R_about_0 rfl ?_
  refine V.iload_n (pc := 1) d_R_about_1 rfl ?_
  refine V.callV (pc := 2) d_R_about_2 Y_R_no l_R_227 wi_R_no wv_R_no (ci := 6) rfl rfl [_] hR.o rfl rfl ⟨by repeat (first | exact trivial | refine ⟨(by first | rfl | exact vrf_cat _), ?_⟩), Nat.le_of_ble_eq_true rfl⟩ ⟨⟨rfl, (by first | rfl | exact vrf_cat _), trivial⟩, Nat.le_of_ble_eq_true rfl⟩ (r_no hR (by omega) (by omega)) (fun v hs ho => ?_) (fun E hs ho => by simp at ho)
  obtain ⟨r_2, ho, hr_2, rfl⟩ := ho
  cases ho
  refine Vi.if_ne (pc := 5) (tgt := 19) d_R_about_5 (by decide) (by first | omega | (simp [up] <;> omega)) (fun c_5 => ?_) (fun c_5 => ?_)
  · first | refine V.aload_nR (pc := 19) d_R_about_19 rfl ?_ | refine V.aload_n (pc := 19) d_R_about_19 rfl ?_
    refine Vi.iconst (pc := 20) d_R_about_20 ?_
    refine V.callV (pc := 21) d_R_about_21 Y_R_refuse l_R_143 wi_R_refuse wv_R_refuse (ci := 6) rfl rfl [_] hR.o rfl rfl ⟨by repeat (first | exact trivial | refine ⟨(by first | rfl | exact vrf_cat _), ?_⟩), Nat.le_of_ble_eq_true rfl⟩ ⟨⟨rfl, (by first | rfl | exact vrf_cat _), trivial⟩, Nat.le_of_ble_eq_true rfl⟩ (r_refuse hR) (fun v hs ho => ?_) (fun E hs ho => by simp at ho)
    obtain ⟨ho, hR⟩ := ho
    cases ho
    refine Vi.ireturn (pc := 24) d_R_about_24 rfl ?_
    unfold z_about
    (repeat' split) <;> first | exact ⟨rfl, hR⟩ | (exfalso; omega)
  · first | refine V.aload_nR (pc := 8) d_R_about_8 rfl ?_ | refine V.aload_n (pc := 8) d_R_about_8 rfl ?_
    refine V.iload_n (pc := 9) d_R_about_9 rfl ?_
    refine Vi.iconst (pc := 10) d_R_about_10 ?_
    refine Vi.bipush (pc := 11) d_R_about_11 (by decide) ?_
    refine V.callV (pc := 13) d_R_about_13 Y_R_out l_R_136 wi_R_out wv_R_out (ci := 6) rfl rfl [_, _, _] hR.o rfl rfl ⟨by repeat (first | exact trivial | refine ⟨(by first | rfl | exact vrf_cat _), ?_⟩), Nat.le_of_ble_eq_true rfl⟩ ⟨⟨rfl, (by first | rfl | exact vrf_cat _), (by first | rfl | exact vrf_cat _), (by first | rfl | exact vrf_cat _), trivial⟩, Nat.le_of_ble_eq_true rfl⟩ (r_out (by first | omega | (simp [up] <;> omega)) (by decide) (by decide)) (fun v hs ho => ?_) (fun E hs ho => by simp at ho)
    obtain ⟨r_13, ho, hr_13, rfl⟩ := ho
    cases ho
    refine Vi.if_eq (pc := 16) (tgt := 25) d_R_about_16 (by decide) (by first | omega | (simp [up] <;> omega)) (fun c_16 => ?_) (fun c_16 => ?_)
    · refine V.iload_n (pc := 25) d_R_about_25 rfl ?_
      refine Vi.if_ne (pc := 26) (tgt := 40) d_R_about_26 (by decide) (by first | omega | (simp [up] <;> omega)) (fun c_26 => ?_) (fun c_26 => ?_)
      · refine V.iload_n (pc := 40) d_R_about_40 rfl ?_
        refine Vi.iconst (pc := 41) d_R_about_41 ?_
        refine Vi.icmp_ne (pc := 42) (tgt := 56) d_R_about_42 (by decide) (by first | omega | (simp [up] <;> omega)) (by first | omega | (simp [up] <;> omega)) (fun c_42 => ?_) (fun c_42 => ?_)
        · refine V.iload_n (pc := 56) d_R_about_56 rfl ?_
          refine Vi.iconst (pc := 57) d_R_about_57 ?_
          refine Vi.icmp_ne (pc := 58) (tgt := 72) d_R_about_58 (by decide) (by first | omega | (simp [up] <;> omega)) (by first | omega | (simp [up] <;> omega)) (fun c_58 => ?_) (fun c_58 => ?_)
          · refine V.iload_n (pc := 72) d_R_about_72 rfl ?_
            refine Vi.iconst (pc := 73) d_R_about_73 ?_
            refine Vi.icmp_ne (pc := 74) (tgt := 88) d_R_about_74 (by decide) (by first | omega | (simp [up] <;> omega)) (by first | omega | (simp [up] <;> omega)) (fun c_74 => ?_) (fun c_74 => ?_)
            · refine V.iload_n (pc := 88) d_R_about_88 rfl ?_
              refine Vi.iconst (pc := 89) d_R_about_89 ?_
              refine Vi.icmp_ne (pc := 90) (tgt := 104) d_R_about_90 (by decide) (by first | omega | (simp [up] <;> omega)) (by first | omega | (simp [up] <;> omega)) (fun c_90 => ?_) (fun c_90 => ?_)
              · first | refine V.aload_nR (pc := 104) d_R_about_104 rfl ?_ | refine V.aload_n (pc := 104) d_R_about_104 rfl ?_
                refine V.iload_n (pc := 105) d_R_about_105 rfl ?_
                refine Vi.bipush (pc := 106) d_R_about_106 (by decide) ?_
                refine Vi.icmp_ge (pc := 108) (tgt := 126) d_R_about_108 (by decide) (by first | omega | (simp [up] <;> omega)) (by first | omega | (simp [up] <;> omega)) (fun c_108 => ?_) (fun c_108 => ?_)
                · first | refine V.aload_nR (pc := 126) d_R_about_126 rfl ?_ | refine V.aload_n (pc := 126) d_R_about_126 rfl ?_
                  refine V.iload_n (pc := 127) d_R_about_127 rfl ?_
                  refine V.callV (pc := 128) d_R_about_128 Y_R_open l_R_230 wi_R_open wv_R_open (ci := 6) rfl rfl [_] hR.o rfl rfl ⟨by repeat (first | exact trivial | refine ⟨(by first | rfl | exact vrf_cat _), ?_⟩), Nat.le_of_ble_eq_true rfl⟩ ⟨⟨rfl, (by first | rfl | exact vrf_cat _), trivial⟩, Nat.le_of_ble_eq_true rfl⟩ (r_open hR (by omega) hJ (fun i h1 h2 => ⟨(hp i h1 h2).1, (hp i h1 h2).2⟩)) (fun v hs ho => ?_) (fun E hs ho => by simp at ho)
                  obtain ⟨ho, rfl⟩ := ho
                  cases ho
                  refine V.callV (pc := 131) d_R_about_131 Y_R_fine l_R_147 wi_R_fine wv_R_fine (ci := 6) rfl rfl [_] hR.o rfl rfl ⟨by repeat (first | exact trivial | refine ⟨(by first | rfl | exact vrf_cat _), ?_⟩), Nat.le_of_ble_eq_true rfl⟩ ⟨⟨rfl, (by first | rfl | exact vrf_cat _), trivial⟩, Nat.le_of_ble_eq_true rfl⟩ (r_fine hR) (fun v hs ho => ?_) (fun E hs ho => by simp at ho)
                  obtain ⟨ho, hR⟩ := ho
                  cases ho
                  refine Vi.ireturn (pc := 134) d_R_about_134 rfl ?_
                  unfold z_about
                  (repeat' split) <;> first | exact ⟨rfl, hR⟩ | (exfalso; omega)
                · first | refine V.aload_nR (pc := 111) d_R_about_111 rfl ?_ | refine V.aload_n (pc := 111) d_R_about_111 rfl ?_
                  refine Vr.get (pc := 112) d_R_about_112 g_R_78 hR rfl ?_
                  refine V.iload_n (pc := 115) d_R_about_115 rfl ?_
                  refine Vi.iconst (pc := 116) d_R_about_116 ?_
                  refine Vi.imul (pc := 117) d_R_about_117 ?_
                  refine V.iload_n (pc := 118) d_R_about_118 rfl ?_
                  refine Vi.iadd (pc := 119) d_R_about_119 ?_
                  refine Vi.iconst (pc := 120) d_R_about_120 ?_
                  refine Vi.isub (pc := 121) d_R_about_121 ?_
                  refine Vr.ald (pc := 122) (n := 72) d_R_about_122 hR (by decide) rfl (by first | omega | (simp [up] <;> omega)) ?_
                  refine V.goto (pc := 123) (tgt := 131) d_R_about_123 (by decide) ?_
                  refine V.callV (pc := 131) d_R_about_131 Y_R_fine l_R_147 wi_R_fine wv_R_fine (ci := 6) rfl rfl [_] hR.o rfl rfl ⟨by repeat (first | exact trivial | refine ⟨(by first | rfl | exact vrf_cat _), ?_⟩), Nat.le_of_ble_eq_true rfl⟩ ⟨⟨rfl, (by first | rfl | exact vrf_cat _), trivial⟩, Nat.le_of_ble_eq_true rfl⟩ (r_fine hR) (fun v hs ho => ?_) (fun E hs ho => by simp at ho)
                  obtain ⟨ho, hR⟩ := ho
                  cases ho
                  refine Vi.ireturn (pc := 134) d_R_about_134 rfl ?_
                  unfold z_about
                  (repeat' split) <;> first | exact ⟨rfl, hR⟩ | (exfalso; omega)
              · first | refine V.aload_nR (pc := 93) d_R_about_93 rfl ?_ | refine V.aload_n (pc := 93) d_R_about_93 rfl ?_
                first | refine V.aload_nR (pc := 94) d_R_about_94 rfl ?_ | refine V.aload_n (pc := 94) d_R_about_94 rfl ?_
                refine Vr.get (pc := 95) d_R_about_95 g_R_75 hR rfl ?_
                refine V.iload_n (pc := 98) d_R_about_98 rfl ?_
                refine Vr.ald (pc := 99) (n := 24) d_R_about_99 hR (by decide) rfl (by first | omega | (simp [up] <;> omega)) ?_
                refine V.callV (pc := 100) d_R_about_100 Y_R_fine l_R_147 wi_R_fine wv_R_fine (ci := 6) rfl rfl [_] hR.o rfl rfl ⟨by repeat (first | exact trivial | refine ⟨(by first | rfl | exact vrf_cat _), ?_⟩), Nat.le_of_ble_eq_true rfl⟩ ⟨⟨rfl, (by first | rfl | exact vrf_cat _), trivial⟩, Nat.le_of_ble_eq_true rfl⟩ (r_fine hR) (fun v hs ho => ?_) (fun E hs ho => by simp at ho)
                obtain ⟨ho, hR⟩ := ho
                cases ho
                refine Vi.ireturn (pc := 103) d_R_about_103 rfl ?_
                unfold z_about
                (repeat' split) <;> first | exact ⟨rfl, hR⟩ | (exfalso; omega)
            · first | refine V.aload_nR (pc := 77) d_R_about_77 rfl ?_ | refine V.aload_n (pc := 77) d_R_about_77 rfl ?_
              first | refine V.aload_nR (pc := 78) d_R_about_78 rfl ?_ | refine V.aload_n (pc := 78) d_R_about_78 rfl ?_
              refine Vr.get (pc := 79) d_R_about_79 g_R_66 hR rfl ?_
              refine V.iload_n (pc := 82) d_R_about_82 rfl ?_
              refine Vr.ald (pc := 83) (n := 24) d_R_about_83 hR (by decide) rfl (by first | omega | (simp [up] <;> omega)) ?_
              refine V.callV (pc := 84) d_R_about_84 Y_R_fine l_R_147 wi_R_fine wv_R_fine (ci := 6) rfl rfl [_] hR.o rfl rfl ⟨by repeat (first | exact trivial | refine ⟨(by first | rfl | exact vrf_cat _), ?_⟩), Nat.le_of_ble_eq_true rfl⟩ ⟨⟨rfl, (by first | rfl | exact vrf_cat _), trivial⟩, Nat.le_of_ble_eq_true rfl⟩ (r_fine hR) (fun v hs ho => ?_) (fun E hs ho => by simp at ho)
              obtain ⟨ho, hR⟩ := ho
              cases ho
              refine Vi.ireturn (pc := 87) d_R_about_87 rfl ?_
              unfold z_about
              (repeat' split) <;> first | exact ⟨rfl, hR⟩ | (exfalso; omega)
          · first | refine V.aload_nR (pc := 61) d_R_about_61 rfl ?_ | refine V.aload_n (pc := 61) d_R_about_61 rfl ?_
            first | refine V.aload_nR (pc := 62) d_R_about_62 rfl ?_ | refine V.aload_n (pc := 62) d_R_about_62 rfl ?_
            refine Vr.get (pc := 63) d_R_about_63 g_R_72 hR rfl ?_
            refine V.iload_n (pc := 66) d_R_about_66 rfl ?_
            refine Vr.ald (pc := 67) (n := 24) d_R_about_67 hR (by decide) rfl (by first | omega | (simp [up] <;> omega)) ?_
            refine V.callV (pc := 68) d_R_about_68 Y_R_fine l_R_147 wi_R_fine wv_R_fine (ci := 6) rfl rfl [_] hR.o rfl rfl ⟨by repeat (first | exact trivial | refine ⟨(by first | rfl | exact vrf_cat _), ?_⟩), Nat.le_of_ble_eq_true rfl⟩ ⟨⟨rfl, (by first | rfl | exact vrf_cat _), trivial⟩, Nat.le_of_ble_eq_true rfl⟩ (r_fine hR) (fun v hs ho => ?_) (fun E hs ho => by simp at ho)
            obtain ⟨ho, hR⟩ := ho
            cases ho
            refine Vi.ireturn (pc := 71) d_R_about_71 rfl ?_
            unfold z_about
            (repeat' split) <;> first | exact ⟨rfl, hR⟩ | (exfalso; omega)
        · first | refine V.aload_nR (pc := 45) d_R_about_45 rfl ?_ | refine V.aload_n (pc := 45) d_R_about_45 rfl ?_
          first | refine V.aload_nR (pc := 46) d_R_about_46 rfl ?_ | refine V.aload_n (pc := 46) d_R_about_46 rfl ?_
          refine Vr.get (pc := 47) d_R_about_47 g_R_63 hR rfl ?_
          refine V.iload_n (pc := 50) d_R_about_50 rfl ?_
          refine Vr.ald (pc := 51) (n := 24) d_R_about_51 hR (by decide) rfl (by first | omega | (simp [up] <;> omega)) ?_
          refine V.callV (pc := 52) d_R_about_52 Y_R_fine l_R_147 wi_R_fine wv_R_fine (ci := 6) rfl rfl [_] hR.o rfl rfl ⟨by repeat (first | exact trivial | refine ⟨(by first | rfl | exact vrf_cat _), ?_⟩), Nat.le_of_ble_eq_true rfl⟩ ⟨⟨rfl, (by first | rfl | exact vrf_cat _), trivial⟩, Nat.le_of_ble_eq_true rfl⟩ (r_fine hR) (fun v hs ho => ?_) (fun E hs ho => by simp at ho)
          obtain ⟨ho, hR⟩ := ho
          cases ho
          refine Vi.ireturn (pc := 55) d_R_about_55 rfl ?_
          unfold z_about
          (repeat' split) <;> first | exact ⟨rfl, hR⟩ | (exfalso; omega)
      · first | refine V.aload_nR (pc := 29) d_R_about_29 rfl ?_ | refine V.aload_n (pc := 29) d_R_about_29 rfl ?_
        first | refine V.aload_nR (pc := 30) d_R_about_30 rfl ?_ | refine V.aload_n (pc := 30) d_R_about_30 rfl ?_
        refine Vr.get (pc := 31) d_R_about_31 g_R_60 hR rfl ?_
        refine V.iload_n (pc := 34) d_R_about_34 rfl ?_
        refine Vr.ald (pc := 35) (n := 24) d_R_about_35 hR (by decide) rfl (by first | omega | (simp [up] <;> omega)) ?_
        refine V.callV (pc := 36) d_R_about_36 Y_R_fine l_R_147 wi_R_fine wv_R_fine (ci := 6) rfl rfl [_] hR.o rfl rfl ⟨by repeat (first | exact trivial | refine ⟨(by first | rfl | exact vrf_cat _), ?_⟩), Nat.le_of_ble_eq_true rfl⟩ ⟨⟨rfl, (by first | rfl | exact vrf_cat _), trivial⟩, Nat.le_of_ble_eq_true rfl⟩ (r_fine hR) (fun v hs ho => ?_) (fun E hs ho => by simp at ho)
        obtain ⟨ho, hR⟩ := ho
        cases ho
        refine Vi.ireturn (pc := 39) d_R_about_39 rfl ?_
        unfold z_about
        (repeat' split) <;> first | exact ⟨rfl, hR⟩ | (exfalso; omega)
    · first | refine V.aload_nR (pc := 19) d_R_about_19 rfl ?_ | refine V.aload_n (pc := 19) d_R_about_19 rfl ?_
      refine Vi.iconst (pc := 20) d_R_about_20 ?_
      refine V.callV (pc := 21) d_R_about_21 Y_R_refuse l_R_143 wi_R_refuse wv_R_refuse (ci := 6) rfl rfl [_] hR.o rfl rfl ⟨by repeat (first | exact trivial | refine ⟨(by first | rfl | exact vrf_cat _), ?_⟩), Nat.le_of_ble_eq_true rfl⟩ ⟨⟨rfl, (by first | rfl | exact vrf_cat _), trivial⟩, Nat.le_of_ble_eq_true rfl⟩ (r_refuse hR) (fun v hs ho => ?_) (fun E hs ho => by simp at ho)
      obtain ⟨ho, hR⟩ := ho
      cases ho
      refine Vi.ireturn (pc := 24) d_R_about_24 rfl ?_
      unfold z_about
      (repeat' split) <;> first | exact ⟨rfl, hR⟩ | (exfalso; omega)
end R3
