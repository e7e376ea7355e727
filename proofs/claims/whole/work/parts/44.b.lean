/-! the Job's constructor; begin -/
section KF
variable {w : jw} {M : jm} {d pc : Nat} {L : List (Nat × Value)} {st : List Value} {hs hs0 : jh} {Q : jo → jh → Prop} {am : Nat → Int → Nat} {C S : js} {g : Nat → Option va_E} {b : Nat × Nat} {q n u : Nat} {ct : Nat → va_E} {ad : Nat → Nat} {e : va_E}
theorem Vb.putF {idx k : Nat} {fs : List Value} {v : Value} {ty : FieldType} (hdg : decode M.2.2.1 pc = .ok (.putfield idx, 3)) (hF : jF jcl M.1 idx 3 k true ty) (hM : M.2.1 = "<init>") (hB : Bl hs0 q ct ad n (.inr (3, fs)) u hs) (hn : narrow ty v = v) (hfit : fits ty v = true) (hlen : k < fs.length) (kk : ∀ hs', Bl hs0 q ct ad n (.inr (3, fs.set k v)) u hs' → V jcl w M d (pc + 3) L st hs' Q) : V jcl w M d pc L (v :: .ref q :: st) hs Q := V.putF hdg hF hM hB.1 hn hfit hlen (kk _ (hB.pq _))
theorem Vb.put {idx k : Nat} {fs : List Value} {v : Value} {ty : FieldType} (hdg : decode M.2.2.1 pc = .ok (.putfield idx, 3)) (hF : jF jcl M.1 idx 3 k false ty) (hB : Bl hs0 q ct ad n (.inr (3, fs)) u hs) (hn : narrow ty v = v) (hfit : fits ty v = true) (hlen : k < fs.length) (kk : ∀ hs', Bl hs0 q ct ad n (.inr (3, fs.set k v)) u hs' → V jcl w M d (pc + 3) L st hs' Q) : V jcl w M d pc L (v :: .ref q :: st) hs Q := V.put hdg hF hB.1 hn hfit hlen (kk _ (hB.pq _))
theorem Vb.anew {idx t0 : Nat} {cA : ClassId} {Cn : String} {nn : Int32} {N : Nat} (hdg : decode M.2.2.1 pc = .ok (.anewarray idx, 3)) (w1 : Cond.classLink M.1 idx Cn ∈ lw_tbl) (w2 : Cond.arrayOver (.object Cn) ∈ lw_tbl) (ht : (jty w)[t0]? = some (cA, .object Cn)) (hn : ¬ nn < 0) (hN : nn.toNatClampNeg = N) (hbytes : N * 4 ≤ 536870912) (hB : Bl hs0 q ct ad n e u hs) (hr : n + 1 ≤ hs0.2.1 ∧ u + N ≤ hs0.2.2)
    (kk : ∀ (r : Nat) (hs' : jh), Bl hs0 q (fun k => if k = n then .inl (cA, N, .inr (.inr (.inr (.inr (fun _ => none))))) else ct k) (fun k => if k = n then r else ad k) (n + 1) e (u + N) hs' → V jcl w M d (pc + 3) L (.ref r :: st) hs' Q) : V jcl w M d pc L (.int nn :: st) hs Q :=
  V.anew hdg w1 w2 ht hn hN hbytes (by have := hB.2.2.2.2.1; omega) (by have := hB.2.2.2.2.2; omega) (fun r h => kk r _ (hB.new h (by have := hB.2.2.2.2.1; omega) (by have := hB.2.2.2.2.2; omega) _))
def ctF (w : jw) (pr : Nat) (ad : Nat → Nat) (i : Nat) : Nat → va_E := fun k => if k = 0 then aO w 4 3 (fun _ => none) else if k = 1 then aO w 5 6 (fun n => if n < i then some (ad (2 + n)) else none) else eF pr
theorem def_F : ∀ j, j < 5 → defaultValue (kt_F j) = vp_V [.int 0, .null, .int 0, .null, .int 0] j := fun j hj => by
  have : j = 0 ∨ j = 1 ∨ j = 2 ∨ j = 3 ∨ j = 4 := by omega
  rcases this with rfl | rfl | rfl | rfl | rfl <;> rfl
theorem def_T : ∀ j, j < 2 → defaultValue (kt_T j) = vp_V [.int 0, .int 0] j := fun j hj => by
  have : j = 0 ∨ j = 1 := by omega
  rcases this with rfl | rfl <;> rfl
theorem def_B : ∀ j, j < 16 → defaultValue (kt_B j) = vp_V dB j := fun j hj => by
  have : j = 0 ∨ j = 1 ∨ j = 2 ∨ j = 3 ∨ j = 4 ∨ j = 5 ∨ j = 6 ∨ j = 7 ∨ j = 8 ∨ j = 9 ∨ j = 10 ∨ j = 11 ∨ j = 12 ∨ j = 13 ∨ j = 14 ∨ j = 15 := by omega
  rcases this with rfl | rfl | rfl | rfl | rfl | rfl | rfl | rfl | rfl | rfl | rfl | rfl | rfl | rfl | rfl | rfl <;> rfl
/-- the frames are made -/
theorem c_fl {fs : List Value} {pr : Nat} {num s : Int} {par : Value} (hw : jWf w) (h0 : 10 ≤ hs0.2.1 ∧ 43 ≤ hs0.2.2) : ∀ (m i : Nat) (ad : Nat → Nat) (hs : jh), i + m = 6 → fs[4]? = some (.ref (ad 1)) → Bl hs0 q (ctF w pr ad i) ad (2 + i) (.inr (3, fs)) (9 + 5 * i) hs →
    (∀ (ad' : Nat → Nat) (hs' : jh), ad' 0 = ad 0 → ad' 1 = ad 1 → Bl hs0 q (ctF w pr ad' 6) ad' 8 (.inr (3, fs)) 39 hs' → V jcl w m_B_init (d + 2) 68 [(0, .ref q)] [] hs' Q) →
    V jcl w m_B_init (d + 2) 39 [(0, .ref q), (4, .ref pr), (5, .int (ii i))] [] hs Q := by
  intro m
  induction m with
  | zero =>
    intro i ad hs hi h4 hB kk
    have hi6 : i = 6 := by omega
    subst hi6
    refine V.iload (pc := 39) d_B_init_39 rfl ?_
    refine Vi.bipush (pc := 41) d_B_init_41 (by decide) ?_
    refine Vi.icmp_ge (pc := 43) (tgt := 68) d_B_init_43 (by decide) (by decide) (by decide) (fun c_43 => ?_) (fun c_43 => ?_)
    · exact V.lop (kk ad hs rfl rfl hB) ⟨rfl, trivial⟩
    · exact absurd c_43 (by decide)
  | succ m ih =>
    intro i ad hs hi h4 hB kk
    have b5 := hB.2.2.2.2.1
    have b6 := hB.2.2.2.2.2
    refine V.iload (pc := 39) d_B_init_39 rfl ?_
    refine Vi.bipush (pc := 41) d_B_init_41 (by decide) ?_
    refine Vi.icmp_ge (pc := 43) (tgt := 68) d_B_init_43 (by decide) (by omega) (by decide) (fun c_43 => ?_) (fun c_43 => ?_)
    · omega
    · first | refine V.aload_nR (pc := 46) d_B_init_46 rfl ?_ | refine V.aload_n (pc := 46) d_B_init_46 rfl ?_
      refine V.get (pc := 47) d_B_init_47 g_B_28 hB.1 h4 ?_
      refine V.iload (pc := 50) d_B_init_50 rfl ?_
      refine V.new (pc := 52) (ci := 4) (n := 5) (fs := [.int 0, .null, .int 0, .null, .int 0]) d_B_init_52 ⟨_, kT_F, kt_F, rfl, in_F, tok_F, def_F, k_B_26, wk_F.1, wk_F.2⟩ (by omega) (by omega) (fun r hr => ?_)
      have hB1 := hB.new (m := 5) hr (by omega) (by omega) (.inr (4, [.int 0, .null, .int 0, .null, .int 0]))
      generalize hg : (hup hs.1 r (.inr (4, [.int 0, .null, .int 0, .null, .int 0])), hs.2.1 - 1, hs.2.2 - 5) = hs1 at hB1 ⊢
      have hr1 : hs1.1 r = some (.inr (4, [.int 0, .null, .int 0, .null, .int 0])) := by rw [← hg]; exact hup_s ..
      clear hg
      have ar : (if 2 + i = 2 + i then r else ad (2 + i)) = r := if_pos rfl
      refine V.dup (pc := 55) d_B_init_55 (by first | rfl | exact vrf_cat _) ?_
      first | refine V.aloadR (pc := 56) d_B_init_56 rfl ?_ | refine V.aload (pc := 56) d_B_init_56 rfl ?_
      refine V.callI (pc := 58) d_B_init_58 Y_F_init I_F_init l_B_32 wi_F_init [_] rfl rfl ⟨by repeat (first | exact trivial | refine ⟨(by first | rfl | exact vrf_cat _), ?_⟩), Nat.le_of_ble_eq_true rfl⟩ ⟨⟨rfl, (by first | rfl | exact vrf_cat _), trivial⟩, Nat.le_of_ble_eq_true rfl⟩ (c_Finit (d := d) hr1) (fun v hs ho => ?_) (fun E hs ho => by simp at ho)
      obtain ⟨ho, rfl⟩ := ho
      cases ho
      have hB2 := hB1.i (i := 2 + i) (by omega) (eF pr)
      rw [ar] at hB2
      generalize hg : (hup hs1.1 r (eF pr), hs1.2) = hs2 at hB2 ⊢
      have hr2 : hs2.1 r = some (eF pr) := by rw [← hg]; exact hup_s ..
      clear hg
      have h1 := (hB2.2.1 1 (by omega)).1
      have a1 : (if 1 = 2 + i then r else ad 1) = ad 1 := if_neg (by omega)
      have z12 : ¬ (1 = 2 + i) := by omega
      have c1 : ctF w pr ad i 1 = .inl (jcA w 5, 6, .inr (.inr (.inr (.inr (fun n => if n < i then some (ad (2 + n)) else none))))) := rfl
      simp only [if_neg z12] at h1
      rw [c1] at h1
      have hcl := ii_clampI (i := (i : Int)) (by omega) (by omega)
      have hcl2 : (ii (i : Int)).toNatClampNeg = i := by omega
      refine V.aast (pc := 61) (t0 := 5) (r := ("JobRuntime$Frame", kT_F, 5)) d_B_init_61 h1 hw.2.2.2.2.2 hr2 rfl (ii_in (by omega) (by omega) (by decide)) ?_
      have hB3 := hB2.i (i := 1) (by omega) (.inl (jcA w 5, 6, .inr (.inr (.inr (.inr (va_up (fun n => if n < i then some (ad (2 + n)) else none) (ii (i : Int)).toNatClampNeg (some r)))))))
      rw [a1] at hB3
      generalize (hup hs2.1 (ad 1) (.inl (jcA w 5, 6, .inr (.inr (.inr (.inr (va_up (fun n => if n < i then some (ad (2 + n)) else none) (ii (i : Int)).toNatClampNeg (some r))))))), hs2.2) = hs3 at hB3 ⊢
      have hB4 : Bl hs0 q (ctF w pr (fun k => if k = 2 + i then r else ad k) (i + 1)) (fun k => if k = 2 + i then r else ad k) (2 + (i + 1)) (.inr (3, fs)) (9 + 5 * (i + 1)) hs3 := by
        refine Bl.cg hB3 (fun k hk => ?_) (fun k _ => rfl)
        by_cases k0 : k = 0
        · subst k0
          have z : ¬ (0 = 2 + i) := by omega
          simp [ctF, z]
        · by_cases k1 : k = 1
          · subst k1
            simp only [ctF]
            simp
            show aO w 5 6 _ = aO w 5 6 _
            congr 1
            funext x
            rw [hcl2]
            by_cases hx : x = i
            · subst hx
              simp [va_up]
            · simp only [va_up, if_neg hx]
              by_cases hxi : x < i
              · have y1 : x < i + 1 := by omega
                have y2 : ¬ (2 + x = 2 + i) := by omega
                simp [hxi, y1, hx]
              · have y1 : ¬ x < i + 1 := by omega
                simp [hxi, y1]
          · by_cases k2 : k = 2 + i
            · subst k2
              have z0 : ¬ (2 + i = 0) := by omega
              have z1 : ¬ (2 + i = 1) := by omega
              simp [ctF, z0, z1]
            · simp [ctF, k0, k1, k2]
      refine Vi.iinc (pc := 62) d_B_init_62 rfl (by decide) ?_
      refine V.goto (pc := 65) (tgt := 39) d_B_init_65 (by decide) ?_
      refine V.lop (ih (i + 1) (fun k => if k = 2 + i then r else ad k) hs3 (by omega) (by rw [a1]; exact h4) hB4 (fun ad' hs' e0 e1 hB' => kk ad' hs' (by rw [e0]; exact if_neg (by omega)) (by rw [e1]; exact a1) hB')) ⟨rfl, rfl, ?_, trivial⟩
      rw [show ((i + 1 : Nat) : Int) = (i : Int) + 1 by omega]
      rfl
theorem c_Binit {num s : Int} {par : Option Nat} {pr : Nat} (hw : jWf w) (h0 : 10 ≤ hs0.2.1 ∧ 43 ≤ hs0.2.2) (hq : hs0.1 q = some (.inr (3, dB))) : V jcl w m_B_init (d + 2) 0 [(0, .ref q), (1, .int (ii num)), (2, va_rf par), (3, .int (ii s)), (4, .ref pr)] [] hs0 (fun o hs' => ∃ ad, o = .inl none ∧ Bl hs0 q (ctX w pr ad) ad 10 (eX num par s ad) 43 hs') := by
  have hB : Bl hs0 q (fun _ => eT) (fun _ => 0) 0 (.inr (3, dB)) 0 hs0 := Bl.zero hq
  have hpn : narrow (kt_B 1) (va_rf par) = va_rf par := by cases par <;> rfl
  have hpf : fits (kt_B 1) (va_rf par) = true := by cases par <;> rfl
  refine V.aload_nR (pc := 0) d_B_init_0 rfl ?_
  refine V.objInit (pc := 1) d_B_init_1 l_B_3 w_oi.1 w_oi.2 (Nat.le_of_ble_eq_true rfl) (by omega) ?_
  refine V.aload_nR (pc := 4) d_B_init_4 rfl ?_
  refine V.iload_n (pc := 5) d_B_init_5 rfl ?_
  refine Vb.putF (pc := 6) d_B_init_6 f_B_9 rfl hB rfl rfl (by decide) (fun hs hB => ?_)
  refine V.aload_nR (pc := 9) d_B_init_9 rfl ?_
  refine V.aload_n (pc := 10) d_B_init_10 rfl ?_
  refine Vb.putF (pc := 11) d_B_init_11 f_B_15 rfl hB hpn hpf (by simp [dB]) (fun hs hB => ?_)
  refine V.aload_nR (pc := 14) d_B_init_14 rfl ?_
  refine V.iload_n (pc := 15) d_B_init_15 rfl ?_
  refine Vb.putF (pc := 16) d_B_init_16 f_B_19 rfl hB rfl rfl (by simp [dB]) (fun hs hB => ?_)
  refine V.aload_nR (pc := 19) d_B_init_19 rfl ?_
  refine Vi.iconst (pc := 20) d_B_init_20 ?_
  refine Vb.anew (pc := 21) (t0 := 4) (N := 3) d_B_init_21 k_B_10 w_o_B hw.2.2.2.2.1 (by decide) (by decide) (by decide) hB (by omega) (fun r0 hs hB => ?_)
  refine Vb.putF (pc := 24) d_B_init_24 f_B_22 rfl hB rfl rfl (by simp [dB]) (fun hs hB => ?_)
  refine V.aload_nR (pc := 27) d_B_init_27 rfl ?_
  refine Vi.bipush (pc := 28) d_B_init_28 (by decide) ?_
  refine Vb.anew (pc := 30) (t0 := 5) (N := 6) d_B_init_30 k_B_26 w_o_F hw.2.2.2.2.2 (by decide) (by decide) (by decide) hB (by omega) (fun r1 hs hB => ?_)
  refine Vb.putF (pc := 33) d_B_init_33 f_B_28 rfl hB rfl rfl (by simp [dB]) (fun hs hB => ?_)
  refine Vi.iconst (pc := 36) d_B_init_36 ?_
  refine V.istore (pc := 37) d_B_init_37 (by decide) ?_
  have hB1 : Bl hs0 q (ctF w pr (fun k => if k = 1 then r1 else if k = 0 then r0 else 0) 0) (fun k => if k = 1 then r1 else if k = 0 then r0 else 0) (2 + 0) _ (9 + 5 * 0) hs := Bl.cg hB (fun k hk => by
    have : k = 0 ∨ k = 1 := by omega
    rcases this with rfl | rfl
    · simp [ctF, aO]
    · simp [ctF, aO]) (fun k hk => by
    have : k = 0 ∨ k = 1 := by omega
    rcases this with rfl | rfl <;> simp)
  refine V.lop (c_fl (d := d) (num := num) (s := s) (par := .null) hw h0 6 0 _ hs rfl (by simp [dB]) hB1 (fun ad hs e0 e1 hB => ?_)) ⟨rfl, rfl, rfl, trivial⟩
  simp only [if_true] at e1
  have e0 : ad 0 = r0 := by rw [e0]; simp
  have b5 := hB.2.2.2.2.1
  have b6 := hB.2.2.2.2.2
  refine V.aload_nR (pc := 68) d_B_init_68 rfl ?_
  refine V.new (pc := 69) (ci := 5) (n := 2) (fs := [.int 0, .int 0]) d_B_init_69 ⟨_, kT_T, kt_T, rfl, in_T, tok_T, def_T, k_B_35, wk_T.1, wk_T.2⟩ (by omega) (by omega) (fun r2 hr2 => ?_)
  have hB2 := hB.new (m := 2) hr2 (by omega) (by omega) (.inr (5, [.int 0, .int 0]))
  generalize hg : (hup hs.1 r2 (.inr (5, [.int 0, .int 0])), hs.2.1 - 1, hs.2.2 - 2) = hs at hB2 ⊢
  have hr3 : hs.1 r2 = some (.inr (5, [.int 0, .int 0])) := by rw [← hg]; exact hup_s ..
  clear hg
  refine V.dup (pc := 72) d_B_init_72 (by first | rfl | exact vrf_cat _) ?_
  refine V.callI (pc := 73) d_B_init_73 Y_T_init I_T_init l_B_37 wi_T_init [] rfl rfl ⟨by repeat (first | exact trivial | refine ⟨(by first | rfl | exact vrf_cat _), ?_⟩), Nat.le_of_ble_eq_true rfl⟩ ⟨⟨rfl, trivial⟩, Nat.le_of_ble_eq_true rfl⟩ (c_Tinit (d := d) hr3) (fun v hs ho => ?_) (fun E hs ho => by simp at ho)
  obtain ⟨ho, rfl⟩ := ho
  cases ho
  have hB3 := hB2.i (i := 8) (by omega) eT
  have a8 : (if 8 = 8 then r2 else ad 8) = r2 := if_pos rfl
  rw [a8] at hB3
  generalize (hup hs.1 r2 eT, hs.2) = hs at hB3 ⊢
  refine Vb.putF (pc := 76) d_B_init_76 f_B_38 rfl hB3 rfl rfl (by simp [dB]) (fun hs hB4 => ?_)
  have b5 := hB4.2.2.2.2.1
  have b6 := hB4.2.2.2.2.2
  refine V.aload_nR (pc := 79) d_B_init_79 rfl ?_
  refine V.new (pc := 80) (ci := 5) (n := 2) (fs := [.int 0, .int 0]) d_B_init_80 ⟨_, kT_T, kt_T, rfl, in_T, tok_T, def_T, k_B_35, wk_T.1, wk_T.2⟩ (by omega) (by omega) (fun r3 hr4 => ?_)
  have hB5 := hB4.new (m := 2) hr4 (by omega) (by omega) (.inr (5, [.int 0, .int 0]))
  generalize hg : (hup hs.1 r3 (.inr (5, [.int 0, .int 0])), hs.2.1 - 1, hs.2.2 - 2) = hs at hB5 ⊢
  have hr5 : hs.1 r3 = some (.inr (5, [.int 0, .int 0])) := by rw [← hg]; exact hup_s ..
  clear hg
  refine V.dup (pc := 83) d_B_init_83 (by first | rfl | exact vrf_cat _) ?_
  refine V.callI (pc := 84) d_B_init_84 Y_T_init I_T_init l_B_37 wi_T_init [] rfl rfl ⟨by repeat (first | exact trivial | refine ⟨(by first | rfl | exact vrf_cat _), ?_⟩), Nat.le_of_ble_eq_true rfl⟩ ⟨⟨rfl, trivial⟩, Nat.le_of_ble_eq_true rfl⟩ (c_Tinit (d := d) hr5) (fun v hs ho => ?_) (fun E hs ho => by simp at ho)
  obtain ⟨ho, rfl⟩ := ho
  cases ho
  have hB6 := hB5.i (i := 9) (by omega) eT
  have a9 : (if 9 = 9 then r3 else if 9 = 8 then r2 else ad 9) = r3 := if_pos rfl
  rw [a9] at hB6
  generalize (hup hs.1 r3 eT, hs.2) = hs at hB6 ⊢
  refine Vb.putF (pc := 87) d_B_init_87 f_B_42 rfl hB6 rfl rfl (by simp [dB]) (fun hs hB7 => ?_)
  refine V.aload_nR (pc := 90) d_B_init_90 rfl ?_
  refine Vi.iconst (pc := 91) d_B_init_91 ?_
  refine Vb.put (pc := 92) d_B_init_92 f_B_45 hB7 rfl rfl (by simp [dB]) (fun hs hB8 => ?_)
  refine V.aload_nR (pc := 95) d_B_init_95 rfl ?_
  refine Vi.iconst (pc := 96) d_B_init_96 ?_
  refine Vb.put (pc := 97) d_B_init_97 f_B_48 hB8 rfl rfl (by simp [dB]) (fun hs hB9 => ?_)
  refine V.aload_nR (pc := 100) d_B_init_100 rfl ?_
  refine Vi.iconst (pc := 101) d_B_init_101 ?_
  refine Vb.put (pc := 102) d_B_init_102 f_B_51 hB9 rfl rfl (by simp [dB]) (fun hs hB10 => ?_)
  refine V.aload_nR (pc := 105) d_B_init_105 rfl ?_
  refine Vi.iconst (pc := 106) d_B_init_106 ?_
  refine Vb.put (pc := 107) d_B_init_107 f_B_54 hB10 rfl rfl (by simp [dB]) (fun hs hB11 => ?_)
  refine V.return_ (pc := 110) d_B_init_110 rfl ?_
  refine ⟨fun k => if k = 9 then r3 else (fun k => if k = 8 then r2 else ad k) k, rfl, ?_⟩
  have hB12 := Bl.cg hB11 (ct' := ctX w pr (fun k => if k = 9 then r3 else (fun k => if k = 8 then r2 else ad k) k)) (ad' := fun k => if k = 9 then r3 else (fun k => if k = 8 then r2 else ad k) k) (fun k hk => by
    by_cases k9 : k = 9
    · subst k9; simp [ctX]
    · by_cases k8 : k = 8
      · subst k8; simp [ctX]
      · have hk8 : k < 8 := by omega
        simp only [ctX, if_neg k9, if_neg k8, if_pos hk8, ctF]
        by_cases k0 : k = 0
        · simp [k0]
        · simp only [if_neg k0]
          by_cases k1 : k = 1
          · simp only [if_pos k1]
            show aO w 5 6 _ = aO w 5 6 _
            congr 1
            funext x
            by_cases hx : x < 6
            · have y1 : ¬ (2 + x = 9) := by omega
              have y2 : ¬ (2 + x = 8) := by omega
              simp [hx, y1, y2]
            · simp [hx]
          · simp only [if_neg k1]) (fun k _ => rfl)
  have ee : eX num par s (fun k => if k = 9 then r3 else (fun k => if k = 8 then r2 else ad k) k) = .inr (3, _) := rfl
  rw [ee]
  simpa [dB, e0, e1, ii, va_rf] using hB12
end KF
