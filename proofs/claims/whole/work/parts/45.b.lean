/-! begin -/
section KH
variable {w : jw} {d : Nat} {hs : jh} {am : Nat → Int → Nat} {C S : js} {g : Nat → Option va_E} {b : Nat × Nat}
theorem RF.of (hA : Ag C S) (h6 : A6 C) (hI : Iv S) : RF C := by
  have hC1 := hA.j1
  refine ⟨h6, fun j z1 z2 => ⟨?_, ?_, fun a z3 z4 => ?_⟩⟩
  · rw [hA.a1 16 j (by unfold cm; omega)]
    have := (hI.gd.2.1 j z1 (by omega)).1
    omega
  · have a := (hA.a3 j z1 (by omega)).2.1
    have w1 := (hI.wt j z1 (by omega)).1
    have w3 := (hI.wt j z1 (by omega)).2.2.1
    have hJ := hI.J
    split at a
    · omega
    · have := w3 (by omega)
      omega
  · rw [hA.a1 22 _ (by unfold cm; omega)]
    have := hI.sl j a z1 (by omega) z3 z4
    have hJ := hI.J
    omega
/-- the old addresses are kept -/
def Ex (am am' : Nat → Int → Nat) (J : Int) : Prop := ∀ k i, vd J k i → am' k i = am k i
theorem c_nw_e {pr p s : Int} (hp : p < C 1 0) : (∀ f i, f ≠ 56 → c_nw C pr p s f i = c_new C pr p s f i) ∧ c_nw C pr p s 1 0 = C 1 0 + 1 ∧ (∀ f i, (f = 59 ∨ f = 60 ∨ f = 61) → c_nw C pr p s f i = C f i) := by
  have h1 : ∀ f i, f ≠ 56 → c_nw C pr p s f i = c_new C pr p s f i := fun f i hf => by
    unfold c_nw
    split
    · exact up_f hf
    · rfl
  refine ⟨h1, ?_, fun f i hf => ?_⟩
  · rw [h1 1 0 (by decide)]
    unfold c_new
    rw [if_pos ⟨rfl, rfl⟩]
  · rw [h1 f i (by omega)]
    exact c_new_p (by omega) (by omega) (by omega) (by omega) (by omega)
theorem k_begin {p s pr : Int} {h0s : jh} (hP : PR w am S g b h0s) (hI : Iv S) (hJ : S 1 0 < 24) (hq : 0 ≤ S 7 0 ∧ S 7 0 < 24) (hp : -1 ≤ p ∧ p < S 1 0) : V jcl w m_J_begin (d + 3) 0 [(0, .ref (am 0 0)), (1, va_rf (rj am p)), (2, .int (ii s)), (3, .ref (am 6 pr))] [] h0s (fun o hs' => ∃ am', o = .inl (some (.ref (am' 10 (S 1 0)))) ∧ Ex am am' (S 1 0) ∧ PR w am' (z_begin S pr p s) g b hs') := by
  obtain ⟨C, hC, hA, h6⟩ := hP
  have hC1 := hA.j1
  have hJ0 := hI.J
  have hF := RF.of hA h6 hI
  have hB1 := hA.begin hI (pr := pr) (p := p) (s := s) hp hJ hq
  have hring := hA.ring hq
  obtain ⟨n1, n2, n3⟩ := c_nw_e (C := C) (pr := pr) (p := p) (s := s) (by omega)
  have h62 : A6 (c_begin C pr p s) := A6.ready (fun n => by rw [n3 59 n (by omega), n2]; have := h6 n; omega) (by rw [n2]; omega)
  obtain ⟨a1, a2, a3, a4, a5⟩ := id hC
  have oJ := hC.oJ
  have o2 : h0s.1 (am 2 0) = some (aO w 4 24 (fun n => if (n : Int) < C 1 0 then some (am 10 n) else none)) := a2 2 0 (vdJ (by decide))
  have h02 : am 2 0 ≠ am 0 0 := fun e => by have := (a3 2 0 0 0 (vdJ (by decide)) (vdJ (by decide)) e).1; omega
  refine V.new (pc := 0) (ci := 3) (n := 16) (fs := dB) d_J_begin_0 ⟨_, kT_B, kt_B, rfl, in_B, tok_B, def_B, k_J_16, wk_B.1, wk_B.2⟩ (by omega) (by omega) (fun q hqn => ?_)
  have q0 : am 0 0 ≠ q := fun e => by rw [e, hqn] at oJ; cases oJ
  have q2 : am 2 0 ≠ q := fun e => by rw [e, hqn] at o2; cases o2
  have hs1q : (hup h0s.1 q (.inr (3, dB)), h0s.2.1 - 1, h0s.2.2 - 16).1 q = some (.inr (3, dB)) := hup_s ..
  have hs1o : ∀ a, a ≠ q → (hup h0s.1 q (.inr (3, dB)), h0s.2.1 - 1, h0s.2.2 - 16).1 a = h0s.1 a := fun a ha => hup_n ha
  have hs1c : (hup h0s.1 q (.inr (3, dB)), h0s.2.1 - 1, h0s.2.2 - 16).2.1 + 1 = h0s.2.1 ∧ (hup h0s.1 q (.inr (3, dB)), h0s.2.1 - 1, h0s.2.2 - 16).2.2 + 16 = h0s.2.2 := ⟨by show h0s.2.1 - 1 + 1 = _; omega, by show h0s.2.2 - 16 + 16 = _; omega⟩
  generalize (hup h0s.1 q (.inr (3, dB)), h0s.2.1 - 1, h0s.2.2 - 16) = hs1 at hs1q hs1o hs1c ⊢
  refine V.dup (pc := 3) d_J_begin_3 (by first | rfl | exact vrf_cat _) ?_
  first | refine V.aload_nR (pc := 4) d_J_begin_4 rfl ?_ | refine V.aload_n (pc := 4) d_J_begin_4 rfl ?_
  refine V.get (pc := 5) d_J_begin_5 g_J_57 (by rw [hs1o _ q0]; exact oJ) rfl ?_
  first | refine V.aload_nR (pc := 8) d_J_begin_8 rfl ?_ | refine V.aload_n (pc := 8) d_J_begin_8 rfl ?_
  refine V.iload_n (pc := 9) d_J_begin_9 rfl ?_
  first | refine V.aload_nR (pc := 10) d_J_begin_10 rfl ?_ | refine V.aload_n (pc := 10) d_J_begin_10 rfl ?_
  refine V.callI (pc := 11) d_J_begin_11 Y_B_init I_B_init l_J_151 wi_B_init [_, _, _, _] rfl rfl ⟨by repeat (first | exact trivial | refine ⟨(by first | rfl | exact vrf_cat _), ?_⟩), Nat.le_of_ble_eq_true rfl⟩ ⟨⟨rfl, (by first | rfl | exact vrf_cat _), (by first | rfl | exact vrf_cat _), (by first | rfl | exact vrf_cat _), (by first | rfl | exact vrf_cat _), trivial⟩, Nat.le_of_ble_eq_true rfl⟩ (c_Binit (d := d) (num := C 1 0) (s := s) (par := rj am p) (pr := am 6 pr) a5 (by omega) hs1q) (fun v hs ho => ?_) (fun E hs ho => by simp at ho)
  obtain ⟨ad, ho, hB⟩ := ho
  cases ho
  obtain ⟨b1, b2, b3, b4, b5, b6⟩ := hB
  have s0 : hs.1 (am 0 0) = some (.inr (0, cJ C am)) := by rw [b4 _ (by rw [hs1o _ q0, oJ]; simp) q0, hs1o _ q0]; exact oJ
  have s2 : hs.1 (am 2 0) = some (aO w 4 24 (fun n => if (n : Int) < C 1 0 then some (am 10 n) else none)) := by rw [b4 _ (by rw [hs1o _ q2, o2]; simp) q2, hs1o _ q2]; exact o2
  have hcl := ii_clampI (i := C 1 0) (by omega) (by omega)
  have hcl2 : (ii (C 1 0)).toNatClampNeg = (C 1 0).toNat := by omega
  first | refine V.astoreR (pc := 14) d_J_begin_14 (by decide) ?_ | refine V.astore (pc := 14) d_J_begin_14 (by decide) ?_
  first | refine V.aload_nR (pc := 16) d_J_begin_16 rfl ?_ | refine V.aload_n (pc := 16) d_J_begin_16 rfl ?_
  refine V.get (pc := 17) d_J_begin_17 g_J_18 s0 rfl ?_
  first | refine V.aload_nR (pc := 20) d_J_begin_20 rfl ?_ | refine V.aload_n (pc := 20) d_J_begin_20 rfl ?_
  refine V.get (pc := 21) d_J_begin_21 g_J_57 s0 rfl ?_
  first | refine V.aloadR (pc := 24) d_J_begin_24 rfl ?_ | refine V.aload (pc := 24) d_J_begin_24 rfl ?_
  refine V.aast (pc := 26) (t0 := 4) (r := ("JobRuntime$Job", kT_B, 16)) d_J_begin_26 s2 a5.2.2.2.2.1 b1 rfl (ii_in (by omega) (by omega) (by decide)) ?_
  rw [hcl2]
  have t2 : (hup hs.1 (am 2 0) (.inl (jcA w 4, 24, .inr (.inr (.inr (.inr (va_up (fun n => if (n : Int) < C 1 0 then some (am 10 n) else none) (C 1 0).toNat (some q))))))), hs.2).1 (am 2 0) = some (aO w 4 24 (va_up (fun n => if (n : Int) < C 1 0 then some (am 10 n) else none) (C 1 0).toNat (some q))) := hup_s ..
  have to : ∀ a, a ≠ am 2 0 → (hup hs.1 (am 2 0) (.inl (jcA w 4, 24, .inr (.inr (.inr (.inr (va_up (fun n => if (n : Int) < C 1 0 then some (am 10 n) else none) (C 1 0).toNat (some q))))))), hs.2).1 a = hs.1 a := fun a ha => hup_n ha
  have tc : (hup hs.1 (am 2 0) (.inl (jcA w 4, 24, .inr (.inr (.inr (.inr (va_up (fun n => if (n : Int) < C 1 0 then some (am 10 n) else none) (C 1 0).toNat (some q))))))), hs.2).2 = hs.2 := rfl
  generalize (hup hs.1 (am 2 0) (.inl (jcA w 4, 24, .inr (.inr (.inr (.inr (va_up (fun n => if (n : Int) < C 1 0 then some (am 10 n) else none) (C 1 0).toNat (some q))))))), hs.2) = hs3 at t2 to tc ⊢
  have t0 : hs3.1 (am 0 0) = some (.inr (0, cJ C am)) := by rw [to _ (fun e => h02 e.symm)]; exact s0
  first | refine V.aload_nR (pc := 27) d_J_begin_27 rfl ?_ | refine V.aload_n (pc := 27) d_J_begin_27 rfl ?_
  refine V.dup (pc := 28) d_J_begin_28 (by first | rfl | exact vrf_cat _) ?_
  refine V.get (pc := 29) d_J_begin_29 g_J_57 t0 rfl ?_
  refine Vi.iconst (pc := 32) d_J_begin_32 ?_
  refine Vi.iadd (pc := 33) d_J_begin_33 ?_
  refine V.put (pc := 34) d_J_begin_34 f_J_57 t0 rfl rfl (by simp [cJ]) ?_
  have ecJ : (cJ C am).set 4 (.int (ii (C 1 0 + 1))) = cJ (c_new C pr p s) am := by
    have e1 : c_new C pr p s 1 0 = C 1 0 + 1 := by unfold c_new; rw [if_pos ⟨rfl, rfl⟩]
    simp only [cJ]
    rw [e1, c_new_p (f := 57) (by decide) (by decide) (by decide) (by decide) (by decide), c_new_p (f := 3) (by decide) (by decide) (by decide) (by decide) (by decide), c_new_p (f := 2) (by decide) (by decide) (by decide) (by decide) (by decide), c_new_p (f := 4) (by decide) (by decide) (by decide) (by decide) (by decide), c_new_p (f := 5) (by decide) (by decide) (by decide) (by decide) (by decide), c_new_p (f := 58) (by decide) (by decide) (by decide) (by decide) (by decide)]
    rfl
  rw [ecJ]
  have u0 : (hup hs3.1 (am 0 0) (.inr (0, cJ (c_new C pr p s) am)), hs3.2).1 (am 0 0) = some (.inr (0, cJ (c_new C pr p s) am)) := hup_s ..
  have uo : ∀ a, a ≠ am 0 0 → (hup hs3.1 (am 0 0) (.inr (0, cJ (c_new C pr p s) am)), hs3.2).1 a = hs3.1 a := fun a ha => hup_n ha
  have uc : (hup hs3.1 (am 0 0) (.inr (0, cJ (c_new C pr p s) am)), hs3.2).2 = hs3.2 := rfl
  generalize (hup hs3.1 (am 0 0) (.inr (0, cJ (c_new C pr p s) am)), hs3.2) = hs4 at u0 uo uc ⊢
  have nad : ∀ i, i < 10 → ad i ≠ am 0 0 ∧ ad i ≠ am 2 0 ∧ h0s.1 (ad i) = none := fun i hi => by
    obtain ⟨y1, y2, y3⟩ := b2 i hi
    have y4 : h0s.1 (ad i) = none := by rw [← hs1o _ y3]; exact y2
    exact ⟨fun e => (by rw [e, oJ] at y4; cases y4), fun e => (by rw [e, o2] at y4; cases y4), y4⟩
  obtain ⟨am', hC, e10, hEx⟩ : ∃ am', RepC w am' (c_new C pr p s) g b hs4 ∧ am' 10 (C 1 0) = q ∧ Ex am am' (C 1 0) := by
    refine ⟨am2 am (C 1 0) q ad, hC.new hF (by omega) (by omega) hqn u0 (by rw [uo _ h02]; exact t2) (by rw [uo _ (fun e => q0 e.symm), to _ (fun e => q2 e.symm)]; exact b1) (fun i hi => ?_) b3 (fun a ha h1 h2 => ?_) ?_, by simp [am2], fun k i hv => am2_o hv⟩
    · have y := nad i hi
      exact ⟨by rw [uo _ y.1, to _ y.2.1]; exact (b2 i hi).1, y.2.2, (b2 i hi).2.2⟩
    · have hqa : a ≠ q := fun e => ha (by rw [e]; exact hqn)
      rw [uo _ h1, to _ h2, b4 _ (by rw [hs1o _ hqa]; exact ha) hqa, hs1o _ hqa]
    · rw [uc, tc]
      omega
  subst e10
  have e0 : am' 0 0 = am 0 0 := hEx 0 0 (vdJ (by decide))
  have erj : rj am p = rj am' p := by
    unfold rj
    split
    · rfl
    · rw [hEx 10 p (vdB (by decide) (by omega))]
  have m1 : c_new C pr p s 1 0 = C 1 0 + 1 := by unfold c_new; rw [if_pos ⟨rfl, rfl⟩]
  have m56 : 0 ≤ p → c_new C pr p s 56 p = C 56 p := fun z => c_new_o (by decide) (by omega) (by omega) (by omega)
  rw [← e0, erj]
  have fin : ∀ hs, RepC w am' (c_nw C pr p s) g b hs → V jcl w m_J_begin (d + 3) 51 [(0, .ref (am' 0 0)), (4, .ref (am' 10 (C 1 0)))] [] hs (fun o hs' => ∃ am', o = .inl (some (.ref (am' 10 (S 1 0)))) ∧ Ex am am' (S 1 0) ∧ PR w am' (z_begin S pr p s) g b hs') := by
    intro hs hC
    have r60 := n3 60 0 (by omega)
    have r61 := n3 61 0 (by omega)
    have h1 : c_begin C pr p s = c_ready (c_nw C pr p s) (C 1 0) (-1) := rfl
    generalize c_nw C pr p s = D at hC n2 r60 r61 h1
    first | refine V.aload_nR (pc := 51) d_J_begin_51 rfl ?_ | refine V.aload_n (pc := 51) d_J_begin_51 rfl ?_
    first | refine V.aloadR (pc := 52) d_J_begin_52 rfl ?_ | refine V.aload (pc := 52) d_J_begin_52 rfl ?_
    refine Vi.iconst (pc := 54) d_J_begin_54 ?_
    refine V.callV (pc := 55) d_J_begin_55 Y_J_makeReady l_J_154 wi_J_makeReady wv_J_makeReady (ci := 0) rfl rfl [_, _] hC.oJ rfl rfl ⟨by repeat (first | exact trivial | refine ⟨(by first | rfl | exact vrf_cat _), ?_⟩), Nat.le_of_ble_eq_true rfl⟩ ⟨⟨rfl, (by first | rfl | exact vrf_cat _), (by first | rfl | exact vrf_cat _), trivial⟩, Nat.le_of_ble_eq_true rfl⟩ (c_makeReady hC (by omega) (by omega)) (fun v hs ho => ?_) (fun E hs ho => by simp at ho)
    obtain ⟨ho, hC⟩ := ho
    cases ho
    first | refine V.aloadR (pc := 58) d_J_begin_58 rfl ?_ | refine V.aload (pc := 58) d_J_begin_58 rfl ?_
    first | refine Vc.areturnR (pc := 60) d_J_begin_60 rfl ?_ | refine V.areturn (pc := 60) d_J_begin_60 rfl ?_
    rw [hC1] at hEx
    refine ⟨am', by rw [← hC1], hEx, ⟨_, hC, ?_, ?_⟩⟩
    · rw [← h1]; exact hB1
    · rw [← h1]; exact h62
  first | refine V.aload_nR (pc := 37) d_J_begin_37 rfl ?_ | refine V.aload_n (pc := 37) d_J_begin_37 rfl ?_
  refine Vc.ifnull (pc := 38) (tgt := 51) d_J_begin_38 (by decide) (fun c_38 => ?_) (fun c_38 => ?_)
  · have e : c_nw C pr p s = c_new C pr p s := by unfold c_nw; rw [if_neg (by omega)]
    exact V.lop (fin _ (by rw [e]; exact hC)) ⟨rfl, rfl, trivial⟩
  · have e : c_nw C pr p s = up (c_new C pr p s) 56 p (C 56 p + 1) := by unfold c_nw; rw [if_pos c_38]
    have hp2 : 0 ≤ p ∧ p < c_new C pr p s 1 0 := by omega
    rw [rj_pos c_38]
    first | refine V.aload_nR (pc := 41) d_J_begin_41 rfl ?_ | refine V.aload_n (pc := 41) d_J_begin_41 rfl ?_
    refine V.dup (pc := 42) d_J_begin_42 (by first | rfl | exact vrf_cat _) ?_
    refine Vc.get_B (pc := 43) d_J_begin_43 g_J_126 hC (by first | assumption | omega | (simp [up, up_f] <;> omega)) rfl ?_
    rw [m56 c_38]
    refine Vi.iconst (pc := 46) d_J_begin_46 ?_
    refine Vi.iadd (pc := 47) d_J_begin_47 ?_
    refine Vc.put_B11 (pc := 48) d_J_begin_48 f_J_126 hC (by first | assumption | omega | (simp [up, up_f] <;> omega)) (fun hs hC => ?_)
    exact V.lop (fin _ (by rw [e]; exact hC)) ⟨rfl, rfl, trivial⟩
end KH
