/-! the class's constructor -/
section KP
variable {w : jw} {M : jm} {d pc : Nat} {L : List (Nat × Value)} {st : List Value} {hs hs0 hs1 hs2 : jh} {Q : jo → jh → Prop} {q n u m u2 ci : Nat} {ct ct2 : Nat → va_E} {ad ad2 : Nat → Nat} {e e2 : va_E}
theorem Vg.putF {idx k : Nat} {fs : List Value} {v : Value} {ty : FieldType} (hdg : decode M.2.2.1 pc = .ok (.putfield idx, 3)) (hF : jF jcl M.1 idx ci k true ty) (hM : M.2.1 = "<init>") (hB : Bl hs0 q ct ad n (.inr (ci, fs)) u hs) (hn : narrow ty v = v) (hfit : fits ty v = true) (hlen : k < fs.length) (kk : ∀ hs', Bl hs0 q ct ad n (.inr (ci, fs.set k v)) u hs' → V jcl w M d (pc + 3) L st hs' Q) : V jcl w M d pc L (v :: .ref q :: st) hs Q := V.putF hdg hF hM hB.1 hn hfit hlen (kk _ (hB.pq _))
theorem Vg.put {idx k : Nat} {fs : List Value} {v : Value} {ty : FieldType} (hdg : decode M.2.2.1 pc = .ok (.putfield idx, 3)) (hF : jF jcl M.1 idx ci k false ty) (hB : Bl hs0 q ct ad n (.inr (ci, fs)) u hs) (hn : narrow ty v = v) (hfit : fits ty v = true) (hlen : k < fs.length) (kk : ∀ hs', Bl hs0 q ct ad n (.inr (ci, fs.set k v)) u hs' → V jcl w M d (pc + 3) L st hs' Q) : V jcl w M d pc L (v :: .ref q :: st) hs Q := V.put hdg hF hB.1 hn hfit hlen (kk _ (hB.pq _))
theorem Vg.newi {N : Nat} {nn : Int32} (hdg : decode M.2.2.1 pc = .ok (.newarray .int, 2)) (hw : jWf w) (hn : ¬ nn < 0) (hN : nn.toNatClampNeg = N) (hb : N ≤ 1000) (hB : Bl hs0 q ct ad n e u hs) (hr : n + 1 ≤ hs0.2.1 ∧ u + N ≤ hs0.2.2)
    (kk : ∀ (r : Nat) (hs' : jh), Bl hs0 q (fun k => if k = n then aI w N (fun _ => 0) else ct k) (fun k => if k = n then r else ad k) (n + 1) e (u + N) hs' → V jcl w M d (pc + 2) L (.ref r :: st) hs' Q) : V jcl w M d pc L (.int nn :: st) hs Q :=
  V.newa (t0 := 0) (a0 := (N, .inl (fun _ => 0))) hdg rfl w_a_int hw.1 rfl hn hN (by have h4 : componentBytes (newarray.typeOf .int) = 4 := rfl; show N * componentBytes (newarray.typeOf .int) ≤ _; rw [h4]; omega) (by have := hB.2.2.2.2.1; omega) (by have := hB.2.2.2.2.2; omega) (fun r h => kk r _ (hB.new h (by have := hB.2.2.2.2.1; omega) (by have := hB.2.2.2.2.2; omega) _))
theorem Vg.newz {N : Nat} {nn : Int32} (hdg : decode M.2.2.1 pc = .ok (.newarray .boolean, 2)) (hw : jWf w) (hn : ¬ nn < 0) (hN : nn.toNatClampNeg = N) (hb : N ≤ 1000) (hB : Bl hs0 q ct ad n e u hs) (hr : n + 1 ≤ hs0.2.1 ∧ u + N ≤ hs0.2.2)
    (kk : ∀ (r : Nat) (hs' : jh), Bl hs0 q (fun k => if k = n then .inl (jcA w 1, N, .inl (fun _ => 0)) else ct k) (fun k => if k = n then r else ad k) (n + 1) e (u + N) hs' → V jcl w M d (pc + 2) L (.ref r :: st) hs' Q) : V jcl w M d pc L (.int nn :: st) hs Q :=
  V.newa (t0 := 1) (a0 := (N, .inl (fun _ => 0))) hdg rfl w_a_boolean hw.2.1 rfl hn hN (by have h4 : componentBytes (newarray.typeOf .boolean) = 1 := rfl; show N * componentBytes (newarray.typeOf .boolean) ≤ _; rw [h4]; omega) (by have := hB.2.2.2.2.1; omega) (by have := hB.2.2.2.2.2; omega) (fun r h => kk r _ (hB.new h (by have := hB.2.2.2.2.1; omega) (by have := hB.2.2.2.2.2; omega) _))
theorem Bl.sub (h : Bl hs0 q ct ad n e u hs1) {i : Nat} (hi : i < n) (h2 : Bl hs1 (ad i) ct2 ad2 m e2 u2 hs2) : Bl hs0 q (fun k => if k < n then (if k = i then e2 else ct k) else ct2 (k - n)) (fun k => if k < n then ad k else ad2 (k - n)) (n + m) e (u + u2) hs2 := by
  obtain ⟨a1, a2, a3, a4, a5, a6⟩ := h
  obtain ⟨b1, b2, b3, b4, b5, b6⟩ := h2
  have hq : q ≠ ad i := fun z => (a2 i hi).2.2 z.symm
  have new0 : ∀ k, k < m → hs0.1 (ad2 k) = none ∧ ad2 k ≠ q ∧ ∀ j, j < n → ad j ≠ ad2 k := fun k hk => by
    obtain ⟨y1, y2, y3⟩ := b2 k hk
    have z1 : ad2 k ≠ q := fun z => by rw [z, a1] at y2; cases y2
    have z2 : ∀ j, j < n → ad j ≠ ad2 k := fun j hj z => by rw [← z, (a2 j hj).1] at y2; cases y2
    refine ⟨?_, z1, z2⟩
    cases hc : hs0.1 (ad2 k) with
    | none => rfl
    | some y =>
      have := a4 (ad2 k) (by rw [hc]; simp) z1
      rw [y2, hc] at this
      cases this
  refine ⟨?_, fun k hk => ?_, fun k j hk hj he => ?_, fun a ha haq => ?_, by omega, by omega⟩
  · rw [b4 q (by rw [a1]; simp) hq]
    exact a1
  · simp only
    by_cases hkn : k < n
    · simp only [if_pos hkn]
      refine ⟨?_, (a2 k hkn).2⟩
      by_cases hki : k = i
      · subst hki
        rw [if_pos rfl]
        exact b1
      · rw [if_neg hki, b4 (ad k) (by rw [(a2 k hkn).1]; simp) (fun z => hki (a3 k i hkn hi z))]
        exact (a2 k hkn).1
    · simp only [if_neg hkn]
      exact ⟨(b2 (k - n) (by omega)).1, (new0 (k - n) (by omega)).1, (new0 (k - n) (by omega)).2.1⟩
  · simp only at he
    by_cases hkn : k < n <;> by_cases hjn : j < n
    · rw [if_pos hkn, if_pos hjn] at he
      exact a3 k j hkn hjn he
    · rw [if_pos hkn, if_neg hjn] at he
      exact absurd he ((new0 (j - n) (by omega)).2.2 k hkn)
    · rw [if_neg hkn, if_pos hjn] at he
      exact absurd he.symm ((new0 (k - n) (by omega)).2.2 j hjn)
    · rw [if_neg hkn, if_neg hjn] at he
      have := b3 (k - n) (j - n) (by omega) (by omega) he
      omega
  · have hai : a ≠ ad i := fun z => ha (by rw [z]; exact (a2 i hi).2.1)
    have h1 := a4 a ha haq
    rw [b4 a (by rw [h1]; exact ha) hai]
    exact h1
theorem def_P : ∀ j, j < 4 → defaultValue (kt_P j) = vp_V [.null, .null, .null, .int 0] j := fun j hj => by
  have : j = 0 ∨ j = 1 ∨ j = 2 ∨ j = 3 := by omega
  rcases this with rfl | rfl | rfl | rfl <;> rfl
theorem def_Q : ∀ j, j < 3 → defaultValue (kt_Q j) = vp_V [.null, .int 0, .int 0] j := fun j hj => by
  have : j = 0 ∨ j = 1 ∨ j = 2 := by omega
  rcases this with rfl | rfl | rfl <;> rfl
theorem c_Pinit (hw : jWf w) (h0 : 3 ≤ hs0.2.1 ∧ 24 ≤ hs0.2.2) (hq : hs0.1 q = some (.inr (1, [.null, .null, .null, .int 0]))) : V jcl w m_P_init (d + 1) 0 [(0, .ref q)] [] hs0 (fun o hs' => ∃ ad, o = .inl none ∧ Bl hs0 q (fun _ => aI w 8 (fun _ => 0)) ad 3 (.inr (1, [.ref (ad 0), .ref (ad 1), .ref (ad 2), .int 0])) 24 hs') := by
  have hB : Bl hs0 q (fun _ => aI w 8 (fun _ => 0)) (fun _ => 0) 0 (.inr (1, [.null, .null, .null, .int 0])) 0 hs0 := Bl.zero hq
  refine V.aload_nR (pc := 0) d_P_init_0 rfl ?_
  refine V.objInit (pc := 1) d_P_init_1 l_P_3 w_oi.1 w_oi.2 (Nat.le_of_ble_eq_true rfl) (by omega) ?_
  refine V.aload_nR (pc := 4) d_P_init_4 rfl ?_
  refine Vi.bipush (pc := 5) d_P_init_5 (by decide) ?_
  refine Vg.newi (pc := 7) (N := 8) d_P_init_7 hw (by decide) (by decide) (by decide) hB (by omega) (fun r0 hs hB => ?_)
  refine Vg.putF (pc := 9) d_P_init_9 f_P_9 rfl hB rfl rfl (by simp) (fun hs hB => ?_)
  refine V.aload_nR (pc := 12) d_P_init_12 rfl ?_
  refine Vi.bipush (pc := 13) d_P_init_13 (by decide) ?_
  refine Vg.newi (pc := 15) (N := 8) d_P_init_15 hw (by decide) (by decide) (by decide) hB (by omega) (fun r1 hs hB => ?_)
  refine Vg.putF (pc := 17) d_P_init_17 f_P_15 rfl hB rfl rfl (by simp) (fun hs hB => ?_)
  refine V.aload_nR (pc := 20) d_P_init_20 rfl ?_
  refine Vi.bipush (pc := 21) d_P_init_21 (by decide) ?_
  refine Vg.newi (pc := 23) (N := 8) d_P_init_23 hw (by decide) (by decide) (by decide) hB (by omega) (fun r2 hs hB => ?_)
  refine Vg.putF (pc := 25) d_P_init_25 f_P_18 rfl hB rfl rfl (by simp) (fun hs hB => ?_)
  refine V.return_ (pc := 28) d_P_init_28 rfl ?_
  refine ⟨fun k => if k = 2 then r2 else if k = 1 then r1 else if k = 0 then r0 else 0, rfl, ?_⟩
  refine Bl.cg hB (fun k hk => ?_) (fun k _ => rfl)
  have : k = 0 ∨ k = 1 ∨ k = 2 := by omega
  rcases this with rfl | rfl | rfl <;> rfl
theorem c_Qinit (hw : jWf w) (h0 : 1 ≤ hs0.2.1 ∧ 24 ≤ hs0.2.2) (hq : hs0.1 q = some (.inr (2, [.null, .int 0, .int 0]))) : V jcl w m_Q_init (d + 1) 0 [(0, .ref q)] [] hs0 (fun o hs' => ∃ ad, o = .inl none ∧ Bl hs0 q (fun _ => aO w 4 24 (fun _ => none)) ad 1 (.inr (2, [.ref (ad 0), .int 0, .int 0])) 24 hs') := by
  have hB : Bl hs0 q (fun _ => aO w 4 24 (fun _ => none)) (fun _ => 0) 0 (.inr (2, [.null, .int 0, .int 0])) 0 hs0 := Bl.zero hq
  refine V.aload_nR (pc := 0) d_Q_init_0 rfl ?_
  refine V.objInit (pc := 1) d_Q_init_1 l_Q_3 w_oi.1 w_oi.2 (Nat.le_of_ble_eq_true rfl) (by omega) ?_
  refine V.aload_nR (pc := 4) d_Q_init_4 rfl ?_
  refine Vi.bipush (pc := 5) d_Q_init_5 (by decide) ?_
  refine Vb.anew (pc := 7) (t0 := 4) (N := 24) d_Q_init_7 k_Q_9 w_o_B hw.2.2.2.2.1 (by decide) (by decide) (by decide) hB (by omega) (fun r0 hs hB => ?_)
  refine Vg.putF (pc := 10) d_Q_init_10 f_Q_11 rfl hB rfl rfl (by simp) (fun hs hB => ?_)
  refine V.return_ (pc := 13) d_Q_init_13 rfl ?_
  refine ⟨fun k => if k = 0 then r0 else 0, rfl, ?_⟩
  refine Bl.cg hB (fun k hk => ?_) (fun k _ => rfl)
  have : k = 0 := by omega
  subst this
  rfl
/-- what the constructor has made, i programs of it -/
def ctJ (w : jw) (ad : Nat → Nat) (i : Nat) : Nat → va_E := fun k => if k = 0 then aO w 3 10 (fun n => if n < i then some (ad (1 + 4 * n)) else none) else if (k - 1) % 4 = 0 then .inr (1, [.ref (ad (k + 1)), .ref (ad (k + 2)), .ref (ad (k + 3)), .int 0]) else aI w 8 (fun _ => 0)
theorem c_pl {fs : List Value} (hw : jWf w) (h0 : 45 ≤ hs0.2.1 ∧ 500 ≤ hs0.2.2) : ∀ (m i : Nat) (ad : Nat → Nat) (hs : jh), i + m = 10 → fs[0]? = some (.ref (ad 0)) → Bl hs0 q (ctJ w ad i) ad (1 + 4 * i) (.inr (0, fs)) (10 + 28 * i) hs →
    (∀ (ad' : Nat → Nat) (hs' : jh), ad' 0 = ad 0 → Bl hs0 q (ctJ w ad' 10) ad' 41 (.inr (0, fs)) 290 hs' → V jcl w m_J_init (d + 2) 40 [(0, .ref q)] [] hs' Q) →
    V jcl w m_J_init (d + 2) 15 [(0, .ref q), (1, .int (ii i))] [] hs Q := by
  intro m
  induction m with
  | zero =>
    intro i ad hs hi h4 hB kk
    have hi6 : i = 10 := by omega
    subst hi6
    refine V.iload_n (pc := 15) d_J_init_15 rfl ?_
    refine Vi.bipush (pc := 16) d_J_init_16 (by decide) ?_
    refine Vi.icmp_ge (pc := 18) (tgt := 40) d_J_init_18 (by decide) (by decide) (by decide) (fun c_18 => ?_) (fun c_18 => ?_)
    · exact V.lop (kk ad hs rfl hB) ⟨rfl, trivial⟩
    · exact absurd c_18 (by decide)
  | succ m ih =>
    intro i ad hs hi h4 hB kk
    have b5 := hB.2.2.2.2.1
    have b6 := hB.2.2.2.2.2
    refine V.iload_n (pc := 15) d_J_init_15 rfl ?_
    refine Vi.bipush (pc := 16) d_J_init_16 (by decide) ?_
    refine Vi.icmp_ge (pc := 18) (tgt := 40) d_J_init_18 (by decide) (by omega) (by decide) (fun c_18 => ?_) (fun c_18 => ?_)
    · omega
    · first | refine V.aload_nR (pc := 21) d_J_init_21 rfl ?_ | refine V.aload_n (pc := 21) d_J_init_21 rfl ?_
      refine V.get (pc := 22) d_J_init_22 g_J_11 hB.1 h4 ?_
      refine V.iload_n (pc := 25) d_J_init_25 rfl ?_
      refine V.new (pc := 26) (ci := 1) (n := 4) (fs := [.null, .null, .null, .int 0]) d_J_init_26 ⟨_, kT_P, kt_P, rfl, in_P, tok_P, def_P, k_J_9, wk_P.1, wk_P.2⟩ (by omega) (by omega) (fun r hr => ?_)
      have hB1 := hB.new (m := 4) hr (by omega) (by omega) (.inr (1, [.null, .null, .null, .int 0]))
      generalize hg : (hup hs.1 r (.inr (1, [.null, .null, .null, .int 0])), hs.2.1 - 1, hs.2.2 - 4) = hs1 at hB1 ⊢
      have hr1 : hs1.1 r = some (.inr (1, [.null, .null, .null, .int 0])) := by rw [← hg]; exact hup_s ..
      have hc1 : hs1.2.1 + 1 = hs.2.1 ∧ hs1.2.2 + 4 = hs.2.2 := by rw [← hg]; exact ⟨by show hs.2.1 - 1 + 1 = _; omega, by show hs.2.2 - 4 + 4 = _; omega⟩
      clear hg
      refine V.dup (pc := 29) d_J_init_29 (by first | rfl | exact vrf_cat _) ?_
      refine V.callI (pc := 30) d_J_init_30 Y_P_init I_P_init l_J_15 wi_P_init [] rfl rfl ⟨by repeat (first | exact trivial | refine ⟨(by first | rfl | exact vrf_cat _), ?_⟩), Nat.le_of_ble_eq_true rfl⟩ ⟨⟨rfl, trivial⟩, Nat.le_of_ble_eq_true rfl⟩ (c_Pinit (d := d) hw (by omega) hr1) (fun v hs ho => ?_) (fun E hs ho => by first | (simp at ho; done) | (obtain ⟨_, _, ho, _⟩ := ho; cases ho; done) | (obtain ⟨_, _, _, ho, _⟩ := ho; cases ho; done))
      obtain ⟨ad2, ho, hB2⟩ := ho
      cases ho
      have ar : (fun k => if k = 1 + 4 * i then r else ad k) (1 + 4 * i) = r := if_pos rfl
      have hB3 := Bl.sub (i := 1 + 4 * i) hB1 (by omega) (by rw [if_pos rfl]; exact hB2)
      obtain ⟨ad', hx⟩ : ∃ ad' : Nat → Nat, ad' = fun k => if k < 1 + 4 * i + 1 then (if k = 1 + 4 * i then r else ad k) else ad2 (k - (1 + 4 * i + 1)) := ⟨_, rfl⟩
      rw [← hx] at hB3
      have x0 : ad' 0 = ad 0 := by rw [hx]; simp only; rw [if_pos (by omega), if_neg (by omega)]
      have xr : ad' (1 + 4 * i) = r := by rw [hx]; show (if 1 + 4 * i < 1 + 4 * i + 1 then (if 1 + 4 * i = 1 + 4 * i then r else ad (1 + 4 * i)) else _) = r; rw [if_pos (by omega), if_pos rfl]
      have xo : ∀ k, k < 1 + 4 * i → ad' k = ad k := fun k hk => by rw [hx]; simp only; rw [if_pos (by omega), if_neg (by omega)]
      have xn : ∀ k, ad' (1 + 4 * i + 1 + k) = ad2 k := fun k => by rw [hx]; simp only; rw [if_neg (by omega)]; congr 1; omega
      have hr2 : hs.1 r = some (.inr (1, [.ref (ad2 0), .ref (ad2 1), .ref (ad2 2), .int 0])) := hB2.1
      have hp0 := (hB3.2.1 0 (by omega)).1
      have z0 : ¬ (0 = 1 + 4 * i) := by omega
      simp only [if_pos (show 0 < 1 + 4 * i + 1 by omega), if_neg z0] at hp0
      rw [x0] at hp0
      have c0 : ctJ w ad i 0 = .inl (jcA w 3, 10, .inr (.inr (.inr (.inr (fun n => if n < i then some (ad (1 + 4 * n)) else none))))) := rfl
      rw [c0] at hp0
      have hcl := ii_clampI (i := (i : Int)) (by omega) (by omega)
      have hcl2 : (ii (i : Int)).toNatClampNeg = i := by omega
      refine V.aast (pc := 33) (t0 := 3) (r := ("JobRuntime$Program", kT_P, 4)) d_J_init_33 hp0 hw.2.2.2.1 hr2 rfl (ii_in (by omega) (by omega) (by decide)) ?_
      have hB4 := hB3.i (i := 0) (by omega) (.inl (jcA w 3, 10, .inr (.inr (.inr (.inr (va_up (fun n => if n < i then some (ad (1 + 4 * n)) else none) (ii (i : Int)).toNatClampNeg (some r)))))))
      rw [x0] at hB4
      generalize (hup hs.1 (ad 0) (.inl (jcA w 3, 10, .inr (.inr (.inr (.inr (va_up (fun n => if n < i then some (ad (1 + 4 * n)) else none) (ii (i : Int)).toNatClampNeg (some r))))))), hs.2) = hs3 at hB4 ⊢
      have hB5 : Bl hs0 q (ctJ w ad' (i + 1)) ad' (1 + 4 * (i + 1)) (.inr (0, fs)) (10 + 28 * (i + 1)) hs3 := by
        have e1 : 1 + 4 * (i + 1) = 1 + 4 * i + 1 + 3 := by omega
        have e2 : 10 + 28 * (i + 1) = 10 + 28 * i + 4 + 24 := by omega
        rw [e1, e2]
        refine Bl.cg hB4 (fun k hk => ?_) (fun k _ => rfl)
        by_cases k0 : k = 0
        · subst k0
          simp only [if_true]
          show aO w 3 10 _ = aO w 3 10 _
          congr 1
          funext y
          rw [hcl2]
          by_cases hy : y = i
          · subst hy
            simp [va_up, xr]
          · simp only [va_up, if_neg hy]
            by_cases hyi : y < i
            · rw [if_pos (by omega), if_pos hyi, xo _ (by omega)]
            · rw [if_neg (by omega), if_neg hyi]
        · simp only [if_neg k0]
          by_cases k1 : k < 1 + 4 * i + 1
          · rw [if_pos k1]
            by_cases k2 : k = 1 + 4 * i
            · rw [if_pos k2]
              subst k2
              unfold ctJ
              rw [if_neg (by omega), if_pos (by omega)]
              have y0 := xn 0
              have y1 := xn 1
              have y2 := xn 2
              rw [show 1 + 4 * i + 2 = 1 + 4 * i + 1 + 1 by omega, show 1 + 4 * i + 3 = 1 + 4 * i + 1 + 2 by omega, y1, y2]
              rw [show 1 + 4 * i + 1 = 1 + 4 * i + 1 + 0 by omega, y0]
            · rw [if_neg k2, if_neg k2]
              unfold ctJ
              rw [if_neg k0, if_neg k0]
              by_cases km : (k - 1) % 4 = 0
              · rw [if_pos km, if_pos km, xo _ (by omega), xo _ (by omega), xo _ (by omega)]
              · rw [if_neg km, if_neg km]
          · rw [if_neg k1]
            unfold ctJ
            rw [if_neg k0, if_neg (by omega)]
      refine Vi.iinc (pc := 34) d_J_init_34 rfl (by decide) ?_
      refine V.goto (pc := 37) (tgt := 15) d_J_init_37 (by decide) ?_
      refine V.lop (ih (i + 1) ad' hs3 (by omega) (by rw [x0]; exact h4) hB5 (fun ad3 hs' e0 hB' => kk ad3 hs' (by rw [e0]; exact x0) hB')) ⟨rfl, ?_, trivial⟩
      rw [show ((i + 1 : Nat) : Int) = (i : Int) + 1 by omega]
      rfl
def dJ : List Value := [.null, .null, .null, .null, .int 0, .int 0, .int 0, .int 0, .int 0, .int 0, .int 0]
theorem def_J : ∀ j, j < 11 → defaultValue (kt_J j) = vp_V dJ j := fun j hj => by
  have : j = 0 ∨ j = 1 ∨ j = 2 ∨ j = 3 ∨ j = 4 ∨ j = 5 ∨ j = 6 ∨ j = 7 ∨ j = 8 ∨ j = 9 ∨ j = 10 := by omega
  rcases this with rfl | rfl | rfl | rfl | rfl | rfl | rfl | rfl | rfl | rfl | rfl <;> rfl
def ctK (w : jw) (ad : Nat → Nat) : Nat → va_E := fun k => if k < 41 then ctJ w ad 10 k else if k = 41 then aO w 4 24 (fun _ => none) else if k = 42 then .inr (2, [.ref (ad 43), .int 0, .int 0]) else if k = 43 then aO w 4 24 (fun _ => none) else aI w 60 (fun _ => 0)
theorem c_Jinit (hw : jWf w) (h0 : 45 ≤ hs0.2.1 ∧ 500 ≤ hs0.2.2) (hq : hs0.1 q = some (.inr (0, dJ))) : V jcl w m_J_init (d + 2) 0 [(0, .ref q)] [] hs0 (fun o hs' => ∃ ad, o = .inl none ∧ Bl hs0 q (ctK w ad) ad 45 (.inr (0, [.ref (ad 0), .ref (ad 41), .ref (ad 42), .ref (ad 44), .int 0, .int 0, .int 0, .int 0, .int 0, .int 0, .int 0])) 401 hs') := by
  have hB : Bl hs0 q (fun _ => eT) (fun _ => 0) 0 (.inr (0, dJ)) 0 hs0 := Bl.zero hq
  refine V.aload_nR (pc := 0) d_J_init_0 rfl ?_
  refine V.objInit (pc := 1) d_J_init_1 l_J_1 w_oi.1 w_oi.2 (Nat.le_of_ble_eq_true rfl) (by omega) ?_
  refine V.aload_nR (pc := 4) d_J_init_4 rfl ?_
  refine Vi.bipush (pc := 5) d_J_init_5 (by decide) ?_
  refine Vb.anew (pc := 7) (t0 := 3) (N := 10) d_J_init_7 k_J_9 w_o_P hw.2.2.2.1 (by decide) (by decide) (by decide) hB (by omega) (fun r0 hs hB => ?_)
  refine Vg.putF (pc := 10) d_J_init_10 f_J_11 rfl hB rfl rfl (by simp [dJ]) (fun hs hB => ?_)
  refine Vi.iconst (pc := 13) d_J_init_13 ?_
  refine V.istore_n (pc := 14) d_J_init_14 (by decide) ?_
  have hB1 : Bl hs0 q (ctJ w (fun k => if k = 0 then r0 else 0) 0) (fun k => if k = 0 then r0 else 0) (1 + 4 * 0) _ (10 + 28 * 0) hs := Bl.cg hB (fun k hk => by
    have : k = 0 := by omega
    subst this
    simp [ctJ, aO]) (fun k hk => rfl)
  refine V.lop (c_pl (d := d) hw h0 10 0 _ hs rfl (by simp [dJ]) hB1 (fun ad hs e0 hB => ?_)) ⟨rfl, rfl, trivial⟩
  have e0 : ad 0 = r0 := by rw [e0]; simp
  first | refine V.aload_nR (pc := 40) d_J_init_40 rfl ?_ | refine V.aload_n (pc := 40) d_J_init_40 rfl ?_
  refine Vi.bipush (pc := 41) d_J_init_41 (by decide) ?_
  refine Vb.anew (pc := 43) (t0 := 4) (N := 24) d_J_init_43 k_J_16 w_o_B hw.2.2.2.2.1 (by decide) (by decide) (by decide) hB (by omega) (fun r1 hs hB => ?_)
  refine Vg.putF (pc := 46) d_J_init_46 f_J_18 rfl hB rfl rfl (by simp [dJ]) (fun hs hB => ?_)
  have b5 := hB.2.2.2.2.1
  have b6 := hB.2.2.2.2.2
  refine V.aload_nR (pc := 49) d_J_init_49 rfl ?_
  refine V.new (pc := 50) (ci := 2) (n := 3) (fs := [.null, .int 0, .int 0]) d_J_init_50 ⟨_, kT_Q, kt_Q, rfl, in_Q, tok_Q, def_Q, k_J_22, wk_Q.1, wk_Q.2⟩ (by omega) (by omega) (fun r2 hr2 => ?_)
  have hB2 := hB.new (m := 3) hr2 (by omega) (by omega) (.inr (2, [.null, .int 0, .int 0]))
  generalize hg : (hup hs.1 r2 (.inr (2, [.null, .int 0, .int 0])), hs.2.1 - 1, hs.2.2 - 3) = hs at hB2 ⊢
  have hr3 : hs.1 r2 = some (.inr (2, [.null, .int 0, .int 0])) := by rw [← hg]; exact hup_s ..
  clear hg
  have b5 := hB2.2.2.2.2.1
  have b6 := hB2.2.2.2.2.2
  refine V.dup (pc := 53) d_J_init_53 (by first | rfl | exact vrf_cat _) ?_
  refine V.callI (pc := 54) d_J_init_54 Y_Q_init I_Q_init l_J_24 wi_Q_init [] rfl rfl ⟨by repeat (first | exact trivial | refine ⟨(by first | rfl | exact vrf_cat _), ?_⟩), Nat.le_of_ble_eq_true rfl⟩ ⟨⟨rfl, trivial⟩, Nat.le_of_ble_eq_true rfl⟩ (c_Qinit (d := d) hw (by omega) hr3) (fun v hs ho => ?_) (fun E hs ho => by first | (simp at ho; done) | (obtain ⟨_, _, ho, _⟩ := ho; cases ho; done) | (obtain ⟨_, _, _, ho, _⟩ := ho; cases ho; done))
  obtain ⟨ad2, ho, hB3⟩ := ho
  cases ho
  have hB4 := Bl.sub (i := 42) hB2 (by omega) (by rw [if_pos rfl]; exact hB3)
  refine Vg.putF (pc := 57) d_J_init_57 f_J_25 rfl hB4 rfl rfl (by simp [dJ]) (fun hs hB5 => ?_)
  refine V.aload_nR (pc := 60) d_J_init_60 rfl ?_
  refine Vi.bipush (pc := 61) d_J_init_61 (by decide) ?_
  refine Vg.newi (pc := 63) (N := 60) d_J_init_63 hw (by decide) (by decide) (by decide) hB5 (by omega) (fun r4 hs hB6 => ?_)
  refine Vg.putF (pc := 65) d_J_init_65 f_J_29 rfl hB6 rfl rfl (by simp [dJ]) (fun hs hB7 => ?_)
  refine V.return_ (pc := 68) d_J_init_68 rfl ?_
  obtain ⟨af, hx⟩ : ∃ af : Nat → Nat, af = fun k => if k = 44 then r4 else if k = 43 then ad2 0 else if k = 42 then r2 else if k = 41 then r1 else ad k := ⟨_, rfl⟩
  have xo : ∀ k, k < 41 → af k = ad k := fun k hk => by rw [hx]; simp only; rw [if_neg (by omega), if_neg (by omega), if_neg (by omega), if_neg (by omega)]
  have x41 : af 41 = r1 := by rw [hx]; rfl
  have x42 : af 42 = r2 := by rw [hx]; rfl
  have x43 : af 43 = ad2 0 := by rw [hx]; rfl
  have x44 : af 44 = r4 := by rw [hx]; rfl
  refine ⟨af, rfl, ?_⟩
  have hB8 := Bl.cg hB7 (ct' := ctK w af) (ad' := af) (fun k hk => ?_) (fun k hk => ?_)
  · rw [xo 0 (by omega), e0, x41, x42, x44]
    simpa [dJ, ii] using hB8
  · by_cases k41 : k < 41
    · have z1 : ¬ k = 44 := by omega
      have z2 : k < 43 := by omega
      have z3 : ¬ k = 42 := by omega
      have z4 : ¬ k = 41 := by omega
      unfold ctK
      simp only [if_pos k41, if_neg z1, if_pos z2, if_neg z3, if_neg z4]
      unfold ctJ
      by_cases k0 : k = 0
      · rw [if_pos k0, if_pos k0]
        congr 1
        funext y
        by_cases hy : y < 10
        · rw [if_pos hy, if_pos hy, xo _ (by omega)]
        · rw [if_neg hy, if_neg hy]
      · rw [if_neg k0, if_neg k0]
        by_cases km : (k - 1) % 4 = 0
        · rw [if_pos km, if_pos km, xo _ (by omega), xo _ (by omega), xo _ (by omega)]
        · rw [if_neg km, if_neg km]
    · have : k = 41 ∨ k = 42 ∨ k = 43 ∨ k = 44 := by omega
      rcases this with rfl | rfl | rfl | rfl
      · simp [ctK, aO]
      · simp [ctK, x43]
      · simp [ctK]
      · simp [ctK]
  · by_cases k41 : k < 41
    · have z1 : ¬ k = 44 := by omega
      have z2 : k < 43 := by omega
      have z3 : ¬ k = 42 := by omega
      have z4 : ¬ k = 41 := by omega
      simp only [if_neg z1, if_pos z2, if_neg z3, if_neg z4]
      exact xo k k41
    · have : k = 41 ∨ k = 42 ∨ k = 43 ∨ k = 44 := by omega
      rcases this with rfl | rfl | rfl | rfl
      · simp [x41]
      · simp [x42]
      · simp [x43]
      · simp [x44]
end KP
