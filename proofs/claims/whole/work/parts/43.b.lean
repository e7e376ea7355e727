/-! new objects: a Frame, a Timer, a Job; begin -/
section KE
variable {w : jw} {M : jm} {d pc : Nat} {L : List (Nat × Value)} {st : List Value} {hs hs0 : jh} {Q : jo → jh → Prop} {am : Nat → Int → Nat} {C S : js} {g : Nat → Option va_E} {b : Nat × Nat} {q n u : Nat} {ct : Nat → va_E} {ad : Nat → Nat} {e : va_E}
theorem hup_2 {h : Nat → Option va_E} {a : Nat} {e e' : va_E} : hup (hup h a e) a e' = hup h a e' := by
  funext k
  by_cases hk : k = a
  · subst hk
    rw [hup_s, hup_s]
  · rw [hup_n hk, hup_n hk, hup_n hk]
/-- hs is hs0 with q (now e) and n new objects, of u fields and elements -/
def Bl (hs0 : jh) (q : Nat) (ct : Nat → va_E) (ad : Nat → Nat) (n : Nat) (e : va_E) (u : Nat) (hs : jh) : Prop :=
  hs.1 q = some e ∧ (∀ i, i < n → hs.1 (ad i) = some (ct i) ∧ hs0.1 (ad i) = none ∧ ad i ≠ q) ∧ (∀ i j, i < n → j < n → ad i = ad j → i = j) ∧ (∀ a, hs0.1 a ≠ none → a ≠ q → hs.1 a = hs0.1 a) ∧ hs.2.1 + n = hs0.2.1 ∧ hs.2.2 + u = hs0.2.2
theorem Bl.zero (h : hs.1 q = some e) : Bl hs q ct ad 0 e 0 hs := ⟨h, fun i hi => by omega, fun i j hi => by omega, fun _ _ _ => rfl, rfl, rfl⟩
theorem Bl.pq (h : Bl hs0 q ct ad n e u hs) (e' : va_E) : Bl hs0 q ct ad n e' u (hup hs.1 q e', hs.2) := by
  obtain ⟨h1, h2, h3, h4, h5, h6⟩ := h
  refine ⟨hup_s .., fun i hi => ?_, h3, fun a ha hq => ?_, h5, h6⟩
  · have := h2 i hi
    exact ⟨by show hup hs.1 q e' (ad i) = _; rw [hup_n this.2.2]; exact this.1, this.2⟩
  · show hup hs.1 q e' a = _
    rw [hup_n hq]
    exact h4 a ha hq
theorem Bl.i (h : Bl hs0 q ct ad n e u hs) {i : Nat} (hi : i < n) (e' : va_E) : Bl hs0 q (fun k => if k = i then e' else ct k) ad n e u (hup hs.1 (ad i) e', hs.2) := by
  obtain ⟨h1, h2, h3, h4, h5, h6⟩ := h
  refine ⟨?_, fun k hk => ?_, h3, fun a ha hq => ?_, h5, h6⟩
  · show hup hs.1 (ad i) e' q = _
    rw [hup_n (fun z => (h2 i hi).2.2 z.symm)]
    exact h1
  · refine ⟨?_, (h2 k hk).2⟩
    show hup hs.1 (ad i) e' (ad k) = some (if k = i then e' else ct k)
    by_cases hki : k = i
    · subst hki
      rw [hup_s, if_pos rfl]
    · rw [hup_n (fun z => hki (h3 k i hk hi z)), if_neg hki]
      exact (h2 k hk).1
  · show hup hs.1 (ad i) e' a = _
    rw [hup_n (fun z => ha (by rw [z]; exact (h2 i hi).2.1))]
    exact h4 a ha hq
theorem Bl.new (h : Bl hs0 q ct ad n e u hs) {r m : Nat} (hr : hs.1 r = none) (h1 : 1 ≤ hs.2.1) (hm : m ≤ hs.2.2) (e' : va_E) : Bl hs0 q (fun k => if k = n then e' else ct k) (fun k => if k = n then r else ad k) (n + 1) e (u + m) (hup hs.1 r e', hs.2.1 - 1, hs.2.2 - m) := by
  obtain ⟨g1, h2, h3, h4, h5, h6⟩ := h
  have hq : r ≠ q := fun z => by rw [z, g1] at hr; cases hr
  have hn : ∀ i, i < n → ad i ≠ r := fun i hi z => by have := (h2 i hi).1; rw [z, hr] at this; cases this
  have h0 : hs0.1 r = none := by
    cases hz : hs0.1 r with
    | none => rfl
    | some y =>
      have := h4 r (by rw [hz]; simp) hq
      rw [hr, hz] at this
      cases this
  refine ⟨?_, fun k hk => ?_, fun i j hi hj hij => ?_, fun a ha hqa => ?_, ?_, ?_⟩
  · show hup hs.1 r e' q = _
    rw [hup_n (fun z => hq z.symm)]
    exact g1
  · show hup hs.1 r e' (if k = n then r else ad k) = some (if k = n then e' else ct k) ∧ _
    by_cases hkn : k = n
    · simp only [if_pos hkn]
      exact ⟨hup_s .., h0, hq⟩
    · simp only [if_neg hkn]
      have hk' : k < n := by omega
      exact ⟨by rw [hup_n (hn k hk')]; exact (h2 k hk').1, (h2 k hk').2⟩
  · simp only at hij
    by_cases hin : i = n <;> by_cases hjn : j = n
    · omega
    · rw [if_pos hin, if_neg hjn] at hij
      exact absurd hij.symm (hn j (by omega))
    · rw [if_neg hin, if_pos hjn] at hij
      exact absurd hij (hn i (by omega))
    · rw [if_neg hin, if_neg hjn] at hij
      exact h3 i j (by omega) (by omega) hij
  · show hup hs.1 r e' a = _
    rw [hup_n (fun z => ha (by rw [z]; exact h0))]
    exact h4 a ha hqa
  · show hs.2.1 - 1 + (n + 1) = _
    omega
  · show hs.2.2 - m + (u + m) = _
    omega
theorem Bl.cg (h : Bl hs0 q ct ad n e u hs) {ct' : Nat → va_E} {ad' : Nat → Nat} (h1 : ∀ i, i < n → ct' i = ct i) (h2 : ∀ i, i < n → ad' i = ad i) : Bl hs0 q ct' ad' n e u hs := by
  obtain ⟨g1, g2, g3, g4, g5, g6⟩ := h
  refine ⟨g1, fun i hi => by rw [h1 i hi, h2 i hi]; exact g2 i hi, fun i j hi hj hij => g3 i j hi hj (by rw [← h2 i hi, ← h2 j hj]; exact hij), g4, g5, g6⟩
def eF (pr : Nat) : va_E := .inr (4, [.int (ii 0), .ref pr, .int (ii 0), .ref pr, .int (ii (-1))])
def eT : va_E := .inr (5, [.int (ii 2147483647), .int (ii 0)])
def dB : List Value := [.int 0, .null, .int 0, .null, .null, .null, .null, .int 0, .int 0, .int 0, .int 0, .int 0, .int 0, .int 0, .null, .int 0]
theorem c_Finit {a pr : Nat} (ha : hs.1 a = some (.inr (4, [.int 0, .null, .int 0, .null, .int 0]))) : V jcl w m_F_init (d + 1) 0 [(0, .ref a), (1, .ref pr)] [] hs (fun o hs' => o = .inl none ∧ hs' = (hup hs.1 a (eF pr), hs.2)) := by
  refine V.aload_nR (pc := 0) d_F_init_0 rfl ?_
  refine V.objInit (pc := 1) d_F_init_1 l_F_3 w_oi.1 w_oi.2 (Nat.le_of_ble_eq_true rfl) (by omega) ?_
  refine V.aload_nR (pc := 4) d_F_init_4 rfl ?_
  refine V.aload_nR (pc := 5) d_F_init_5 rfl ?_
  refine V.put (pc := 6) d_F_init_6 f_F_9 ha rfl rfl (by decide) ?_
  refine V.aload_nR (pc := 9) d_F_init_9 rfl ?_
  refine V.aload_nR (pc := 10) d_F_init_10 rfl ?_
  refine V.put (pc := 11) d_F_init_11 f_F_15 (hup_s ..) rfl rfl (by simp) ?_
  refine V.aload_nR (pc := 14) d_F_init_14 rfl ?_
  refine Vi.iconst (pc := 15) d_F_init_15 ?_
  refine V.put (pc := 16) d_F_init_16 f_F_18 (hup_s ..) rfl rfl (by simp) ?_
  refine V.return_ (pc := 19) d_F_init_19 rfl ?_
  refine ⟨rfl, ?_⟩
  rw [hup_2, hup_2]
  rfl
theorem c_Tinit {a : Nat} (ha : hs.1 a = some (.inr (5, [.int 0, .int 0]))) : V jcl w m_T_init (d + 1) 0 [(0, .ref a)] [] hs (fun o hs' => o = .inl none ∧ hs' = (hup hs.1 a eT, hs.2)) := by
  refine V.aload_nR (pc := 0) d_T_init_0 rfl ?_
  refine V.objInit (pc := 1) d_T_init_1 l_T_3 w_oi.1 w_oi.2 (Nat.le_of_ble_eq_true rfl) (by omega) ?_
  refine V.aload_nR (pc := 4) d_T_init_4 rfl ?_
  refine Vc.ldc (pc := 5) (n := 2147483647) d_T_init_5 n_T_9 (by decide) ?_
  refine V.put (pc := 7) d_T_init_7 f_T_10 ha rfl rfl (by decide) ?_
  refine V.return_ (pc := 10) d_T_init_10 rfl ?_
  exact ⟨rfl, rfl⟩
/-- the addresses with the new job's -/
def am2 (am : Nat → Int → Nat) (J : Int) (q : Nat) (ad : Nat → Nat) : Nat → Int → Nat := fun k i =>
  if k = 10 ∧ i = J then q else if k = 11 ∧ i = J then ad 0 else if k = 12 ∧ i = J then ad 1 else if k = 13 ∧ i = J then ad 8 else if k = 14 ∧ i = J then ad 9 else if k = 15 ∧ J * 6 ≤ i ∧ i < J * 6 + 6 then ad (2 + (i - J * 6).toNat) else am k i
def ctX (w : jw) (pr : Nat) (ad : Nat → Nat) : Nat → va_E := fun k => if k = 0 then aO w 4 3 (fun _ => none) else if k = 1 then aO w 5 6 (fun n => if n < 6 then some (ad (2 + n)) else none) else if k < 8 then eF pr else eT
def eX (num : Int) (par : Option Nat) (s : Int) (ad : Nat → Nat) : va_E := .inr (3, [.int (ii num), va_rf par, .int (ii s), .ref (ad 0), .ref (ad 1), .ref (ad 8), .ref (ad 9), .int (ii 1), .int (ii 0), .int (ii (-1)), .int (ii 0), .int (ii 0), .int (ii 0), .int (ii (-1)), va_rf none, .int (ii (-1))])
/-- the class's references are to jobs that are there -/
def RF (C : js) : Prop := (∀ n, C 59 n < C 1 0) ∧ ∀ j, 0 ≤ j → j < C 1 0 → C 16 j < C 1 0 ∧ C 51 j < C 1 0 ∧ ∀ a, 0 ≤ a → a < 3 → C 22 (j * 3 + a) < C 1 0
theorem am2_o {J : Int} {k : Nat} {i : Int} (h : vd J k i) : am2 am J q ad k i = am k i := by
  unfold vd at h
  unfold am2
  rw [if_neg (by omega), if_neg (by omega), if_neg (by omega), if_neg (by omega), if_neg (by omega), if_neg (by omega)]
theorem am2_k {J : Int} {k : Nat} {i : Int} (h : k < 10) : am2 am J q ad k i = am k i := by
  unfold am2
  rw [if_neg (by omega), if_neg (by omega), if_neg (by omega), if_neg (by omega), if_neg (by omega), if_neg (by omega)]
theorem rj_am2 {J k : Int} (h : k < J) : rj (am2 am J q ad) k = rj am k := by
  unfold rj
  split
  · rfl
  · rw [am2_o (vdB (by decide) (by omega))]
theorem vd_new {J : Int} {k : Nat} {i : Int} (h : vd (J + 1) k i) : vd J k i ∨ ((10 ≤ k ∧ k ≤ 14) ∧ i = J) ∨ (k = 15 ∧ J * 6 ≤ i ∧ i < J * 6 + 6) := by
  unfold vd at h ⊢
  omega
theorem am2_new {J : Int} {k : Nat} {i : Int} (h : ((10 ≤ k ∧ k ≤ 14) ∧ i = J) ∨ (k = 15 ∧ J * 6 ≤ i ∧ i < J * 6 + 6)) : (k = 10 ∧ am2 am J q ad k i = q) ∨ ∃ n, n < 10 ∧ am2 am J q ad k i = ad n ∧ (k = 11 ∧ n = 0 ∨ k = 12 ∧ n = 1 ∨ k = 13 ∧ n = 8 ∨ k = 14 ∧ n = 9 ∨ k = 15 ∧ n = 2 + (i - J * 6).toNat) := by
  rcases h with ⟨⟨h1, h2⟩, rfl⟩ | ⟨rfl, h1, h2⟩
  · have hk : k = 10 ∨ k = 11 ∨ k = 12 ∨ k = 13 ∨ k = 14 := by omega
    rcases hk with rfl | rfl | rfl | rfl | rfl
    · exact Or.inl ⟨rfl, by simp [am2]⟩
    · exact Or.inr ⟨0, by omega, by simp [am2], by omega⟩
    · exact Or.inr ⟨1, by omega, by simp [am2], by omega⟩
    · exact Or.inr ⟨8, by omega, by simp [am2], by omega⟩
    · exact Or.inr ⟨9, by omega, by simp [am2], by omega⟩
  · refine Or.inr ⟨2 + (i - J * 6).toNat, by omega, ?_, by omega⟩
    unfold am2
    rw [if_neg (by omega), if_neg (by omega), if_neg (by omega), if_neg (by omega), if_neg (by omega), if_pos ⟨rfl, h1, h2⟩]
theorem c_new_22 {pr p s i : Int} (h : ¬ (C 1 0 * 3 ≤ i ∧ i < C 1 0 * 3 + 3)) : c_new C pr p s 22 i = C 22 i := by
  unfold c_new
  rw [if_neg (by omega), if_neg (fun z => h z.2), if_neg (by omega), if_neg (by omega), if_neg (by omega)]
  simp
theorem cont_old (hF : RF C) {pr p s : Int} {k : Nat} {i : Int} (h : vd (C 1 0) k i) (h0 : k ≠ 0) (h2 : k ≠ 2) : cont w (c_new C pr p s) (am2 am (C 1 0) q ad) k i = cont w C am k i := by
  have hv := h
  unfold vd at hv
  have hk : k = 1 ∨ k = 3 ∨ k = 4 ∨ k = 5 ∨ k = 6 ∨ k = 7 ∨ k = 8 ∨ k = 9 ∨ k = 10 ∨ k = 11 ∨ k = 12 ∨ k = 13 ∨ k = 14 ∨ k = 15 := by omega
  rcases hk with rfl | rfl | rfl | rfl | rfl | rfl | rfl | rfl | rfl | rfl | rfl | rfl | rfl | rfl
  · simp only [cont]
    congr 1 <;> (funext n; rw [am2_k (by decide)])
  · simp only [cont, cQ]
    rw [am2_k (by decide), c_new_p (by decide) (by decide) (by decide) (by decide) (by decide), c_new_p (by decide) (by decide) (by decide) (by decide) (by decide)]
  · simp only [cont]
    congr 1
    funext n
    rw [c_new_p (by decide) (by decide) (by decide) (by decide) (by decide)]
  · simp only [cont]
    congr 1
    funext n
    rw [c_new_p (by decide) (by decide) (by decide) (by decide) (by decide), rj_am2 (hF.1 n)]
  · simp only [cont, cP]
    rw [am2_k (by decide), am2_k (by decide), am2_k (by decide), c_new_p (by decide) (by decide) (by decide) (by decide) (by decide)]
  · simp only [cont]
    congr 1
    funext n
    rw [c_new_p (by decide) (by decide) (by decide) (by decide) (by decide)]
  · simp only [cont]
    congr 1
    funext n
    rw [c_new_p (by decide) (by decide) (by decide) (by decide) (by decide)]
  · simp only [cont]
    congr 1
    funext n
    rw [c_new_p (by decide) (by decide) (by decide) (by decide) (by decide)]
  · have hi : 0 ≤ i ∧ i < C 1 0 := by omega
    have o : ∀ f, f ≠ 1 → f ≠ 22 → ¬ (33 ≤ f ∧ f ≤ 37) → c_new C pr p s f i = C f i := fun f z1 z2 z3 => c_new_o z1 (fun z => z2 z.1) (fun z => z3 z.1) (by omega)
    simp only [cont, cB]
    rw [o 16 (by decide) (by decide) (by decide), o 17 (by decide) (by decide) (by decide), o 21 (by decide) (by decide) (by decide), o 18 (by decide) (by decide) (by decide), o 19 (by decide) (by decide) (by decide), o 20 (by decide) (by decide) (by decide), o 56 (by decide) (by decide) (by decide), o 25 (by decide) (by decide) (by decide), o 50 (by decide) (by decide) (by decide), o 51 (by decide) (by decide) (by decide), o 23 (by decide) (by decide) (by decide), rj_am2 (hF.2 i hi.1 hi.2).1, rj_am2 (hF.2 i hi.1 hi.2).2.1, am2_o (vdB (by decide) hi), am2_o (vdB (by decide) hi), am2_o (vdB (by decide) hi), am2_o (vdB (by decide) hi)]
  · have hi : 0 ≤ i ∧ i < C 1 0 := by omega
    simp only [cont]
    congr 1
    funext n
    split
    · rename_i hn
      rw [c_new_22 (by omega), rj_am2 ((hF.2 i hi.1 hi.2).2.2 n (by omega) (by omega))]
    · rfl
  · have hi : 0 ≤ i ∧ i < C 1 0 := by omega
    simp only [cont]
    congr 1
    funext n
    split
    · rename_i hn
      rw [am2_o (vdF (by omega))]
    · rfl
  · have hi : 0 ≤ i ∧ i < C 1 0 := by omega
    simp only [cont, cT, tdu, ttu]
    rw [c_new_o (by decide) (by simp) (by simp) (by omega), c_new_o (by decide) (by simp) (by simp) (by omega)]
  · have hi : 0 ≤ i ∧ i < C 1 0 := by omega
    simp only [cont, cT, tdu, ttu]
    rw [c_new_o (by decide) (by simp) (by simp) (by omega), c_new_o (by decide) (by simp) (by simp) (by omega)]
  · have hi : 0 ≤ i ∧ i < 6 * C 1 0 := by omega
    have o : ∀ f, 33 ≤ f → f ≤ 37 → c_new C pr p s f i = C f i := fun f z1 z2 => by
      unfold c_new
      rw [if_neg (by omega), if_neg (by omega), if_neg (by omega), if_neg (by omega), if_neg (by omega)]
      split
      · rw [if_neg (by omega), if_neg (by omega), if_neg (by omega), if_neg (by omega), if_neg (by omega), if_neg (by omega)]
      · rfl
    simp only [cont, cF]
    rw [o 35 (by decide) (by decide), o 33 (by decide) (by decide), o 34 (by decide) (by decide), o 36 (by decide) (by decide), o 37 (by decide) (by decide), am2_k (by decide), am2_k (by decide)]
theorem RepC.new (hC : RepC w am C g b hs) (hF : RF C) (hJ : 0 ≤ C 1 0 ∧ C 1 0 < 24) {p s pr : Int} (hp : -1 ≤ p ∧ p < C 1 0) {hs2 : jh} (hq : hs.1 q = none)
    (h0 : hs2.1 (am 0 0) = some (.inr (0, cJ (c_new C pr p s) am))) (h2 : hs2.1 (am 2 0) = some (aO w 4 24 (va_up (fun n => if (n : Int) < C 1 0 then some (am 10 n) else none) (C 1 0).toNat (some q)))) (hB : hs2.1 q = some (eX (C 1 0) (rj am p) s ad))
    (hN : ∀ i, i < 10 → hs2.1 (ad i) = some (ctX w (am 6 pr) ad i) ∧ hs.1 (ad i) = none ∧ ad i ≠ q) (hinj : ∀ i j, i < 10 → j < 10 → ad i = ad j → i = j) (hO : ∀ a, hs.1 a ≠ none → a ≠ am 0 0 → a ≠ am 2 0 → hs2.1 a = hs.1 a) (hc : hs2.2.1 + 11 = hs.2.1 ∧ hs2.2.2 + 59 = hs.2.2) : RepC w (am2 am (C 1 0) q ad) (c_new C pr p s) g b hs2 := by
  obtain ⟨a1, a2, a3, a4, a5⟩ := hC
  have e1 : c_new C pr p s 1 0 = C 1 0 + 1 := by unfold c_new; rw [if_pos ⟨rfl, rfl⟩]
  have old : ∀ k i, vd (C 1 0) k i → hs.1 (am k i) ≠ none := fun k i hv => by rw [a2 k i hv]; simp
  have fresh : ∀ k i, (((10 ≤ k ∧ k ≤ 14) ∧ i = C 1 0) ∨ (k = 15 ∧ C 1 0 * 6 ≤ i ∧ i < C 1 0 * 6 + 6)) → hs.1 (am2 am (C 1 0) q ad k i) = none := fun k i hv => by
    rcases am2_new (am := am) (q := q) (ad := ad) hv with ⟨_, e⟩ | ⟨n, hn, e, _⟩
    · rw [e]; exact hq
    · rw [e]; exact (hN n hn).2.1
  unfold RepC
  rw [e1]
  refine ⟨⟨by omega, by omega⟩, fun k i hv => ?_, fun k i k' i' hv hv' he => ?_, fun a e ha => ?_, a5⟩
  · rcases vd_new hv with hv' | hv'
    · rw [am2_o hv']
      by_cases hk0 : k = 0
      · subst hk0
        have hi : i = 0 := by unfold vd at hv'; omega
        subst hi
        rw [h0]
        simp only [cont, cJ]
        rw [am2_k (by decide), am2_k (by decide), am2_k (by decide), am2_k (by decide)]
      · by_cases hk2 : k = 2
        · subst hk2
          have hi : i = 0 := by unfold vd at hv'; omega
          subst hi
          rw [h2]
          simp only [cont]
          congr 2
          funext n
          rw [e1]
          by_cases hn : n = (C 1 0).toNat
          · subst hn
            have hn' : (((C 1 0).toNat : Nat) : Int) = C 1 0 := by omega
            have hlt : (((C 1 0).toNat : Nat) : Int) < C 1 0 + 1 := by omega
            rw [if_pos hlt]
            simp only [va_up, if_true]
            rw [hn']
            simp [am2]
          · simp only [va_up, if_neg hn]
            by_cases hl : (n : Int) < C 1 0
            · rw [if_pos hl, if_pos (by omega), am2_o (vdB (by decide) (by omega))]
            · rw [if_neg hl, if_neg (by omega)]
        · rw [cont_old hF hv' hk0 hk2, ← a2 k i hv']
          refine hO _ (old k i hv') (fun e => hk0 (a3 k i 0 0 hv' (vdJ (by decide)) e).1) (fun e => hk2 (a3 k i 2 0 hv' (vdJ (by decide)) e).1)
    · rcases am2_new (am := am) (q := q) (ad := ad) hv' with ⟨hk, e⟩ | ⟨n, hn, e, hk⟩
      · have hi : i = C 1 0 := by omega
        subst hk
        subst hi
        rw [e, hB]
        simp only [cont, cB, eX]
        have o : ∀ f, f ≠ 1 → f ≠ 22 → ¬ (33 ≤ f ∧ f ≤ 37) → c_new C pr p s f (C 1 0) = (if f = 16 then p else if f = 17 then s else if f = 19 ∨ f = 23 ∨ f = 50 ∨ f = 51 then -1 else if f = 21 then 1 else if f = 52 ∨ f = 54 then 2147483647 else if f = 18 ∨ f = 20 ∨ f = 25 ∨ f = 53 ∨ f = 55 ∨ f = 56 then 0 else C f (C 1 0)) := fun f z1 z2 z3 => by rw [c_new_j z1 z2 z3, if_pos rfl]
        rw [o 16 (by decide) (by decide) (by decide), o 17 (by decide) (by decide) (by decide), o 21 (by decide) (by decide) (by decide), o 18 (by decide) (by decide) (by decide), o 19 (by decide) (by decide) (by decide), o 20 (by decide) (by decide) (by decide), o 56 (by decide) (by decide) (by decide), o 25 (by decide) (by decide) (by decide), o 50 (by decide) (by decide) (by decide), o 51 (by decide) (by decide) (by decide), o 23 (by decide) (by decide) (by decide)]
        simp only [am2, if_true, true_and, and_true]
        simp
        rw [rj_am2 hp.2]
        simp [rj]
      · rw [e, (hN n hn).1]
        rcases hk with ⟨rfl, rfl⟩ | ⟨rfl, rfl⟩ | ⟨rfl, rfl⟩ | ⟨rfl, rfl⟩ | ⟨rfl, hn2⟩
        · have hi : i = C 1 0 := by omega
          subst hi
          simp only [cont, ctX, if_true]
          congr 2
          funext n
          split
          · rename_i hn
            have : c_new C pr p s 22 (C 1 0 * 3 + n) = -1 := by unfold c_new; rw [if_neg (by omega), if_pos (by omega)]
            rw [this, rj_neg (by omega)]
          · rfl
        · have hi : i = C 1 0 := by omega
          subst hi
          simp only [cont, ctX]
          simp
          congr 1
          funext n
          split
          · rename_i hn
            have : am2 am (C 1 0) q ad 15 (C 1 0 * 6 + n) = ad (2 + n) := by
              unfold am2
              rw [if_neg (by omega), if_neg (by omega), if_neg (by omega), if_neg (by omega), if_neg (by omega), if_pos (by omega)]
              congr 1
              omega
            rw [this]
          · rfl
        · have hi : i = C 1 0 := by omega
          subst hi
          simp only [cont, ctX, cT, tdu, ttu, eT]
          rw [c_new_j (by simp) (by simp) (by simp), c_new_j (by simp) (by simp) (by simp), if_pos rfl, if_pos rfl]
          simp
        · have hi : i = C 1 0 := by omega
          subst hi
          simp only [cont, ctX, cT, tdu, ttu, eT]
          rw [c_new_j (by simp) (by simp) (by simp), c_new_j (by simp) (by simp) (by simp), if_pos rfl, if_pos rfl]
          simp
        · have hi : C 1 0 * 6 ≤ i ∧ i < C 1 0 * 6 + 6 := by omega
          have n0 : ¬ n = 0 := by omega
          have n1 : ¬ n = 1 := by omega
          have n8 : n < 8 := by omega
          simp only [cont, ctX, cF, eF, if_neg n0, if_neg n1, if_pos n8]
          have o : ∀ f, 33 ≤ f → f ≤ 37 → c_new C pr p s f i = if f = 33 ∨ f = 36 then pr else if f = 34 ∨ f = 35 then 0 else -1 := fun f z1 z2 => by
            unfold c_new
            rw [if_neg (by omega), if_neg (by omega)]
            by_cases y1 : f = 33 ∨ f = 36
            · rw [if_pos ⟨y1, hi⟩, if_pos y1]
            · rw [if_neg (fun z => y1 z.1), if_neg y1]
              by_cases y2 : f = 34 ∨ f = 35
              · rw [if_pos ⟨y2, hi⟩, if_pos y2]
              · rw [if_neg (fun z => y2 z.1), if_neg y2, if_pos ⟨by omega, hi⟩]
          rw [o 35 (by decide) (by decide), o 33 (by decide) (by decide), o 34 (by decide) (by decide), o 36 (by decide) (by decide), o 37 (by decide) (by decide)]
          simp [am2_k]
  · rcases vd_new hv with y | y <;> rcases vd_new hv' with y' | y'
    · rw [am2_o y, am2_o y'] at he
      exact a3 k i k' i' y y' he
    · rw [am2_o y] at he
      exact absurd (by rw [he]; exact fresh k' i' y') (old k i y)
    · rw [am2_o y'] at he
      exact absurd (by rw [← he]; exact fresh k i y) (old k' i' y')
    · rcases am2_new (am := am) (q := q) (ad := ad) y with ⟨hk, e⟩ | ⟨n, hn, e, hk⟩ <;> rcases am2_new (am := am) (q := q) (ad := ad) y' with ⟨hk', e'⟩ | ⟨n', hn', e', hk'⟩
      · omega
      · rw [e, e'] at he
        exact absurd he.symm (hN n' hn').2.2
      · rw [e, e'] at he
        exact absurd he (hN n hn).2.2
      · rw [e, e'] at he
        have := hinj n n' hn hn' he
        omega
  · obtain ⟨z1, z2⟩ := a4 a e ha
    have hne : hs.1 a ≠ none := by rw [z1]; simp
    refine ⟨?_, fun k i hv => ?_⟩
    · rw [hO a hne (z2 0 0 (vdJ (by decide))) (z2 2 0 (vdJ (by decide)))]
      exact z1
    · rcases vd_new hv with y | y
      · rw [am2_o y]
        exact z2 k i y
      · intro e'
        rw [e'] at hne
        exact hne (fresh k i y)
end KE
