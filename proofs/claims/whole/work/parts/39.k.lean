/-! the class at the reference's state: makeReady, note, pushFrame, give -/
section KA
variable {w : jw} {d : Nat} {hs : jh} {am : Nat → Int → Nat} {C S T : js} {g : Nat → Option va_E} {b : Nat × Nat}
/-- the ring holds jobs that are there -/
def A6 (C : js) : Prop := ∀ n, C 59 n < C 1 0
/-- the class's state lies on the heap, and agrees with S -/
def PR (w : jw) (am : Nat → Int → Nat) (S : js) (g : Nat → Option va_E) (b : Nat × Nat) (hs : jh) : Prop := ∃ C, RepC w am C g b hs ∧ Ag C S ∧ A6 C
theorem Ag.j1 (h : Ag C S) : C 1 0 = S 1 0 := h.a1 1 0 (by unfold cm; omega)
theorem A6.cg (h : A6 C) {D : js} (e : ∀ f i, (f = 1 ∨ f = 59) → D f i = C f i) : A6 D := fun n => by rw [e 1 0 (by omega), e 59 n (by omega)]; exact h n
theorem A6.ready (h : A6 C) {j x : Int} (hj : j < C 1 0) : A6 (c_ready C j x) := fun n => by
  obtain ⟨c0, c50, c51, c52, c23, c59, c61⟩ := c_ready_e (C := C) (j := j) (x := x)
  rw [c59, c0 1 0 (by decide) (by decide) (by decide) (by decide) (by decide) (by decide)]
  split
  · exact hj
  · exact h n
theorem Ag.ring (h : Ag C S) (hq : 0 ≤ S 7 0 ∧ S 7 0 < 24) : (0 ≤ C 60 0 ∧ C 60 0 < 24) ∧ 0 ≤ C 61 0 ∧ C 61 0 < 24 := by
  have a := h.a5
  exact ⟨a.2.1, by have := a.1; omega, by have := a.1; omega⟩
theorem k_ready {j x : Int} (hP : PR w am S g b hs) (hj : 0 ≤ j ∧ j < S 1 0) (hq : 0 ≤ S 7 0 ∧ S 7 0 < 24) : V jcl w m_J_makeReady (d + 1) 0 [(0, .ref (am 0 0)), (1, .ref (am 10 j)), (2, .int (ii x))] [] hs (fun o hs' => o = .inl none ∧ PR w am (z_putReady S j x) g b hs') := by
  obtain ⟨C, hC, hA, h6⟩ := hP
  have hC1 := hA.j1
  exact (c_makeReady hC (by omega) (hA.ring hq)).post fun o hs' ho => ⟨ho.1, _, ho.2, hA.ready hq, h6.ready (by omega)⟩
theorem k_note {v : Int} (hP : PR w am S g b hs) (hn : 0 ≤ S 3 0 ∧ S 3 0 < 2000000000) : V jcl w m_J_note d 0 [(0, .ref (am 0 0)), (1, .int (ii v))] [] hs (fun o hs' => o = .inl none ∧ PR w am (z_write S v) g b hs') := by
  obtain ⟨C, hC, hA, h6⟩ := hP
  have h3 : C 3 0 = S 3 0 := hA.a1 3 0 (by unfold cm; omega)
  exact (c_note hC (by omega)).post fun o hs' ho => ⟨ho.1, _, ho.2, hA.write, h6.cg fun f i hf => z_write_e.1 f i (by omega) (by omega)⟩
theorem k_push {j s p q q' k : Int} (hP : PR w am S g b hs) (hI : Iv S) (hj : 0 ≤ j ∧ j < S 1 0) (hf : S 21 j < 6) (hq : s = 1 ∨ s = 2 → q = q') : V jcl w m_B_pushFrame d 0 [(0, .ref (am 10 j)), (1, .int (ii s)), (2, .ref (am 6 p)), (3, .ref (am 6 q)), (4, .int (ii k))] [] hs (fun o hs' => o = .inl none ∧ PR w am (z_pushFrame S j p s q' k) g b hs') := by
  obtain ⟨C, hC, hA, h6⟩ := hP
  have hC1 := hA.j1
  have h21 : C 21 j = S 21 j := hA.a1 21 j (by unfold cm; omega)
  have hg : 0 ≤ S 21 j ∧ S 21 j ≤ 6 := (hI.gd.2.1 j hj.1 hj.2).2.2.2.1
  refine (c_pushFrame hC (by omega) (by omega)).post fun o hs' ho => ⟨ho.1, _, ho.2, hA.push hj (by omega) (fun i z1 z2 => (hI.gd.2.1 i z1 z2).2.2.2.1.2) hq, h6.cg fun f i hf => ?_⟩
  simp only [c_push]
  rw [up_f (by omega), up_f (by omega), up_f (by omega), up_f (by omega), up_f (by omega), up_f (by omega)]
theorem gv_stp {n : Nat} {j c : Int} (hc : S 16 c = j) : (if S 16 c = j ∧ S 25 c = 0 ∧ S 19 c < 0 then gvR n (up S 19 c 0) c else S) = z_gv n S c 0 := by
  unfold z_gv
  by_cases h1 : S 25 c = 0
  · by_cases h2 : S 19 c < 0
    · rw [if_pos ⟨hc, h1, h2⟩, if_neg (by omega), if_neg (by omega)]
    · rw [if_neg (fun z => h2 z.2.2), if_neg (by omega), if_pos (by omega), if_neg (by omega)]
  · rw [if_neg (fun z => h1 z.2.1), if_pos h1]
theorem k_give : ∀ (n : Nat) (S : js) (j x l : Int) (hs : jh), PR w am S g b hs → Iv S → 0 ≤ j ∧ j < S 1 0 → 0 ≤ x ∧ x ≤ 99 → l + n = 24 → 0 ≤ l → l ≤ j →
    V jcl w m_J_give (d + n + 2) 0 [(0, .ref (am 0 0)), (1, .ref (am 10 j)), (2, .int (ii x)), (3, .int (ii l))] [] hs (fun o hs' => o = .inl none ∧ PR w am (z_gv n S j x) g b hs') := by
  intro n
  induction n with
  | zero =>
    intro S j x l hs hP hI hj hx hl h0 h1
    have := hI.J
    omega
  | succ n ih =>
    intro S j x l hs hP hI hj hx hl h0 h1
    have hJ := hI.J
    have tail : ∀ (U : js) (hs : jh), PR w am U g b hs → Iv U → U 1 0 = S 1 0 → V jcl w m_J_give (d + (n + 1) + 2) 94 [(0, .ref (am 0 0)), (1, .ref (am 10 j))] [] hs (fun o hs' => o = .inl none ∧ PR w am (wk U j) g b hs') := by
      intro U hs hP hU hU1
      have hP' := hP
      obtain ⟨C, hC, hA, h6⟩ := hP
      have hC1 := hA.j1
      have h21 : C 21 j = U 21 j := hA.a1 21 j (by unfold cm; omega)
      have hg := hU.gd.2.1 j hj.1 (by omega)
      have hg21 : 0 ≤ U 21 j ∧ U 21 j ≤ 6 := hg.2.2.2.1
      have hg35 := hg.2.2.2.2.2.2.2
      have aw := (hA.a3 j hj.1 (by omega)).1
      have hw := (hU.wt j hj.1 (by omega)).1
      have hsh := hA.sh (j := j) ⟨hj.1, by omega⟩
      have h50 : (C 50 j = 1 ∨ C 50 j = 4 ∨ C 50 j = 5) ↔ (U 26 j = 1 ∨ U 26 j = 4 ∨ U 26 j = 5) := by omega
      have h50j : jr (C 50 j) := by omega
      have hr35 : ∀ i, j * 6 ≤ i → i < j * 6 + C 21 j → jr (C 35 i) := fun i z1 z2 => by
        have := (hA.a4 j i hj.1 (by omega) z1 (by omega)).2.2.1
        have := hg35 i z1 (by omega)
        omega
      have hq : (U 26 j = 1 ∨ U 26 j = 4 ∨ U 26 j = 5) → 0 ≤ U 7 0 ∧ U 7 0 < 24 := fun z => ⟨hU.gd.2.2.1.1, hU.gd.2.2.room (by omega) (k := j) (by omega) (hU.gd.2.2.nr (by omega))⟩
      have hzb : zb (z_shielded C j) = 0 ↔ z_shielded U j = false := by rw [hsh]; cases z_shielded U j <;> simp [zb]
      clear aw hw hg hg35
      first | refine V.aload_nR (pc := 94) d_J_give_94 rfl ?_ | refine V.aload_n (pc := 94) d_J_give_94 rfl ?_
      refine V.callV (pc := 95) d_J_give_95 Y_B_canBeWoken l_J_223 wi_B_canBeWoken wv_B_canBeWoken (ci := 3) rfl rfl [] (hC.oB (by first | assumption | omega | (simp [up, up_f] <;> omega))) rfl rfl ⟨by repeat (first | exact trivial | refine ⟨(by first | rfl | exact vrf_cat _), ?_⟩), Nat.le_of_ble_eq_true rfl⟩ ⟨⟨rfl, trivial⟩, Nat.le_of_ble_eq_true rfl⟩ (c_canBeWoken hC (by omega) h50j (by omega) hr35) (fun v hs ho => ?_) (fun E hs ho => by simp at ho)
      obtain ⟨r_95, ho, hr_95, rfl⟩ := ho
      cases ho
      refine Vi.if_eq (pc := 98) (tgt := 107) d_J_give_98 (by decide) (by first | assumption | decide | omega | (simp [up] <;> omega)) (fun c_98 => ?_) (fun c_98 => ?_)
      · refine V.return_ (pc := 107) d_J_give_107 rfl ?_
        refine ⟨rfl, ?_⟩
        unfold wk
        first | (rw [if_neg (fun z => by have := h50.2 z.1; have := hzb.2 z.2; omega)]; exact hP') | (rw [if_pos ⟨h50.1 (by omega), hzb.1 (by omega)⟩]; exact hP)
      · first | refine V.aload_nR (pc := 101) d_J_give_101 rfl ?_ | refine V.aload_n (pc := 101) d_J_give_101 rfl ?_
        first | refine V.aload_nR (pc := 102) d_J_give_102 rfl ?_ | refine V.aload_n (pc := 102) d_J_give_102 rfl ?_
        refine Vi.iconst (pc := 103) d_J_give_103 ?_
        refine V.callV (pc := 104) d_J_give_104 Y_J_makeReady l_J_154 wi_J_makeReady wv_J_makeReady (ci := 0) rfl rfl [_, _] hC.oJ rfl rfl ⟨by repeat (first | exact trivial | refine ⟨(by first | rfl | exact vrf_cat _), ?_⟩), Nat.le_of_ble_eq_true rfl⟩ ⟨⟨rfl, (by first | rfl | exact vrf_cat _), (by first | rfl | exact vrf_cat _), trivial⟩, Nat.le_of_ble_eq_true rfl⟩ (k_ready hP' (by omega) (hq (h50.1 (by omega)))) (fun v hs ho => ?_) (fun E hs ho => by simp at ho)
        obtain ⟨ho, hP⟩ := ho
        cases ho
        refine V.return_ (pc := 107) d_J_give_107 rfl ?_
        refine ⟨rfl, ?_⟩
        unfold wk
        first | (rw [if_neg (fun z => by have := h50.2 z.1; have := hzb.2 z.2; omega)]; exact hP') | (rw [if_pos ⟨h50.1 (by omega), hzb.1 (by omega)⟩]; exact hP)
    have lp : ∀ (q : Nat) (U : js) (c : Int) (hs : jh), PR w am U g b hs → Iv U → U 1 0 = S 1 0 → j < c → c ≤ S 1 0 → S 1 0 ≤ c + q → V jcl w m_J_give (d + (n + 1) + 2) 50 [(0, .ref (am 0 0)), (1, .ref (am 10 j)), (2, .int (ii x)), (3, .int (ii l)), (4, .int (ii c))] [] hs (fun o hs' => o = .inl none ∧ PR w am (wk (gvN (gvR n) j U c) j) g b hs') := by
      intro q
      induction q with
      | zero =>
        intro U c hs hP hU hU1 c1 c2 c3
        have hP' := hP
        obtain ⟨C, hC, hA, h6⟩ := hP
        have hC1 := hA.j1
        rw [gvN_end (by omega)]
        refine V.iload (pc := 50) d_J_give_50 rfl ?_
        first | refine V.aload_nR (pc := 52) d_J_give_52 rfl ?_ | refine V.aload_n (pc := 52) d_J_give_52 rfl ?_
        refine Vc.get_J (pc := 53) d_J_give_53 g_J_57 hC rfl ?_
        refine Vi.icmp_ge (pc := 56) (tgt := 94) d_J_give_56 (by decide) (by first | assumption | decide | omega | (simp [up] <;> omega)) (by first | assumption | decide | omega | (simp [up] <;> omega)) (fun c_56 => ?_) (fun c_56 => ?_)
        · exact V.lop (tail U hs hP' hU hU1) ⟨rfl, rfl, trivial⟩
        · omega
      | succ q ihq =>
        intro U c hs hP hU hU1 c1 c2 c3
        have hP' := hP
        obtain ⟨C, hC, hA, h6⟩ := hP
        have hC1 := hA.j1
        have h16 : C 16 c = U 16 c := hA.a1 16 c (by unfold cm; omega)
        have hgc : c < S 1 0 → -1 ≤ U 16 c ∧ U 16 c < c := fun z => (hU.gd.2.1 c (by omega) (by omega)).1
        have hrj : c < S 1 0 → (rj am (C 16 c) = some (am 10 j) ↔ C 16 c = j) := fun z => hC.rj_eq (by have := hgc z; omega) (by omega)
        have hgv := fun z : c < S 1 0 => z_gv_ok (n := n) hU (j := c) (x := 0) ⟨by omega, by omega⟩ (by omega)
        refine V.iload (pc := 50) d_J_give_50 rfl ?_
        first | refine V.aload_nR (pc := 52) d_J_give_52 rfl ?_ | refine V.aload_n (pc := 52) d_J_give_52 rfl ?_
        refine Vc.get_J (pc := 53) d_J_give_53 g_J_57 hC rfl ?_
        refine Vi.icmp_ge (pc := 56) (tgt := 94) d_J_give_56 (by decide) (by first | assumption | decide | omega | (simp [up] <;> omega)) (by first | assumption | decide | omega | (simp [up] <;> omega)) (fun c_56 => ?_) (fun c_56 => ?_)
        · rw [gvN_end (by omega)]
          exact V.lop (tail U _ hP' hU hU1) ⟨rfl, rfl, trivial⟩
        · first | refine V.aload_nR (pc := 59) d_J_give_59 rfl ?_ | refine V.aload_n (pc := 59) d_J_give_59 rfl ?_
          refine Vc.get_J (pc := 60) d_J_give_60 g_J_18 hC rfl ?_
          refine V.iload (pc := 63) d_J_give_63 rfl ?_
          refine Vc.ald_jobs (pc := 65) d_J_give_65 hC (by first | assumption | omega | (simp [up, up_f] <;> omega)) (by first | assumption | omega | (simp [up, up_f] <;> omega)) ?_
          refine Vc.get_B (pc := 66) d_J_give_66 g_J_109 hC (by first | assumption | omega | (simp [up, up_f] <;> omega)) rfl ?_
          first | refine V.aload_nR (pc := 69) d_J_give_69 rfl ?_ | refine V.aload_n (pc := 69) d_J_give_69 rfl ?_
          first | refine Vc.acmp_ne1 (pc := 70) (tgt := 88) d_J_give_70 (by decide) (fun c_70 => ?_) (fun c_70 => ?_) | refine Vc.acmp_ne2 (pc := 70) (tgt := 88) d_J_give_70 (by decide) (fun c_70 => ?_) (fun c_70 => ?_)
          · refine Vi.iinc (pc := 88) d_J_give_88 rfl (by decide) ?_
            refine V.goto (pc := 91) (tgt := 50) d_J_give_91 (by decide) ?_
            rw [gvN_step (by omega) (by omega)]
            first | (rw [if_neg (fun z => c_70 ((hrj (by omega)).2 (by rw [h16]; exact z.1)))]; exact V.lop (ihq U (c + 1) _ hP' hU hU1 (by omega) (by omega) (by omega)) ⟨rfl, rfl, rfl, rfl, rfl, trivial⟩) | (rw [gv_stp (by rw [← h16]; exact (hrj (by omega)).1 c_70)]; exact V.lop (ihq (z_gv n U c 0) (c + 1) _ hP (hgv (by omega)).1 (by rw [(hgv (by omega)).2 1 0 (by decide) (by decide) (by decide) (by decide) (by decide) (by decide) (by decide)]; exact hU1) (by omega) (by omega) (by omega)) ⟨rfl, rfl, rfl, rfl, rfl, trivial⟩)
          · first | refine V.aload_nR (pc := 73) d_J_give_73 rfl ?_ | refine V.aload_n (pc := 73) d_J_give_73 rfl ?_
            first | refine V.aload_nR (pc := 74) d_J_give_74 rfl ?_ | refine V.aload_n (pc := 74) d_J_give_74 rfl ?_
            refine Vc.get_J (pc := 75) d_J_give_75 g_J_18 hC rfl ?_
            refine V.iload (pc := 78) d_J_give_78 rfl ?_
            refine Vc.ald_jobs (pc := 80) d_J_give_80 hC (by first | assumption | omega | (simp [up, up_f] <;> omega)) (by first | assumption | omega | (simp [up, up_f] <;> omega)) ?_
            refine Vi.iconst (pc := 81) d_J_give_81 ?_
            refine V.iload_n (pc := 82) d_J_give_82 rfl ?_
            refine Vi.iconst (pc := 83) d_J_give_83 ?_
            refine Vi.iadd (pc := 84) d_J_give_84 ?_
            refine V.callV (pc := 85) d_J_give_85 Y_J_give l_J_78 wi_J_give wv_J_give (ci := 0) rfl rfl [_, _, _] hC.oJ rfl rfl ⟨by repeat (first | exact trivial | refine ⟨(by first | rfl | exact vrf_cat _), ?_⟩), Nat.le_of_ble_eq_true rfl⟩ ⟨⟨rfl, (by first | rfl | exact vrf_cat _), (by first | rfl | exact vrf_cat _), (by first | rfl | exact vrf_cat _), trivial⟩, Nat.le_of_ble_eq_true rfl⟩ (ih U c 0 (l + 1) _ hP' hU (by omega) (by omega) (by omega) (by omega) (by omega)) (fun v hs ho => ?_) (fun E hs ho => by simp at ho)
            obtain ⟨ho, hP⟩ := ho
            cases ho
            refine Vi.iinc (pc := 88) d_J_give_88 rfl (by decide) ?_
            refine V.goto (pc := 91) (tgt := 50) d_J_give_91 (by decide) ?_
            rw [gvN_step (by omega) (by omega)]
            first | (rw [if_neg (fun z => c_70 ((hrj (by omega)).2 (by rw [h16]; exact z.1)))]; exact V.lop (ihq U (c + 1) _ hP' hU hU1 (by omega) (by omega) (by omega)) ⟨rfl, rfl, rfl, rfl, rfl, trivial⟩) | (rw [gv_stp (by rw [← h16]; exact (hrj (by omega)).1 c_70)]; exact V.lop (ihq (z_gv n U c 0) (c + 1) _ hP (hgv (by omega)).1 (by rw [(hgv (by omega)).2 1 0 (by decide) (by decide) (by decide) (by decide) (by decide) (by decide) (by decide)]; exact hU1) (by omega) (by omega) (by omega)) ⟨rfl, rfl, rfl, rfl, rfl, trivial⟩)
    have hP' := hP
    obtain ⟨C, hC, hA, h6⟩ := hP
    have hC1 := hA.j1
    have h25 : C 25 j = S 25 j := hA.a1 25 j (by unfold cm; omega)
    have h19 : C 19 j = S 19 j := hA.a1 19 j (by unfold cm; omega)
    have h20 : C 20 j = S 20 j := hA.a1 20 j (by unfold cm; omega)
    have hg := hI.gd.2.1 j hj.1 hj.2
    have hg19 : -1 ≤ S 19 j ∧ S 19 j ≤ 99 := hg.2.2.1
    have hg25 : S 25 j = 0 ∨ S 25 j = 1 := hg.2.2.2.2.2.1
    clear hg
    first | refine V.aload_nR (pc := 0) d_J_give_0 rfl ?_ | refine V.aload_n (pc := 0) d_J_give_0 rfl ?_
    refine Vc.get_B (pc := 1) d_J_give_1 g_J_71 hC (by first | assumption | omega | (simp [up, up_f] <;> omega)) rfl ?_
    refine Vi.if_ne (pc := 4) (tgt := 13) d_J_give_4 (by decide) (by first | assumption | decide | omega | (simp [up] <;> omega)) (fun c_4 => ?_) (fun c_4 => ?_)
    · refine V.return_ (pc := 13) d_J_give_13 rfl ?_
      refine ⟨rfl, ?_⟩
      unfold z_gv
      first | (exfalso; omega) | (rw [if_pos (by omega)]; exact hP') | (rw [if_neg (by omega), if_pos (by omega), if_neg (by omega)]; exact hP') | (rw [if_neg (by omega), if_pos (by omega), if_pos (by omega)]; rw [h20] at hC; exact ⟨_, hC, hA.cm2 (by omega) hj, h6.cg fun f i hf => up_f (by omega)⟩)
    · refine V.iload_n (pc := 7) d_J_give_7 rfl ?_
      refine Vi.bipush (pc := 8) d_J_give_8 (by decide) ?_
      refine Vi.icmp_lt (pc := 10) (tgt := 14) d_J_give_10 (by decide) (by first | assumption | decide | omega | (simp [up] <;> omega)) (by first | assumption | decide | omega | (simp [up] <;> omega)) (fun c_10 => ?_) (fun c_10 => ?_)
      · first | refine V.aload_nR (pc := 14) d_J_give_14 rfl ?_ | refine V.aload_n (pc := 14) d_J_give_14 rfl ?_
        refine Vc.get_B (pc := 15) d_J_give_15 g_J_75 hC (by first | assumption | omega | (simp [up, up_f] <;> omega)) rfl ?_
        refine Vi.iconst (pc := 18) d_J_give_18 ?_
        refine Vi.icmp_eq (pc := 19) (tgt := 37) d_J_give_19 (by decide) (by first | assumption | decide | omega | (simp [up] <;> omega)) (by first | assumption | decide | omega | (simp [up] <;> omega)) (fun c_19 => ?_) (fun c_19 => ?_)
        · first | refine V.aload_nR (pc := 37) d_J_give_37 rfl ?_ | refine V.aload_n (pc := 37) d_J_give_37 rfl ?_
          refine V.iload_n (pc := 38) d_J_give_38 rfl ?_
          refine Vc.put_B9 (pc := 39) d_J_give_39 f_J_75 hC (by first | assumption | omega | (simp [up, up_f] <;> omega)) (fun hs hC => ?_)
          have hP1 : PR w am (up S 19 j x) g b hs := ⟨_, hC, hA.cm1 (by omega), h6.cg fun f i hf => up_f (by omega)⟩
          first | refine V.aload_nR (pc := 42) d_J_give_42 rfl ?_ | refine V.aload_n (pc := 42) d_J_give_42 rfl ?_
          refine Vc.get_B (pc := 43) d_J_give_43 g_J_64 hC (by first | assumption | omega | (simp [up, up_f] <;> omega)) rfl ?_
          refine Vi.iconst (pc := 46) d_J_give_46 ?_
          refine Vi.iadd (pc := 47) d_J_give_47 ?_
          refine V.istore (pc := 48) d_J_give_48 (by decide) ?_
          have e0 : z_gv (n + 1) S j x = wk (gvN (gvR n) j (up S 19 j x) (j + 1)) j := (by unfold z_gv; rw [if_neg (by omega), if_neg (by omega), gvR, gvN_skip (by rw [up_f (by decide)]; omega) (j + 1).toNat 0 (c := j + 1) (by omega) (by rw [up_f (by decide)]; omega) (fun i z1 z2 z3 => by rw [up_f (by decide)] at z3; have := (hI.gd.2.1 i z1 (by omega)).1; omega)])
          rw [e0]
          exact V.lop (lp 24 (up S 19 j x) (j + 1) _ hP1 (hI.cause (by omega)) (up_f (by decide)) (by omega) (by omega) (by omega)) ⟨rfl, rfl, rfl, rfl, rfl, trivial⟩
        · refine V.iload_n (pc := 22) d_J_give_22 rfl ?_
          refine Vi.if_eq (pc := 23) (tgt := 36) d_J_give_23 (by decide) (by first | assumption | decide | omega | (simp [up] <;> omega)) (fun c_23 => ?_) (fun c_23 => ?_)
          · refine V.return_ (pc := 36) d_J_give_36 rfl ?_
            refine ⟨rfl, ?_⟩
            unfold z_gv
            first | (exfalso; omega) | (rw [if_pos (by omega)]; exact hP') | (rw [if_neg (by omega), if_pos (by omega), if_neg (by omega)]; exact hP') | (rw [if_neg (by omega), if_pos (by omega), if_pos (by omega)]; rw [h20] at hC; exact ⟨_, hC, hA.cm2 (by omega) hj, h6.cg fun f i hf => up_f (by omega)⟩)
          · first | refine V.aload_nR (pc := 26) d_J_give_26 rfl ?_ | refine V.aload_n (pc := 26) d_J_give_26 rfl ?_
            refine V.dup (pc := 27) d_J_give_27 (by first | rfl | exact vrf_cat _) ?_
            refine Vc.get_B (pc := 28) d_J_give_28 g_J_120 hC (by first | assumption | omega | (simp [up, up_f] <;> omega)) rfl ?_
            refine Vi.iconst (pc := 31) d_J_give_31 ?_
            refine Vi.iadd (pc := 32) d_J_give_32 ?_
            refine Vc.put_B10 (pc := 33) d_J_give_33 f_J_120 hC (by first | assumption | omega | (simp [up, up_f] <;> omega)) (fun hs hC => ?_)
            refine V.return_ (pc := 36) d_J_give_36 rfl ?_
            refine ⟨rfl, ?_⟩
            unfold z_gv
            first | (exfalso; omega) | (rw [if_pos (by omega)]; exact hP') | (rw [if_neg (by omega), if_pos (by omega), if_neg (by omega)]; exact hP') | (rw [if_neg (by omega), if_pos (by omega), if_pos (by omega)]; rw [h20] at hC; exact ⟨_, hC, hA.cm2 (by omega) hj, h6.cg fun f i hf => up_f (by omega)⟩)
      · refine V.return_ (pc := 13) d_J_give_13 rfl ?_
        refine ⟨rfl, ?_⟩
        unfold z_gv
        first | (exfalso; omega) | (rw [if_pos (by omega)]; exact hP') | (rw [if_neg (by omega), if_pos (by omega), if_neg (by omega)]; exact hP') | (rw [if_neg (by omega), if_pos (by omega), if_pos (by omega)]; rw [h20] at hC; exact ⟨_, hC, hA.cm2 (by omega) hj, h6.cg fun f i hf => up_f (by omega)⟩)
theorem k_give0 {j x : Int} (hP : PR w am S g b hs) (hI : Iv S) (hj : 0 ≤ j ∧ j < S 1 0) (hx : 0 ≤ x ∧ x ≤ 99) : V jcl w m_J_give (d + 26) 0 [(0, .ref (am 0 0)), (1, .ref (am 10 j)), (2, .int (ii x)), (3, .int (ii 0))] [] hs (fun o hs' => o = .inl none ∧ PR w am (z_give S j x) g b hs') :=
  k_give (d := d) 24 S j x 0 hs hP hI hj hx (by omega) (by omega) hj.1
end KA
