/-! the reference's give is gvR -/
section R7
variable {w : jw} {d : Nat} {hs : jh} {mo : Nat} {ra : Nat → Nat} {S : js} {g : Nat → Option va_E} {b : Nat × Nat}
theorem u_putReady {j x : Int} (hU : RepU w mo ra S g b hs) (hj : 0 ≤ j ∧ j < 24) (hq : 0 ≤ S 7 0 ∧ S 7 0 < 24) :
    V jcl w m_R_putReady d 0 [(0, .ref mo), (1, .int (ii j)), (2, .int (ii x))] [] hs (fun o hs' => o = .inl none ∧ RepU w mo ra (z_putReady S j x) g b hs') := by
  first | refine V.aload_nR (pc := 0) d_R_putReady_0 rfl ?_ | refine V.aload_n (pc := 0) d_R_putReady_0 rfl ?_
  refine Vu.get d_R_putReady_1 g_R_91 hU rfl ?_
  refine V.iload_n (pc := 4) d_R_putReady_4 rfl ?_
  refine Vi.iconst (pc := 5) d_R_putReady_5 ?_
  refine Vu.ast (n := 24) d_R_putReady_6 hU (by decide) rfl (by first | assumption | decide | omega | (simp [up] <;> omega)) (fun hs hU => ?_)
  first | refine V.aload_nR (pc := 7) d_R_putReady_7 rfl ?_ | refine V.aload_n (pc := 7) d_R_putReady_7 rfl ?_
  refine Vu.get d_R_putReady_8 g_R_100 hU rfl ?_
  refine V.iload_n (pc := 11) d_R_putReady_11 rfl ?_
  refine Vi.iconst (pc := 12) d_R_putReady_12 ?_
  refine Vu.ast (n := 24) d_R_putReady_13 hU (by decide) rfl (by first | assumption | decide | omega | (simp [up] <;> omega)) (fun hs hU => ?_)
  first | refine V.aload_nR (pc := 14) d_R_putReady_14 rfl ?_ | refine V.aload_n (pc := 14) d_R_putReady_14 rfl ?_
  refine Vu.get d_R_putReady_15 g_R_81 hU rfl ?_
  refine V.iload_n (pc := 18) d_R_putReady_18 rfl ?_
  refine V.iload_n (pc := 19) d_R_putReady_19 rfl ?_
  refine Vu.ast (n := 24) d_R_putReady_20 hU (by decide) rfl (by first | assumption | decide | omega | (simp [up] <;> omega)) (fun hs hU => ?_)
  first | refine V.aload_nR (pc := 21) d_R_putReady_21 rfl ?_ | refine V.aload_n (pc := 21) d_R_putReady_21 rfl ?_
  refine Vu.get d_R_putReady_22 g_R_127 hU rfl ?_
  first | refine V.aload_nR (pc := 25) d_R_putReady_25 rfl ?_ | refine V.aload_n (pc := 25) d_R_putReady_25 rfl ?_
  refine Vu.get d_R_putReady_26 g_R_31 hU rfl ?_
  refine V.iload_n (pc := 29) d_R_putReady_29 rfl ?_
  refine Vu.ast (n := 24) d_R_putReady_30 hU (by decide) rfl (by first | assumption | decide | omega | (simp [up] <;> omega)) (fun hs hU => ?_)
  first | refine V.aload_nR (pc := 31) d_R_putReady_31 rfl ?_ | refine V.aload_n (pc := 31) d_R_putReady_31 rfl ?_
  refine V.dup (pc := 32) d_R_putReady_32 (by first | rfl | exact vrf_cat _) ?_
  refine Vu.get d_R_putReady_33 g_R_31 hU rfl ?_
  refine Vi.iconst (pc := 36) d_R_putReady_36 ?_
  refine Vi.iadd (pc := 37) d_R_putReady_37 ?_
  refine Vu.put7 d_R_putReady_38 f_R_31 hU (fun hs hU => ?_)
  refine V.return_ (pc := 41) d_R_putReady_41 rfl ?_
  exact ⟨rfl, by simpa [z_putReady, up_f] using hU⟩
theorem r_nextChild0 {j k : Int} (hR : RepR w mo ra S g b hs) (hj : jr j) (hJ : 0 ≤ S 1 0 ∧ S 1 0 ≤ 24) (hp : ∀ i, 0 ≤ i → i < S 1 0 → jr (S 16 i) ∧ jr (S 25 i)) (hk : 0 ≤ k ∧ k ≤ 24) :
    V jcl w m_R_nextChild d 0 [(0, .ref mo), (1, .int (ii j)), (2, .int (ii k))] [] hs (fun o hs' => o = .inl (some (.int (ii (z_nextChild S j 25 k)))) ∧ hs' = hs) := by
  refine V.iload_n (pc := 0) d_R_nextChild_0 rfl ?_
  refine V.istore_n (pc := 1) d_R_nextChild_1 (by decide) ?_
  exact V.lop (r_nextChild hR hj hJ hp 24 k hk.1 hk.2 (by omega)) ⟨rfl, rfl, rfl, trivial⟩
def un : List (Int × Int) → js → js
  | [], S => S
  | (k, n) :: t, S => un t (wk (gvN (gvR (23 - t.length)) k S n) k)
def SK (S S' : js) : List (Int × Int) → Prop
  | [] => True
  | (k, n) :: t => S' 39 t.length = k ∧ S' 40 t.length = n ∧ (0 ≤ n ∧ n ≤ 24) ∧ ((t.length : Int) ≤ k ∧ k < S 1 0) ∧ SK S S' t
def pt : List (Int × Int) → Int
  | [] => 0
  | (_, n) :: t => (26 - n) + pt t
theorem SK.to {S S' T T' : js} (h1 : T 1 0 = S 1 0) : ∀ {t : List (Int × Int)}, (∀ i, 0 ≤ i → i < t.length → T' 39 i = S' 39 i ∧ T' 40 i = S' 40 i) → SK S S' t → SK T T' t
  | [], _, _ => trivial
  | (k, n) :: t, h, hs => by
    obtain ⟨a1, a2, a3, a4, a5⟩ := hs
    have h0 := h t.length (by omega) (by simp)
    exact ⟨h0.1.trans a1, h0.2.trans a2, a3, by rw [h1]; exact a4, SK.to h1 (fun i z1 z2 => h i z1 (by simp; omega)) a5⟩
theorem SK.nn {S S' : js} : ∀ {t : List (Int × Int)}, SK S S' t → 0 ≤ pt t
  | [], _ => Int.le_refl _
  | (k, n) :: t, hs => by
    obtain ⟨a1, a2, a3, a4, a5⟩ := hs
    have := SK.nn a5
    rw [pt]
    omega
theorem Gd.c {c x : Int} (h : Gd S) (hx : -1 ≤ x ∧ x ≤ 99) : Gd (up S 19 c x) := by
  obtain ⟨h1, h2, h3⟩ := h
  refine ⟨by simpa [up] using h1, fun i z1 z2 => ?_, ?_⟩
  · have hi := h2 i z1 (by simpa [up] using z2)
    unfold GJ at hi ⊢
    obtain ⟨a1, a2, a3, a4, a5, a6, a7, a8⟩ := hi
    refine ⟨by simpa [up] using a1, by simpa [up] using a2, ?_, by simpa [up] using a4, by simpa [up] using a5, by simpa [up] using a6, by simpa [up] using a7, by simpa [up] using a8⟩
    by_cases hc : i = c
    · subst hc; rw [up_s]; exact hx
    · rw [up_i hc]; exact a3
  · unfold Rq at h3 ⊢
    simpa [up] using h3
theorem Gd.put {k x : Int} (h : Gd S) (hk : 0 ≤ k ∧ k < S 1 0) (hn : NR S k) : Gd (z_putReady S k x) := by
  have h4 := h.2.2.put h.1.2 (x := x) hk hn
  obtain ⟨h1, h2, h3⟩ := h
  refine ⟨by simpa [z_putReady, up] using h1, fun i z1 z2 => ?_, h4⟩
  have hi := h2 i z1 (by simpa [z_putReady, up] using z2)
  unfold GJ at hi ⊢
  obtain ⟨a1, a2, a3, a4, a5, a6, a7, a8⟩ := hi
  refine ⟨by simpa [z_putReady, up] using a1, by simpa [z_putReady, up] using a2, by simpa [z_putReady, up] using a3, by simpa [z_putReady, up] using a4, by simpa [z_putReady, up] using a5, by simpa [z_putReady, up] using a6, ?_, by simpa [z_putReady, up] using a8⟩
  have e : z_putReady S k x 26 i = if i = k then 0 else S 26 i := by simp [z_putReady, up]
  rw [e]
  split <;> omega
theorem Gd.wkk {k : Int} (h : Gd S) (hk : 0 ≤ k ∧ k < S 1 0) : Gd (wk S k) := by
  unfold wk
  split
  · exact h.put hk (h.2.2.nr (by omega))
  · exact h
theorem r_gl {j x : Int} : ∀ (P : Nat) (S S' : js) (stk : List (Int × Int)) (hs : jh), RepU w mo ra S' g b hs → (∀ f i, f ≠ 39 → f ≠ 40 → S' f i = S f i) → Gd S → SK S S' stk → 700 * cA S 24 + pt stk < P →
    V jcl w m_R_give (d + 1) 59 [(0, .ref mo), (1, .int (ii j)), (2, .int (ii x)), (3, .int (ii stk.length))] [] hs (fun o hs' => o = .inl (some (.int (ii 1))) ∧ RepR w mo ra (un stk S) g b hs') := by
  intro P
  induction P with
  | zero =>
    intro S S' stk hs hU he hG hK hp
    have := cA_nn S 24
    have := hK.nn
    omega
  | succ P ih =>
    intro S S' stk hs hU he hG hK hp
    cases stk with
    | nil =>
      refine V.iload_n (pc := 59) d_R_give_59 rfl ?_
      refine Vi.if_le (pc := 60) (tgt := 203) d_R_give_60 (by decide) (by decide) (fun c_60 => ?_) (fun c_60 => ?_)
      · refine Vi.iconst (pc := 203) d_R_give_203 ?_
        refine Vi.zreturn (pc := 204) d_R_give_204 rfl (by omega) ?_
        exact ⟨rfl, S', hU, he⟩
      · exact absurd c_60 (by decide)
    | cons q t =>
      obtain ⟨k, n⟩ := q
      obtain ⟨a1, a2, a3, a4, a5⟩ := hK
      have hlen : (((k, n) :: t).length : Int) = t.length + 1 := by simp
      rw [hlen]
      have hJ := hG.1
      have e1 : S' 1 0 = S 1 0 := he 1 0 (by decide) (by decide)
      have hGk := hG.2.1 k (by omega) a4.2
      unfold GJ at hGk
      obtain ⟨g1, g2, g3, g4, g5, g6, g7, g8⟩ := hGk
      have e7 : S' 7 0 = S 7 0 := he 7 0 (by decide) (by decide)
      have e26 : S' 26 k = S 26 k := he 26 k (by decide) (by decide)
      have b1 : S' 39 ((t.length : Int) + 1 - 1) = k := by rw [Int.add_sub_cancel]; exact a1
      have b2 : S' 40 ((t.length : Int) + 1 - 1) = n := by rw [Int.add_sub_cancel]; exact a2
      have hQ : RepR w mo ra S g b hs := ⟨S', hU, he⟩
      have hnx := zNC (S := S) (j := k) 24 n (by omega) (by omega)
      refine V.iload_n (pc := 59) d_R_give_59 rfl ?_
      refine Vi.if_le (pc := 60) (tgt := 203) d_R_give_60 (by decide) (by omega) (fun c_60 => ?_) (fun c_60 => ?_)
      · omega
      · first | refine V.aload_nR (pc := 63) d_R_give_63 rfl ?_ | refine V.aload_n (pc := 63) d_R_give_63 rfl ?_
        refine Vu.get d_R_give_64 g_R_130 hU rfl ?_
        refine V.iload_n (pc := 67) d_R_give_67 rfl ?_
        refine Vi.iconst (pc := 68) d_R_give_68 ?_
        refine Vi.isub (pc := 69) d_R_give_69 ?_
        refine Vu.ald (n := 24) d_R_give_70 hU (by decide) rfl (by first | assumption | decide | omega | (simp [up] <;> omega)) ?_
        rw [b1]
        refine V.istore (pc := 71) d_R_give_71 (by decide) ?_
        first | refine V.aload_nR (pc := 73) d_R_give_73 rfl ?_ | refine V.aload_n (pc := 73) d_R_give_73 rfl ?_
        refine V.iload (pc := 74) d_R_give_74 rfl ?_
        first | refine V.aload_nR (pc := 76) d_R_give_76 rfl ?_ | refine V.aload_n (pc := 76) d_R_give_76 rfl ?_
        refine Vu.get d_R_give_77 g_R_133 hU rfl ?_
        refine V.iload_n (pc := 80) d_R_give_80 rfl ?_
        refine Vi.iconst (pc := 81) d_R_give_81 ?_
        refine Vi.isub (pc := 82) d_R_give_82 ?_
        refine Vu.ald (n := 24) d_R_give_83 hU (by decide) rfl (by first | assumption | decide | omega | (simp [up] <;> omega)) ?_
        rw [b2]
        refine V.callV (pc := 84) d_R_give_84 Y_R_nextChild l_R_162 wi_R_nextChild wv_R_nextChild (ci := 6) rfl rfl [_, _] hU.2.1 rfl rfl ⟨by repeat (first | exact trivial | refine ⟨(by first | rfl | exact vrf_cat _), ?_⟩), Nat.le_of_ble_eq_true rfl⟩ ⟨⟨rfl, (by first | rfl | exact vrf_cat _), (by first | rfl | exact vrf_cat _), trivial⟩, Nat.le_of_ble_eq_true rfl⟩ (r_nextChild0 hQ (by omega) hJ (fun i z1 z2 => ⟨by have := (hG.2.1 i z1 z2).1; omega, by have := (hG.2.1 i z1 z2).2.2.2.2.2.1; omega⟩) (by omega)) (fun v hs ho => ?_) (fun E hs ho => by simp at ho)
        obtain ⟨ho, rfl⟩ := ho
        cases ho
        generalize z_nextChild S k 25 n = c at hnx ⊢
        refine V.istore (pc := 87) d_R_give_87 (by decide) ?_
        refine V.iload (pc := 89) d_R_give_89 rfl ?_
        rcases hnx with ⟨rfl, hno⟩ | ⟨y1, y2, y3, y4, y5⟩
        · refine Vi.if_lt (pc := 91) (tgt := 148) d_R_give_91 (by decide) (by decide) (fun c_91 => ?_) (fun c_91 => ?_)
          · have eun : un ((k, n) :: t) S = un t (wk S k) := by
              rw [un]
              rcases Int.le_total (S 1 0) n with z | z
              · rw [gvN_end z]
              · rw [gvN_skip hJ.2 (S 1 0 - n).toNat n (c := S 1 0) (by omega) (Int.le_refl _) hno, gvN_end (Int.le_refl _)]
            rw [eun]
            have hpt : 700 * cA S 24 + pt t < P := by rw [pt] at hp; omega
            refine Vi.iinc (pc := 148) d_R_give_148 rfl (by decide) ?_
            rw [show (t.length : Int) + 1 + -1 = t.length by omega]
            first | refine V.aload_nR (pc := 151) d_R_give_151 rfl ?_ | refine V.aload_n (pc := 151) d_R_give_151 rfl ?_
            refine Vu.get d_R_give_152 g_R_91 hU rfl ?_
            refine V.iload (pc := 155) d_R_give_155 rfl ?_
            refine Vu.ald (n := 24) d_R_give_157 hU (by decide) rfl (by first | assumption | decide | omega | (simp [up] <;> omega)) ?_
            refine Vi.iconst (pc := 158) d_R_give_158 ?_
            refine Vi.icmp_eq (pc := 159) (tgt := 184) d_R_give_159 (by decide) (by first | assumption | decide | omega | (simp [up] <;> omega)) (by first | assumption | decide | omega | (simp [up] <;> omega)) (fun c_159 => ?_) (fun c_159 => ?_)
            · first | refine V.aload_nR (pc := 184) d_R_give_184 rfl ?_ | refine V.aload_n (pc := 184) d_R_give_184 rfl ?_
              refine V.iload (pc := 185) d_R_give_185 rfl ?_
              refine V.callV (pc := 187) d_R_give_187 Y_R_shielded l_R_166 wi_R_shielded wv_R_shielded (ci := 6) rfl rfl [_] hU.2.1 rfl rfl ⟨by repeat (first | exact trivial | refine ⟨(by first | rfl | exact vrf_cat _), ?_⟩), Nat.le_of_ble_eq_true rfl⟩ ⟨⟨rfl, (by first | rfl | exact vrf_cat _), trivial⟩, Nat.le_of_ble_eq_true rfl⟩ (r_shielded hQ (by omega) g4 (fun i z1 z2 => by have := g8 i z1 z2; omega)) (fun v hs ho => ?_) (fun E hs ho => by simp at ho)
              obtain ⟨ho, rfl⟩ := ho
              cases ho
              generalize hz_187 : z_shielded S k = sh_187
              have hzb_187 : zb sh_187 = 0 ∨ zb sh_187 = 1 := by cases sh_187 <;> simp [zb]
              refine Vi.if_ne (pc := 190) (tgt := 200) d_R_give_190 (by decide) (by first | assumption | decide | omega | (simp [up] <;> omega)) (fun c_190 => ?_) (fun c_190 => ?_)
              · refine V.goto (pc := 200) (tgt := 59) d_R_give_200 (by decide) ?_
                first | (rw [wk, if_neg (fun z => by omega)]; exact V.lop (ih S S' t hs hU he hG a5 hpt) ⟨rfl, rfl, rfl, rfl, trivial⟩) | (rw [wk, if_neg (fun z => by simp_all [zb])]; exact V.lop (ih S S' t hs hU he hG a5 hpt) ⟨rfl, rfl, rfl, rfl, trivial⟩)
              · first | refine V.aload_nR (pc := 193) d_R_give_193 rfl ?_ | refine V.aload_n (pc := 193) d_R_give_193 rfl ?_
                refine V.iload (pc := 194) d_R_give_194 rfl ?_
                refine Vi.iconst (pc := 196) d_R_give_196 ?_
                refine V.callV (pc := 197) d_R_give_197 Y_R_putReady l_R_154 wi_R_putReady wv_R_putReady (ci := 6) rfl rfl [_, _] hU.2.1 rfl rfl ⟨by repeat (first | exact trivial | refine ⟨(by first | rfl | exact vrf_cat _), ?_⟩), Nat.le_of_ble_eq_true rfl⟩ ⟨⟨rfl, (by first | rfl | exact vrf_cat _), (by first | rfl | exact vrf_cat _), trivial⟩, Nat.le_of_ble_eq_true rfl⟩ (u_putReady hU (by omega) (by have := hG.2.2.room hJ.2 (k := k) (by omega) (hG.2.2.nr (by omega)); have := hG.2.2.1; omega)) (fun v hs ho => ?_) (fun E hs ho => by simp at ho)
                obtain ⟨ho, hU⟩ := ho
                cases ho
                refine V.goto (pc := 200) (tgt := 59) d_R_give_200 (by decide) ?_
                have hsh : z_shielded S k = false := by cases hq : z_shielded S k <;> simp_all [zb]
                rw [wk, if_pos ⟨by omega, hsh⟩]
                exact V.lop (ih (z_putReady S k 0) _ t _ hU (fun f i z1 z2 => by simp only [z_putReady, up, he f i z1 z2, he 7 0 (by decide) (by decide)]) (hG.put (by omega) (hG.2.2.nr (by omega))) (a5.to (by simp [z_putReady, up]) (fun i z1 z2 => by simp [z_putReady, up])) (by rw [cA_congr (S := S) (fun i => by simp [z_putReady, up])]; exact hpt)) ⟨rfl, rfl, rfl, rfl, trivial⟩
            · first | refine V.aload_nR (pc := 162) d_R_give_162 rfl ?_ | refine V.aload_n (pc := 162) d_R_give_162 rfl ?_
              refine Vu.get d_R_give_163 g_R_91 hU rfl ?_
              refine V.iload (pc := 166) d_R_give_166 rfl ?_
              refine Vu.ald (n := 24) d_R_give_168 hU (by decide) rfl (by first | assumption | decide | omega | (simp [up] <;> omega)) ?_
              refine Vi.iconst (pc := 169) d_R_give_169 ?_
              refine Vi.icmp_eq (pc := 170) (tgt := 184) d_R_give_170 (by decide) (by first | assumption | decide | omega | (simp [up] <;> omega)) (by first | assumption | decide | omega | (simp [up] <;> omega)) (fun c_170 => ?_) (fun c_170 => ?_)
              · first | refine V.aload_nR (pc := 184) d_R_give_184 rfl ?_ | refine V.aload_n (pc := 184) d_R_give_184 rfl ?_
                refine V.iload (pc := 185) d_R_give_185 rfl ?_
                refine V.callV (pc := 187) d_R_give_187 Y_R_shielded l_R_166 wi_R_shielded wv_R_shielded (ci := 6) rfl rfl [_] hU.2.1 rfl rfl ⟨by repeat (first | exact trivial | refine ⟨(by first | rfl | exact vrf_cat _), ?_⟩), Nat.le_of_ble_eq_true rfl⟩ ⟨⟨rfl, (by first | rfl | exact vrf_cat _), trivial⟩, Nat.le_of_ble_eq_true rfl⟩ (r_shielded hQ (by omega) g4 (fun i z1 z2 => by have := g8 i z1 z2; omega)) (fun v hs ho => ?_) (fun E hs ho => by simp at ho)
                obtain ⟨ho, rfl⟩ := ho
                cases ho
                generalize hz_187 : z_shielded S k = sh_187
                have hzb_187 : zb sh_187 = 0 ∨ zb sh_187 = 1 := by cases sh_187 <;> simp [zb]
                refine Vi.if_ne (pc := 190) (tgt := 200) d_R_give_190 (by decide) (by first | assumption | decide | omega | (simp [up] <;> omega)) (fun c_190 => ?_) (fun c_190 => ?_)
                · refine V.goto (pc := 200) (tgt := 59) d_R_give_200 (by decide) ?_
                  first | (rw [wk, if_neg (fun z => by omega)]; exact V.lop (ih S S' t hs hU he hG a5 hpt) ⟨rfl, rfl, rfl, rfl, trivial⟩) | (rw [wk, if_neg (fun z => by simp_all [zb])]; exact V.lop (ih S S' t hs hU he hG a5 hpt) ⟨rfl, rfl, rfl, rfl, trivial⟩)
                · first | refine V.aload_nR (pc := 193) d_R_give_193 rfl ?_ | refine V.aload_n (pc := 193) d_R_give_193 rfl ?_
                  refine V.iload (pc := 194) d_R_give_194 rfl ?_
                  refine Vi.iconst (pc := 196) d_R_give_196 ?_
                  refine V.callV (pc := 197) d_R_give_197 Y_R_putReady l_R_154 wi_R_putReady wv_R_putReady (ci := 6) rfl rfl [_, _] hU.2.1 rfl rfl ⟨by repeat (first | exact trivial | refine ⟨(by first | rfl | exact vrf_cat _), ?_⟩), Nat.le_of_ble_eq_true rfl⟩ ⟨⟨rfl, (by first | rfl | exact vrf_cat _), (by first | rfl | exact vrf_cat _), trivial⟩, Nat.le_of_ble_eq_true rfl⟩ (u_putReady hU (by omega) (by have := hG.2.2.room hJ.2 (k := k) (by omega) (hG.2.2.nr (by omega)); have := hG.2.2.1; omega)) (fun v hs ho => ?_) (fun E hs ho => by simp at ho)
                  obtain ⟨ho, hU⟩ := ho
                  cases ho
                  refine V.goto (pc := 200) (tgt := 59) d_R_give_200 (by decide) ?_
                  have hsh : z_shielded S k = false := by cases hq : z_shielded S k <;> simp_all [zb]
                  rw [wk, if_pos ⟨by omega, hsh⟩]
                  exact V.lop (ih (z_putReady S k 0) _ t _ hU (fun f i z1 z2 => by simp only [z_putReady, up, he f i z1 z2, he 7 0 (by decide) (by decide)]) (hG.put (by omega) (hG.2.2.nr (by omega))) (a5.to (by simp [z_putReady, up]) (fun i z1 z2 => by simp [z_putReady, up])) (by rw [cA_congr (S := S) (fun i => by simp [z_putReady, up])]; exact hpt)) ⟨rfl, rfl, rfl, rfl, trivial⟩
              · first | refine V.aload_nR (pc := 173) d_R_give_173 rfl ?_ | refine V.aload_n (pc := 173) d_R_give_173 rfl ?_
                refine Vu.get d_R_give_174 g_R_91 hU rfl ?_
                refine V.iload (pc := 177) d_R_give_177 rfl ?_
                refine Vu.ald (n := 24) d_R_give_179 hU (by decide) rfl (by first | assumption | decide | omega | (simp [up] <;> omega)) ?_
                refine Vi.iconst (pc := 180) d_R_give_180 ?_
                refine Vi.icmp_ne (pc := 181) (tgt := 200) d_R_give_181 (by decide) (by first | assumption | decide | omega | (simp [up] <;> omega)) (by first | assumption | decide | omega | (simp [up] <;> omega)) (fun c_181 => ?_) (fun c_181 => ?_)
                · refine V.goto (pc := 200) (tgt := 59) d_R_give_200 (by decide) ?_
                  first | (rw [wk, if_neg (fun z => by omega)]; exact V.lop (ih S S' t hs hU he hG a5 hpt) ⟨rfl, rfl, rfl, rfl, trivial⟩) | (rw [wk, if_neg (fun z => by simp_all [zb])]; exact V.lop (ih S S' t hs hU he hG a5 hpt) ⟨rfl, rfl, rfl, rfl, trivial⟩)
                · first | refine V.aload_nR (pc := 184) d_R_give_184 rfl ?_ | refine V.aload_n (pc := 184) d_R_give_184 rfl ?_
                  refine V.iload (pc := 185) d_R_give_185 rfl ?_
                  refine V.callV (pc := 187) d_R_give_187 Y_R_shielded l_R_166 wi_R_shielded wv_R_shielded (ci := 6) rfl rfl [_] hU.2.1 rfl rfl ⟨by repeat (first | exact trivial | refine ⟨(by first | rfl | exact vrf_cat _), ?_⟩), Nat.le_of_ble_eq_true rfl⟩ ⟨⟨rfl, (by first | rfl | exact vrf_cat _), trivial⟩, Nat.le_of_ble_eq_true rfl⟩ (r_shielded hQ (by omega) g4 (fun i z1 z2 => by have := g8 i z1 z2; omega)) (fun v hs ho => ?_) (fun E hs ho => by simp at ho)
                  obtain ⟨ho, rfl⟩ := ho
                  cases ho
                  generalize hz_187 : z_shielded S k = sh_187
                  have hzb_187 : zb sh_187 = 0 ∨ zb sh_187 = 1 := by cases sh_187 <;> simp [zb]
                  refine Vi.if_ne (pc := 190) (tgt := 200) d_R_give_190 (by decide) (by first | assumption | decide | omega | (simp [up] <;> omega)) (fun c_190 => ?_) (fun c_190 => ?_)
                  · refine V.goto (pc := 200) (tgt := 59) d_R_give_200 (by decide) ?_
                    first | (rw [wk, if_neg (fun z => by omega)]; exact V.lop (ih S S' t hs hU he hG a5 hpt) ⟨rfl, rfl, rfl, rfl, trivial⟩) | (rw [wk, if_neg (fun z => by simp_all [zb])]; exact V.lop (ih S S' t hs hU he hG a5 hpt) ⟨rfl, rfl, rfl, rfl, trivial⟩)
                  · first | refine V.aload_nR (pc := 193) d_R_give_193 rfl ?_ | refine V.aload_n (pc := 193) d_R_give_193 rfl ?_
                    refine V.iload (pc := 194) d_R_give_194 rfl ?_
                    refine Vi.iconst (pc := 196) d_R_give_196 ?_
                    refine V.callV (pc := 197) d_R_give_197 Y_R_putReady l_R_154 wi_R_putReady wv_R_putReady (ci := 6) rfl rfl [_, _] hU.2.1 rfl rfl ⟨by repeat (first | exact trivial | refine ⟨(by first | rfl | exact vrf_cat _), ?_⟩), Nat.le_of_ble_eq_true rfl⟩ ⟨⟨rfl, (by first | rfl | exact vrf_cat _), (by first | rfl | exact vrf_cat _), trivial⟩, Nat.le_of_ble_eq_true rfl⟩ (u_putReady hU (by omega) (by have := hG.2.2.room hJ.2 (k := k) (by omega) (hG.2.2.nr (by omega)); have := hG.2.2.1; omega)) (fun v hs ho => ?_) (fun E hs ho => by simp at ho)
                    obtain ⟨ho, hU⟩ := ho
                    cases ho
                    refine V.goto (pc := 200) (tgt := 59) d_R_give_200 (by decide) ?_
                    have hsh : z_shielded S k = false := by cases hq : z_shielded S k <;> simp_all [zb]
                    rw [wk, if_pos ⟨by omega, hsh⟩]
                    exact V.lop (ih (z_putReady S k 0) _ t _ hU (fun f i z1 z2 => by simp only [z_putReady, up, he f i z1 z2, he 7 0 (by decide) (by decide)]) (hG.put (by omega) (hG.2.2.nr (by omega))) (a5.to (by simp [z_putReady, up]) (fun i z1 z2 => by simp [z_putReady, up])) (by rw [cA_congr (S := S) (fun i => by simp [z_putReady, up])]; exact hpt)) ⟨rfl, rfl, rfl, rfl, trivial⟩
          · exact absurd c_91 (by decide)
        · refine Vi.if_lt (pc := 91) (tgt := 148) d_R_give_91 (by decide) (by omega) (fun c_91 => ?_) (fun c_91 => ?_)
          · omega
          · have hgc := hG.2.1 c (by omega) y2
            unfold GJ at hgc
            obtain ⟨q1, q2, q3, q4, q5, q6, q7, q8⟩ := hgc
            have eun : un ((k, n) :: t) S = un t (wk (gvN (gvR (23 - t.length)) k (if S 16 c = k ∧ S 25 c = 0 ∧ S 19 c < 0 then gvR (23 - t.length) (up S 19 c 0) c else S) (c + 1)) k) := by
              rw [un, gvN_skip hJ.2 (c - n).toNat n (c := c) (by omega) (by omega) y5, gvN_step y2 (by omega)]
            have hpt : 700 * cA S 24 + (26 - n) + pt t < P + 1 := by rw [pt] at hp; omega
            have e19 : S' 19 c = S 19 c := he 19 c (by decide) (by decide)
            first | refine V.aload_nR (pc := 94) d_R_give_94 rfl ?_ | refine V.aload_n (pc := 94) d_R_give_94 rfl ?_
            refine Vu.get d_R_give_95 g_R_133 hU rfl ?_
            refine V.iload_n (pc := 98) d_R_give_98 rfl ?_
            refine Vi.iconst (pc := 99) d_R_give_99 ?_
            refine Vi.isub (pc := 100) d_R_give_100 ?_
            refine V.iload (pc := 101) d_R_give_101 rfl ?_
            refine Vi.iconst (pc := 103) d_R_give_103 ?_
            refine Vi.iadd (pc := 104) d_R_give_104 ?_
            refine Vu.ast (n := 24) d_R_give_105 hU (by decide) rfl (by first | assumption | decide | omega | (simp [up] <;> omega)) (fun hs hU => ?_)
            rw [Int.add_sub_cancel] at hU
            have hlt : ((t.length : Nat) : Int) < 24 := by omega
            first | refine V.aload_nR (pc := 106) d_R_give_106 rfl ?_ | refine V.aload_n (pc := 106) d_R_give_106 rfl ?_
            refine Vu.get d_R_give_107 g_R_69 hU rfl ?_
            refine V.iload (pc := 110) d_R_give_110 rfl ?_
            refine Vu.ald (n := 24) d_R_give_112 hU (by decide) rfl (by first | assumption | decide | omega | (simp [up] <;> omega)) ?_
            rw [up_f (show (19 : Nat) ≠ 40 by decide), e19]
            refine Vi.if_lt (pc := 113) (tgt := 119) d_R_give_113 (by decide) (by omega) (fun c_113 => ?_) (fun c_113 => ?_)
            · have eun2 : un ((k, n) :: t) S = un ((c, 0) :: (k, c + 1) :: t) (up S 19 c 0) := by
                have hx : 23 - t.length = (23 - ((k, c + 1) :: t).length) + 1 := by simp; omega
                rw [eun, if_pos ⟨y3, y4, c_113⟩, un, un]
                congr 2
                rw [hx, gvR]
              rw [eun2]
              first | refine V.aload_nR (pc := 119) d_R_give_119 rfl ?_ | refine V.aload_n (pc := 119) d_R_give_119 rfl ?_
              refine Vu.get d_R_give_120 g_R_69 hU rfl ?_
              refine V.iload (pc := 123) d_R_give_123 rfl ?_
              refine Vi.iconst (pc := 125) d_R_give_125 ?_
              refine Vu.ast (n := 24) d_R_give_126 hU (by decide) rfl (by first | assumption | decide | omega | (simp [up] <;> omega)) (fun hs hU => ?_)
              first | refine V.aload_nR (pc := 127) d_R_give_127 rfl ?_ | refine V.aload_n (pc := 127) d_R_give_127 rfl ?_
              refine Vu.get d_R_give_128 g_R_130 hU rfl ?_
              refine V.iload_n (pc := 131) d_R_give_131 rfl ?_
              refine V.iload (pc := 132) d_R_give_132 rfl ?_
              refine Vu.ast (n := 24) d_R_give_134 hU (by decide) rfl (by first | assumption | decide | omega | (simp [up] <;> omega)) (fun hs hU => ?_)
              first | refine V.aload_nR (pc := 135) d_R_give_135 rfl ?_ | refine V.aload_n (pc := 135) d_R_give_135 rfl ?_
              refine Vu.get d_R_give_136 g_R_133 hU rfl ?_
              refine V.iload_n (pc := 139) d_R_give_139 rfl ?_
              refine Vi.iconst (pc := 140) d_R_give_140 ?_
              refine Vu.ast (n := 24) d_R_give_141 hU (by decide) rfl (by first | assumption | decide | omega | (simp [up] <;> omega)) (fun hs hU => ?_)
              refine Vi.iinc (pc := 142) d_R_give_142 rfl (by decide) ?_
              refine V.goto (pc := 145) (tgt := 59) d_R_give_145 (by decide) ?_
              refine V.lop (ih (up S 19 c 0) _ ((c, 0) :: (k, c + 1) :: t) _ hU (fun f i z1 z2 => ?_) (hG.c (by omega)) ?_ ?_) ⟨rfl, rfl, rfl, ?_, trivial⟩
              · simp only [up, he f i z1 z2]
                simp [z1, z2]
              · refine ⟨by simp [up], by simp [up], by omega, ⟨by simp; omega, by simp [up]; omega⟩, by simp [up]; omega, by simp [up]; omega, by omega, ⟨by omega, by simp [up]; omega⟩, a5.to (by simp [up]) (fun i z1 z2 => ?_)⟩
                simp [up]
                omega
              · rw [cA_up c_113, if_pos (by omega), pt, pt]
                omega
              · rfl
            · have eun2 : un ((k, n) :: t) S = un ((k, c + 1) :: t) S := by
                rw [eun, if_neg (fun z => by omega), un]
              rw [eun2]
              refine V.goto (pc := 116) (tgt := 59) d_R_give_116 (by decide) ?_
              refine V.lop (ih S _ ((k, c + 1) :: t) _ hU (fun f i z1 z2 => ?_) hG ?_ ?_) ⟨rfl, rfl, rfl, ?_, trivial⟩
              · rw [up_f z2]; exact he f i z1 z2
              · exact ⟨by simpa [up] using a1, by simp [up], by omega, a4, a5.to rfl (fun i z1 z2 => by simp [up]; omega)⟩
              · rw [pt]; omega
              · rfl
/-- x is GIVEN to j -/
def z_give (S : js) (j x : Int) : js := if S 25 j ≠ 0 then S else if 0 ≤ S 19 j then (if 0 < x then up S 20 j (S 20 j + 1) else S) else gvR 24 (up S 19 j x) j
theorem r_give {j x : Int} (hR : RepR w mo ra S g b hs) (hG : Gd S) (hj : 0 ≤ j ∧ j < S 1 0) (hx : -1 ≤ x ∧ x ≤ 99) : V jcl w m_R_give (d + 1) 0 [(0, .ref mo), (1, .int (ii j)), (2, .int (ii x))] [] hs (fun o hs' => ∃ r : Int, o = .inl (some (.int (ii r))) ∧ (r = 1 ∧ S 25 j = 0 ∧ S 19 j < 0 ∨ r = 0 ∧ (S 25 j ≠ 0 ∨ 0 ≤ S 19 j)) ∧ RepR w mo ra (z_give S j x) g b hs') := by
  have hgc := hG.2.1 j hj.1 hj.2
  unfold GJ at hgc
  obtain ⟨q1, q2, q3, q4, q5, q6, q7, q8⟩ := hgc
  have hJ := hG.1
  first | refine V.aload_nR (pc := 0) d_R_give_0 rfl ?_ | refine V.aload_n (pc := 0) d_R_give_0 rfl ?_
  refine Vr.get (pc := 1) d_R_give_1 g_R_88 hR rfl ?_
  refine V.iload_n (pc := 4) d_R_give_4 rfl ?_
  refine Vr.zald (pc := 5) (n := 24) d_R_give_5 hR (by decide) rfl (by first | assumption | decide | omega | (simp [up] <;> omega)) ?_
  refine Vi.if_eq (pc := 6) (tgt := 11) d_R_give_6 (by decide) (by first | assumption | decide | omega | (simp [up] <;> omega)) (fun c_6 => ?_) (fun c_6 => ?_)
  · first | refine V.aload_nR (pc := 11) d_R_give_11 rfl ?_ | refine V.aload_n (pc := 11) d_R_give_11 rfl ?_
    refine Vr.get (pc := 12) d_R_give_12 g_R_69 hR rfl ?_
    refine V.iload_n (pc := 15) d_R_give_15 rfl ?_
    refine Vr.ald (pc := 16) (n := 24) d_R_give_16 hR (by decide) rfl (by first | assumption | decide | omega | (simp [up] <;> omega)) ?_
    refine Vi.if_lt (pc := 17) (tgt := 36) d_R_give_17 (by decide) (by first | assumption | decide | omega | (simp [up] <;> omega)) (fun c_17 => ?_) (fun c_17 => ?_)
    · obtain ⟨S', hU, he⟩ := hR
      first | refine V.aload_nR (pc := 36) d_R_give_36 rfl ?_ | refine V.aload_n (pc := 36) d_R_give_36 rfl ?_
      refine Vu.get d_R_give_37 g_R_69 hU rfl ?_
      refine V.iload_n (pc := 40) d_R_give_40 rfl ?_
      refine V.iload_n (pc := 41) d_R_give_41 rfl ?_
      refine Vu.ast (n := 24) d_R_give_42 hU (by decide) rfl (by first | assumption | decide | omega | (simp [up] <;> omega)) (fun hs hU => ?_)
      refine Vi.iconst (pc := 43) d_R_give_43 ?_
      refine V.istore_n (pc := 44) d_R_give_44 (by decide) ?_
      first | refine V.aload_nR (pc := 45) d_R_give_45 rfl ?_ | refine V.aload_n (pc := 45) d_R_give_45 rfl ?_
      refine Vu.get d_R_give_46 g_R_130 hU rfl ?_
      refine Vi.iconst (pc := 49) d_R_give_49 ?_
      refine V.iload_n (pc := 50) d_R_give_50 rfl ?_
      refine Vu.ast (n := 24) d_R_give_51 hU (by decide) rfl (by first | assumption | decide | omega | (simp [up] <;> omega)) (fun hs hU => ?_)
      first | refine V.aload_nR (pc := 52) d_R_give_52 rfl ?_ | refine V.aload_n (pc := 52) d_R_give_52 rfl ?_
      refine Vu.get d_R_give_53 g_R_133 hU rfl ?_
      refine Vi.iconst (pc := 56) d_R_give_56 ?_
      refine Vi.iconst (pc := 57) d_R_give_57 ?_
      refine Vu.ast (n := 24) d_R_give_58 hU (by decide) rfl (by first | assumption | decide | omega | (simp [up] <;> omega)) (fun hs hU => ?_)
      rw [z_give, if_neg (by omega), if_neg (by omega)]
      have h := r_gl (w := w) (d := d) (j := j) (x := x) (g := g) (b := b) (mo := mo) (ra := ra) 20000 (up S 19 j x) _ [(j, 0)] _ hU (fun f i z1 z2 => by simp only [up, he f i z1 z2]; simp [z1, z2]) (hG.c hx) ⟨by simp [up], by simp [up], by omega, by simp [up]; omega, trivial⟩ (by
        have h9 : ∀ (T : js) (n : Nat), cA T n ≤ n := by
          intro T n
          induction n with
          | zero => exact Int.le_refl _
          | succ n ih => rw [cA]; split <;> omega
        have := h9 (up S 19 j x) 24
        rw [pt, pt]; omega)
      refine (V.lop h ⟨rfl, rfl, rfl, rfl, trivial⟩).post (fun o hs' ho => ⟨1, ho.1, by omega, ?_⟩)
      have h2 := ho.2
      rw [un, un] at h2
      exact h2
    · refine V.iload_n (pc := 20) d_R_give_20 rfl ?_
      refine Vi.if_le (pc := 21) (tgt := 34) d_R_give_21 (by decide) (by first | assumption | decide | omega | (simp [up] <;> omega)) (fun c_21 => ?_) (fun c_21 => ?_)
      · refine Vi.iconst (pc := 34) d_R_give_34 ?_
        refine Vi.zreturn (pc := 35) d_R_give_35 rfl (by omega) ?_
        unfold z_give
        (repeat' split) <;> first | exact ⟨_, rfl, by omega, hR⟩ | (exfalso; omega)
      · first | refine V.aload_nR (pc := 24) d_R_give_24 rfl ?_ | refine V.aload_n (pc := 24) d_R_give_24 rfl ?_
        refine Vr.get (pc := 25) d_R_give_25 g_R_72 hR rfl ?_
        refine V.iload_n (pc := 28) d_R_give_28 rfl ?_
        refine V.dup2 (pc := 29) d_R_give_29 (by first | rfl | exact vrf_cat _) (by first | rfl | exact vrf_cat _) ?_
        refine Vr.ald (pc := 30) (n := 24) d_R_give_30 hR (by decide) rfl (by first | assumption | decide | omega | (simp [up] <;> omega)) ?_
        refine Vi.iconst (pc := 31) d_R_give_31 ?_
        refine Vi.iadd (pc := 32) d_R_give_32 ?_
        refine Vr.ast (pc := 33) (n := 24) d_R_give_33 hR (by decide) rfl (by first | assumption | decide | omega | (simp [up] <;> omega)) (fun hs hR => ?_)
        refine Vi.iconst (pc := 34) d_R_give_34 ?_
        refine Vi.zreturn (pc := 35) d_R_give_35 rfl (by omega) ?_
        unfold z_give
        (repeat' split) <;> first | exact ⟨_, rfl, by omega, hR⟩ | (exfalso; omega)
  · refine Vi.iconst (pc := 9) d_R_give_9 ?_
    refine Vi.zreturn (pc := 10) d_R_give_10 rfl (by omega) ?_
    unfold z_give
    (repeat' split) <;> first | exact ⟨_, rfl, by omega, hR⟩ | (exfalso; omega)
end R7
