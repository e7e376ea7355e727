/-! the steps of the reference's resume, as the class makes them -/
section ST
variable {S T U : js} {j m x : Int}
def Sg (j : Int) (S S' : js) : Prop := ∀ T, RS j S' T → RS j S T
theorem Sg.rf : Sg j S S := fun _ h => h
theorem Sg.tr (h1 : Sg j S T) (h2 : Sg j T U) : Sg j S U := fun X h => h1 X (h2 X h)
theorem Sg.st (h : Ok j S) : Sg j S (zst S j) := fun _ ⟨n, hn⟩ => ⟨n + 1, h, hn⟩
theorem RS.st (h : Ok j S) (h10 : zst S j 10 0 = 1) : RS j S (zst S j) := ⟨1, h, h10, rfl⟩
/-- j runs and has frames -/
def Kk (j m : Int) (S : js) : Prop := Iv S ∧ Rn j S ∧ En j S ∧ Bd (30 + m) S ∧ 0 < S 21 j ∧ (0 ≤ S 9 0 ∧ S 9 0 ≤ 60) ∧ S 10 0 = 0
theorem Kk.ok (h : Kk j m S) (hm : 0 ≤ m) (h8 : -1 ≤ S 8 0 ∧ S 8 0 ≤ 99) : Ok j S := ⟨h.1, h.2.1, h.2.2.1, h.2.2.2.1.le (by omega), h.2.2.2.2.1, h8, h.2.2.2.2.2.1, h.2.2.2.2.2.2⟩
theorem Kk.le {n : Int} (h : Kk j m S) (hn : n ≤ m) : Kk j n S := ⟨h.1, h.2.1, h.2.2.1, h.2.2.2.1.le (by omega), h.2.2.2.2⟩
theorem Kk.u8 (h : Kk j m S) {v : Int} : Kk j m (up S 8 0 v) := by
  obtain ⟨a1, a2, a3, a4, a5, a6, a7⟩ := h
  refine ⟨a1.fr1 (by omega), a2.cg fun f i hf => up_f (by omega), a3.cg fun f i hf => up_f (by omega), a4.cg fun f i hf => up_f (by omega), ?_, ?_, ?_⟩
  · rw [up_f (by decide)]; exact a5
  · rw [up_f (by decide)]; exact a6
  · rw [up_f (by decide)]; exact a7
theorem Kk.n24 (h : Kk j m S) : S 24 j = 1 → False := fun e => by
  have := (h.2.2.1 j h.2.1.1.1 h.2.1.1.2).1 e
  have := h.2.2.2.2.1
  omega
theorem Kk.pop (h : Kk j m S) {n : Int} (hn : 0 < n ∧ n ≤ S 21 j) : Kk j m (up S 21 j n) := by
  have h24 := h.n24
  obtain ⟨a1, a2, a3, a4, a5, a6, a7⟩ := h
  refine ⟨a1.pop a2 (by omega), a2.cg fun f i hf => up_f (by omega), a3.pop (fun e => (h24 e).elim), a4.cg fun f i hf => up_f (by omega), ?_, ?_, ?_⟩
  · rw [up_s]; exact hn.1
  · rw [up_f (by decide)]; exact a6
  · rw [up_f (by decide)]; exact a7
/-- j's frames are gone -/
def Eb (j m : Int) (S : js) : Prop := Iv S ∧ Rn j S ∧ En j S ∧ Bd (30 + m) S ∧ S 21 j = 0
theorem Eb.u8 (h : Eb j m S) {v : Int} : Eb j m (up S 8 0 v) := by
  obtain ⟨a1, a2, a3, a4, a5⟩ := h
  refine ⟨a1.fr1 (by omega), a2.cg fun f i hf => up_f (by omega), a3.cg fun f i hf => up_f (by omega), a4.cg fun f i hf => up_f (by omega), ?_⟩
  rw [up_f (by decide)]; exact a5
theorem Kk.pop0 (h : Kk j m S) : Eb j m (up S 21 j 0) := by
  have h24 := h.n24
  obtain ⟨a1, a2, a3, a4, a5, a6, a7⟩ := h
  refine ⟨a1.pop a2 (by omega), a2.cg fun f i hf => up_f (by omega), a3.pop (fun e => (h24 e).elim), a4.cg fun f i hf => up_f (by omega), ?_⟩
  rw [up_s]
theorem Eb.give (h : Eb j m S) (hx : -1 ≤ x ∧ x ≤ 99) : Eb j m (z_give S j x) := by
  obtain ⟨a1, a2, a3, a4, a5⟩ := h
  have G := z_give_run (k := j) (x := x) a1 a2 a2.1 hx
  have GI := (z_give_ok a1 (j := j) (x := x) a2.1 hx).1
  exact ⟨GI, G.1, G.2.1 _ a3, G.2.2.1 _ a4, by rw [G.2.2.2]; exact a5⟩
theorem z_write_e {v : Int} : (∀ f i, f ≠ 3 → f ≠ 15 → z_write S v f i = S f i) ∧ z_write S v 3 0 = S 3 0 + 1 := by
  refine ⟨fun f i z1 z2 => ?_, ?_⟩ <;> (unfold z_write; split <;> simp_all [up])
theorem Bd.write (h : Bd (m + 1) S) {v : Int} : Bd m (z_write S v) := by
  obtain ⟨e, e3⟩ := z_write_e (S := S) (v := v)
  unfold Bd at h ⊢
  rw [e 2 0 (by decide) (by decide), e 6 0 (by decide) (by decide), e3]
  omega
theorem Kk.write (h : Kk j (m + 1) S) {v : Int} : Kk j m (z_write S v) := by
  obtain ⟨e, e3⟩ := z_write_e (S := S) (v := v)
  obtain ⟨a1, a2, a3, a4, a5, a6, a7⟩ := h
  refine ⟨a1.write, a2.cg fun f i hf => e f i (by omega) (by omega), a3.cg fun f i hf => e f i (by omega) (by omega), (show Bd (30 + m + 1) S from a4.le (by omega)).write, ?_, ?_, ?_⟩
  · rw [e _ _ (by decide) (by decide)]; exact a5
  · rw [e _ _ (by decide) (by decide)]; exact a6
  · rw [e _ _ (by decide) (by decide)]; exact a7
theorem z_push_e {p s q k : Int} : (∀ f i, f ≠ 33 → f ≠ 34 → f ≠ 35 → f ≠ 36 → f ≠ 37 → f ≠ 21 → z_pushFrame S j p s q k f i = S f i) ∧ (∀ i, z_pushFrame S j p s q k 21 i = if i = j then S 21 j + 1 else S 21 i) ∧ (∀ i, z_pushFrame S j p s q k 35 i = if i = j * 6 + S 21 j then s else S 35 i) := by
  refine ⟨fun f i z1 z2 z3 z4 z5 z6 => by simp [z_pushFrame, up, z1, z2, z3, z4, z5, z6], fun i => by simp [z_pushFrame, up], fun i => by simp [z_pushFrame, up]⟩
theorem Kk.push (h : Kk j m S) {p s q k : Int} (hf : S 21 j < 6) (hp : 0 ≤ p ∧ p ≤ 9) (hs : 1 ≤ s ∧ s ≤ 5) (hq : s = 1 ∨ s = 2 → 0 ≤ q ∧ q ≤ 9) (hk : -1 ≤ k ∧ k ≤ 99) : Kk j m (z_pushFrame S j p s q k) := by
  have h24 := h.n24
  obtain ⟨e, e21, e35⟩ := z_push_e (S := S) (j := j) (p := p) (s := s) (q := q) (k := k)
  obtain ⟨a1, a2, a3, a4, a5, a6, a7⟩ := h
  refine ⟨a1.push a2 (by omega) hp hs hq hk, a2.cg fun f i hf => e f i (by omega) (by omega) (by omega) (by omega) (by omega) (by omega), fun i z1 z2 => ?_, a4.cg fun f i hf => e f i (by omega) (by omega) (by omega) (by omega) (by omega) (by omega), ?_, ?_, ?_⟩
  · rw [e 1 0 (by decide) (by decide) (by decide) (by decide) (by decide) (by decide)] at z2
    have := a3 i z1 z2
    rw [e21, e 24 i (by decide) (by decide) (by decide) (by decide) (by decide) (by decide)]
    by_cases hi : i = j
    · subst hi
      exact ⟨fun z => (h24 z).elim, fun z => absurd rfl z⟩
    · rw [if_neg hi]; exact this
  · rw [e21, if_pos rfl]; omega
  · rw [e _ _ (by decide) (by decide) (by decide) (by decide) (by decide) (by decide)]; exact a6
  · rw [e _ _ (by decide) (by decide) (by decide) (by decide) (by decide) (by decide)]; exact a7
/-- what the frames weigh -/
def wgt (s : Int) : Int := if s = 1 ∨ s = 2 then 2 else 1
def mu (S : js) (j : Int) : Nat → Int
  | 0 => 0
  | n + 1 => wgt (S 35 (j * 6 + n)) + mu S j n
def Mu (j : Int) (S : js) : Int := mu S j (S 21 j).toNat
theorem wgt_b (s : Int) : 1 ≤ wgt s ∧ wgt s ≤ 2 := by unfold wgt; split <;> omega
theorem mu_b (S : js) (j : Int) : ∀ n : Nat, (n : Int) ≤ mu S j n ∧ mu S j n ≤ 2 * n
  | 0 => by simp [mu]
  | n + 1 => by
    have := mu_b S j n
    have := wgt_b (S 35 (j * 6 + n))
    rw [mu]
    omega
theorem mu_cg : ∀ n : Nat, (∀ f, j * 6 ≤ f → f < j * 6 + n → T 35 f = S 35 f) → mu T j n = mu S j n
  | 0, _ => rfl
  | n + 1, e => by rw [mu, mu, e (j * 6 + n) (by omega) (by omega), mu_cg n (fun f z1 z2 => e f z1 (by omega))]
theorem Mu.cg (e : ∀ f i, (f = 21 ∨ f = 35) → T f i = S f i) : Mu j T = Mu j S := by
  unfold Mu
  rw [e 21 j (by omega)]
  exact mu_cg _ fun f _ _ => e 35 f (by omega)
theorem Mu.pop (h : 0 < S 21 j) : Mu j (up S 21 j (S 21 j - 1)) = Mu j S - wgt (S 35 (j * 6 + S 21 j - 1)) := by
  unfold Mu
  rw [up_s]
  obtain ⟨n, hn⟩ : ∃ n : Nat, S 21 j = (n : Int) + 1 := ⟨(S 21 j - 1).toNat, by omega⟩
  rw [hn, show ((n : Int) + 1).toNat = n + 1 by omega, show ((n : Int) + 1 - 1).toNat = n by omega, mu, show j * 6 + ((n : Int) + 1) - 1 = j * 6 + n by omega, mu_cg n (fun f _ _ => up_f (by decide))]
  omega
theorem Mu.push {p s q k : Int} (h : 0 ≤ S 21 j) : Mu j (z_pushFrame S j p s q k) = Mu j S + wgt s := by
  obtain ⟨e, e21, e35⟩ := z_push_e (S := S) (j := j) (p := p) (s := s) (q := q) (k := k)
  unfold Mu
  rw [e21, if_pos rfl]
  obtain ⟨n, hn⟩ : ∃ n : Nat, S 21 j = (n : Int) := ⟨(S 21 j).toNat, by omega⟩
  rw [hn, show ((n : Int) + 1).toNat = n + 1 by omega, show ((n : Int)).toNat = n by omega, mu, e35, hn, if_pos rfl, mu_cg (T := z_pushFrame S j p s q k) (S := S) n (fun f z1 z2 => by rw [e35, if_neg (by omega)])]
  omega
theorem Mu.b (h : 0 ≤ S 21 j ∧ S 21 j ≤ 6) : S 21 j ≤ Mu j S ∧ Mu j S ≤ 12 := by
  have := mu_b S j (S 21 j).toNat
  unfold Mu
  omega
theorem Kk.fr (h : Kk j m S) : (S 21 j ≤ 6 ∧ 0 ≤ S 35 (j * 6 + S 21 j - 1) ∧ S 35 (j * 6 + S 21 j - 1) ≤ 5) ∧ FJ S j (j * 6 + S 21 j - 1) := by
  have hj := h.2.1.1
  have h0 := h.2.2.2.2.1
  have hg := h.1.gd.2.1 j hj.1 hj.2
  have h6 : 0 ≤ S 21 j ∧ S 21 j ≤ 6 := hg.2.2.2.1
  have h8 := hg.2.2.2.2.2.2.2 (j * 6 + S 21 j - 1) (by omega) (by omega)
  exact ⟨⟨h6.2, h8⟩, h.1.fr j (j * 6 + S 21 j - 1) hj.1 hj.2 (by omega) (by omega)⟩
theorem z_fin2_o (h : Iv S) (hj : 0 ≤ j ∧ j < S 1 0) (h0 : S 25 j = 0) (h21 : S 21 j = 0) : ∀ f i, f ≠ 3 → f ≠ 7 → f ≠ 15 → f ≠ 18 → f ≠ 19 → f ≠ 20 → f ≠ 23 → f ≠ 25 → f ≠ 26 → f ≠ 29 → f ≠ 38 → z_fin2 S j f i = S f i := by
  intro f i z1 z2 z3 z4 z5 z6 z7 z8 z9 z10 z11
  obtain ⟨e, e25⟩ := z_fin1_e (S := S) (j := j)
  have hg := h.gd.2.1 j hj.1 hj.2
  have hc1 : -1 ≤ S 19 j ∧ S 19 j ≤ 99 := hg.2.2.1
  have hp1 : -1 ≤ S 16 j ∧ S 16 j < j := hg.1
  unfold z_fin2
  split
  · rw [z_write_e.1 f i z1 z3, e f i z2 z4 z7 z8 z9 z10 z11]
  · split
    · have hs := (h.wt j hj.1 hj.2).2.2.2.2.2.2.1
      have hG := (z_give_ok (h.fin1 hj h0 h21) (j := S 16 j) (x := S 19 j) (by rw [e 1 0 (by decide) (by decide) (by decide) (by decide) (by decide) (by decide) (by decide)]; omega) hc1).2
      rw [hG.1 f i z2 z5 z6 z7 z9 z10 z11, e f i z2 z4 z7 z8 z9 z10 z11]
    · rw [e f i z2 z4 z7 z8 z9 z10 z11]
theorem zfin_ok : ∀ (n : Nat) (S : js) (j : Int), Iv S → Bd (m + n) S → j < S 1 0 → (∀ i, 0 ≤ i → i < S 1 0 → S 24 i = 1 → S 21 i = 0) → Iv (zfin n S j) ∧ Bd m (zfin n S j) ∧ ∀ f i, f ≠ 3 → f ≠ 7 → f ≠ 15 → f ≠ 18 → f ≠ 19 → f ≠ 20 → f ≠ 23 → f ≠ 25 → f ≠ 26 → f ≠ 29 → f ≠ 38 → zfin n S j f i = S f i
  | 0, S, j, h, hB, _, _ => ⟨h, hB.le (by omega), fun _ _ _ _ _ _ _ _ _ _ _ _ _ => rfl⟩
  | n + 1, S, j, h, hB, hj, he => by
    rw [zfin]
    split
    · rename_i hc
      have h21 := he j hc.1 hj hc.2.2.1
      have F := h.fin2 (j := j) (m := m + n) (hB.le (by omega)) ⟨hc.1, hj⟩ hc.2.1 h21
      have o := z_fin2_o h ⟨hc.1, hj⟩ hc.2.1 h21
      have hp := (h.gd.2.1 j hc.1 hj).1
      obtain ⟨b1, b2, b3⟩ := zfin_ok n (z_fin2 S j) (S 16 j) F.1 F.2.1 (by rw [F.2.2.1]; omega) (fun i z1 z2 z3 => by rw [F.2.2.2.2.1]; exact he i z1 (by rw [← F.2.2.1]; exact z2) (by rw [← F.2.2.2.2.2]; exact z3))
      exact ⟨b1, b2, fun f i z1 z2 z3 z4 z5 z6 z7 z8 z9 z10 z11 => by rw [b3 f i z1 z2 z3 z4 z5 z6 z7 z8 z9 z10 z11, o f i z1 z2 z3 z4 z5 z6 z7 z8 z9 z10 z11]⟩
    · exact ⟨h, hB.le (by omega), fun _ _ _ _ _ _ _ _ _ _ _ _ _ => rfl⟩
/-- nobody runs -/
def Rt (m : Int) (S : js) : Prop := Iv S ∧ En (-1) S ∧ Bd m S
theorem Eb.ends (h : Eb j m S) : Rt m (z_bodyEnds S j) ∧ z_bodyEnds S j 10 0 = 1 := by
  obtain ⟨a1, a2, a3, a4, a5⟩ := h
  obtain ⟨h1, h2⟩ := z_end_ok a1 a2 a3 (by omega)
  have e1 : z_end S j 1 0 = S 1 0 := by simp [z_end, up]
  obtain ⟨b1, b2, b3⟩ := zfin_ok (m := m) 24 (z_end S j) j h1 ((a4.cg fun f i hf => by simp [z_end, up]; omega).le (by omega)) (by rw [e1]; exact a2.1.2) (fun i z1 z2 => (h2 i z1 z2).1)
  refine ⟨⟨b1, h2.cg fun f i hf => b3 f i (by omega) (by omega) (by omega) (by omega) (by omega) (by omega) (by omega) (by omega) (by omega) (by omega) (by omega), b2⟩, ?_⟩
  unfold z_bodyEnds
  rw [b3 10 0 (by omega) (by omega) (by omega) (by omega) (by omega) (by omega) (by omega) (by omega) (by omega) (by omega) (by omega)]
  simp [z_end, up]
theorem Kk.rest (h : Kk j m S) : Rt m S := by
  obtain ⟨a1, a2, a3, a4, a5, a6, a7⟩ := h
  refine ⟨a1, fun i z1 z2 => ?_, a4.le (by omega)⟩
  have := a3 i z1 z2
  refine ⟨this.1, fun _ y => ?_⟩
  by_cases hi : i = j
  · subst hi; omega
  · exact this.2 hi y
/-- the state of the reference where a frame was thrown at -/
def z_tp (S : js) (j : Int) : js := up (up (up S 8 0 (S 8 0)) 21 j (S 21 j - 1)) 8 0 (-1)
theorem z_tp_e : (∀ f i, f ≠ 8 → f ≠ 21 → z_tp S j f i = S f i) ∧ z_tp S j 8 0 = -1 ∧ z_tp S j 21 j = S 21 j - 1 := by
  refine ⟨fun f i z1 z2 => ?_, ?_, ?_⟩ <;> simp_all [z_tp, up]
theorem th_body (h : Kk j m S) (hm : 0 ≤ m) (h8 : 0 ≤ S 8 0 ∧ S 8 0 ≤ 99) (hb : S 35 (j * 6 + S 21 j - 1) = 0) : S 21 j = 1 ∧ Eb j m (z_give (z_tp S j) j (S 8 0)) ∧ RS j S (z_bodyEnds (z_give (z_tp S j) j (S 8 0)) j) := by
  have hf := h.fr
  unfold FJ at hf
  have h1 : S 21 j = 1 := by have := hf.2.2.2.1; omega
  have hE : Eb j m (z_give (z_tp S j) j (S 8 0)) := by
    unfold z_tp
    rw [h1]
    exact ((h.u8.pop0).u8).give (by omega)
  have hz : zst S j = z_bodyEnds (z_give (z_tp S j) j (S 8 0)) j := by
    unfold zst
    rw [if_pos h8.1]
    unfold z_throwAt
    rw [if_pos hb]
    rfl
  refine ⟨h1, hE, ?_⟩
  have := RS.st (h.ok hm (by omega)) (by rw [hz]; exact hE.ends.2)
  rw [hz] at this
  exact this
theorem th_try (h : Kk j (m + 1) S) (hm : 0 ≤ m) (h8 : 0 ≤ S 8 0 ∧ S 8 0 ≤ 99) (hb : S 35 (j * 6 + S 21 j - 1) = 1) (hx : 0 < S 8 0) : 1 < S 21 j ∧ Kk j m (z_pushFrame (z_write (z_tp S j) (100 + S 8 0)) j (S 36 (j * 6 + S 21 j - 1)) 5 0 (-1)) ∧ z_pushFrame (z_write (z_tp S j) (100 + S 8 0)) j (S 36 (j * 6 + S 21 j - 1)) 5 0 (-1) 8 0 = -1 ∧ Sg j S (z_pushFrame (z_write (z_tp S j) (100 + S 8 0)) j (S 36 (j * 6 + S 21 j - 1)) 5 0 (-1)) ∧ Mu j (z_pushFrame (z_write (z_tp S j) (100 + S 8 0)) j (S 36 (j * 6 + S 21 j - 1)) 5 0 (-1)) + 1 ≤ Mu j S := by
  have hf := h.fr
  have h0 := h.2.2.2.2.1
  unfold FJ at hf
  have h1 : 1 < S 21 j := by have := hf.2.2.2.1; omega
  have ht : Kk j (m + 1) (z_tp S j) := (h.u8.pop (n := S 21 j - 1) (by rw [up_f (by decide)]; omega)).u8
  have hz : zst S j = z_pushFrame (z_write (z_tp S j) (100 + S 8 0)) j (S 36 (j * 6 + S 21 j - 1)) 5 0 (-1) := by
    unfold zst
    rw [if_pos h8.1]
    unfold z_throwAt
    rw [if_neg (by omega), if_pos ⟨hb, hx⟩]
    rfl
  have e21 : z_write (z_tp S j) (100 + S 8 0) 21 j = S 21 j - 1 := by rw [z_write_e.1 _ _ (by decide) (by decide), z_tp_e.2.2]
  refine ⟨h1, ht.write.push (by omega) (by omega) (by omega) (by omega) (by omega), ?_, ?_, ?_⟩
  · rw [z_push_e.1 _ _ (by decide) (by decide) (by decide) (by decide) (by decide) (by decide), z_write_e.1 _ _ (by decide) (by decide), z_tp_e.2.1]
  · have := Sg.st (h.ok (by omega) (by omega))
    rw [hz] at this
    exact this
  · rw [Mu.push (by omega), Mu.cg (S := z_tp S j) (fun f i hf => z_write_e.1 f i (by omega) (by omega))]
    have e : Mu j (z_tp S j) = Mu j (up S 21 j (S 21 j - 1)) := Mu.cg fun f i hf => by
      rcases hf with rfl | rfl <;> simp [z_tp, up]
    rw [e, Mu.pop h0, hb]
    unfold wgt
    simp
    omega
theorem th_after (h : Kk j m S) (hm : 0 ≤ m) (h8 : 0 ≤ S 8 0 ∧ S 8 0 ≤ 99) (hb : S 35 (j * 6 + S 21 j - 1) = 2) : 1 < S 21 j ∧ Kk j m (z_pushFrame (z_tp S j) j (S 36 (j * 6 + S 21 j - 1)) 3 0 (S 8 0)) ∧ z_pushFrame (z_tp S j) j (S 36 (j * 6 + S 21 j - 1)) 3 0 (S 8 0) 8 0 = -1 ∧ Sg j S (z_pushFrame (z_tp S j) j (S 36 (j * 6 + S 21 j - 1)) 3 0 (S 8 0)) ∧ Mu j (z_pushFrame (z_tp S j) j (S 36 (j * 6 + S 21 j - 1)) 3 0 (S 8 0)) + 1 ≤ Mu j S := by
  have hf := h.fr
  have h0 := h.2.2.2.2.1
  unfold FJ at hf
  have h1 : 1 < S 21 j := by have := hf.2.2.2.1; omega
  have ht : Kk j m (z_tp S j) := (h.u8.pop (n := S 21 j - 1) (by rw [up_f (by decide)]; omega)).u8
  have hz : zst S j = z_pushFrame (z_tp S j) j (S 36 (j * 6 + S 21 j - 1)) 3 0 (S 8 0) := by
    unfold zst
    rw [if_pos h8.1]
    unfold z_throwAt
    rw [if_neg (by omega), if_neg (by omega), if_pos hb]
    rfl
  have e21 : z_tp S j 21 j = S 21 j - 1 := z_tp_e.2.2
  refine ⟨h1, ht.push (by omega) (by omega) (by omega) (by omega) (by omega), ?_, ?_, ?_⟩
  · rw [z_push_e.1 _ _ (by decide) (by decide) (by decide) (by decide) (by decide) (by decide), z_tp_e.2.1]
  · have := Sg.st (h.ok hm (by omega))
    rw [hz] at this
    exact this
  · rw [Mu.push (by omega)]
    have e : Mu j (z_tp S j) = Mu j (up S 21 j (S 21 j - 1)) := Mu.cg fun f i hf => by
      rcases hf with rfl | rfl <;> simp [z_tp, up]
    rw [e, Mu.pop h0, hb]
    unfold wgt
    simp
    omega
theorem th_else (h : Kk j m S) (hm : 0 ≤ m) (h8 : 0 ≤ S 8 0 ∧ S 8 0 ≤ 99) (hb : S 35 (j * 6 + S 21 j - 1) ≠ 0) (hb1 : ¬ (S 35 (j * 6 + S 21 j - 1) = 1 ∧ 0 < S 8 0)) (hb2 : S 35 (j * 6 + S 21 j - 1) ≠ 2) : 1 < S 21 j ∧ Kk j m (up (up S 8 0 (S 8 0)) 21 j (S 21 j - 1)) ∧ up (up S 8 0 (S 8 0)) 21 j (S 21 j - 1) 8 0 = S 8 0 ∧ Sg j S (up (up S 8 0 (S 8 0)) 21 j (S 21 j - 1)) ∧ Mu j (up (up S 8 0 (S 8 0)) 21 j (S 21 j - 1)) + 1 ≤ Mu j S := by
  have hf := h.fr
  have h0 := h.2.2.2.2.1
  unfold FJ at hf
  have h1 : 1 < S 21 j := by have := hf.2.2.2.1; omega
  have hz : zst S j = up (up S 8 0 (S 8 0)) 21 j (S 21 j - 1) := by
    unfold zst
    rw [if_pos h8.1]
    unfold z_throwAt
    rw [if_neg hb, if_neg hb1, if_neg hb2]
  refine ⟨h1, h.u8.pop (n := S 21 j - 1) (by rw [up_f (by decide)]; omega), ?_, ?_, ?_⟩
  · rw [up_f (by decide), up_s]
  · have := Sg.st (h.ok hm (by omega))
    rw [hz] at this
    exact this
  · have e : Mu j (up (up S 8 0 (S 8 0)) 21 j (S 21 j - 1)) = Mu j (up S 21 j (S 21 j - 1)) := Mu.cg fun f i hf => by
      rcases hf with rfl | rfl <;> simp [up]
    have := wgt_b (S 35 (j * 6 + S 21 j - 1))
    rw [e, Mu.pop h0]
    omega
theorem fe_body (h : Kk j m S) (hm : 0 ≤ m) (h8 : S 8 0 = -1) (ha : ¬ At j S) (hb : S 35 (j * 6 + S 21 j - 1) = 0) : S 21 j = 1 ∧ Eb j m (up S 21 j (S 21 j - 1)) ∧ RS j S (z_bodyEnds (up S 21 j (S 21 j - 1)) j) := by
  have hf := h.fr
  unfold FJ at hf
  have h1 : S 21 j = 1 := by have := hf.2.2.2.1; omega
  have hE : Eb j m (up S 21 j (S 21 j - 1)) := by
    rw [h1]
    exact h.pop0
  have hz : zst S j = z_bodyEnds (up S 21 j (S 21 j - 1)) j := by
    unfold At at ha
    unfold zst
    rw [if_neg (by omega), if_pos (by omega)]
    unfold z_frameEnds
    rw [if_pos hb]
  refine ⟨h1, hE, ?_⟩
  have := RS.st (h.ok hm (by omega)) (by rw [hz]; exact hE.ends.2)
  rw [hz] at this
  exact this
theorem fe_after (h : Kk j m S) (hm : 0 ≤ m) (h8 : S 8 0 = -1) (ha : ¬ At j S) (hb : S 35 (j * 6 + S 21 j - 1) = 2) : 1 < S 21 j ∧ Kk j m (z_pushFrame (up S 21 j (S 21 j - 1)) j (S 36 (j * 6 + S 21 j - 1)) 3 0 (-1)) ∧ z_pushFrame (up S 21 j (S 21 j - 1)) j (S 36 (j * 6 + S 21 j - 1)) 3 0 (-1) 8 0 = -1 ∧ Sg j S (z_pushFrame (up S 21 j (S 21 j - 1)) j (S 36 (j * 6 + S 21 j - 1)) 3 0 (-1)) ∧ Mu j (z_pushFrame (up S 21 j (S 21 j - 1)) j (S 36 (j * 6 + S 21 j - 1)) 3 0 (-1)) + 1 ≤ Mu j S := by
  have hf := h.fr
  have h0 := h.2.2.2.2.1
  unfold FJ at hf
  have h1 : 1 < S 21 j := by have := hf.2.2.2.1; omega
  have hz : zst S j = z_pushFrame (up S 21 j (S 21 j - 1)) j (S 36 (j * 6 + S 21 j - 1)) 3 0 (-1) := by
    unfold At at ha
    unfold zst
    rw [if_neg (by omega), if_pos (by omega)]
    unfold z_frameEnds
    rw [if_neg (by omega), if_pos hb]
  refine ⟨h1, (h.pop (n := S 21 j - 1) (by omega)).push (by rw [up_s]; omega) (by omega) (by omega) (by omega) (by omega), ?_, ?_, ?_⟩
  · rw [z_push_e.1 _ _ (by decide) (by decide) (by decide) (by decide) (by decide) (by decide), up_f (by decide)]; exact h8
  · have := Sg.st (h.ok hm (by omega))
    rw [hz] at this
    exact this
  · rw [Mu.push (by rw [up_s]; omega), Mu.pop h0, hb]
    unfold wgt
    simp
    omega
theorem fe_last (h : Kk j m S) (hm : 0 ≤ m) (h8 : S 8 0 = -1) (ha : ¬ At j S) (hb : S 35 (j * 6 + S 21 j - 1) = 3) : 1 < S 21 j ∧ Kk j m (up (up S 21 j (S 21 j - 1)) 8 0 (S 37 (j * 6 + S 21 j - 1))) ∧ (-1 ≤ S 37 (j * 6 + S 21 j - 1) ∧ S 37 (j * 6 + S 21 j - 1) ≤ 99) ∧ Sg j S (up (up S 21 j (S 21 j - 1)) 8 0 (S 37 (j * 6 + S 21 j - 1))) ∧ Mu j (up (up S 21 j (S 21 j - 1)) 8 0 (S 37 (j * 6 + S 21 j - 1))) + 1 ≤ Mu j S := by
  have hf := h.fr
  have h0 := h.2.2.2.2.1
  unfold FJ at hf
  have h1 : 1 < S 21 j := by have := hf.2.2.2.1; omega
  have hz : zst S j = up (up S 21 j (S 21 j - 1)) 8 0 (S 37 (j * 6 + S 21 j - 1)) := by
    unfold At at ha
    unfold zst
    rw [if_neg (by omega), if_pos (by omega)]
    unfold z_frameEnds
    rw [if_neg (by omega), if_neg (by omega), if_pos hb]
  refine ⟨h1, (h.pop (n := S 21 j - 1) (by omega)).u8, hf.2.2.2.2.2, ?_, ?_⟩
  · have := Sg.st (h.ok hm (by omega))
    rw [hz] at this
    exact this
  · rw [Mu.cg (S := up S 21 j (S 21 j - 1)) (fun f i hf => up_f (by omega)), Mu.pop h0, hb]
    unfold wgt
    simp
theorem fe_else (h : Kk j m S) (hm : 0 ≤ m) (h8 : S 8 0 = -1) (ha : ¬ At j S) (hb : S 35 (j * 6 + S 21 j - 1) ≠ 0) (hb2 : S 35 (j * 6 + S 21 j - 1) ≠ 2) (hb3 : S 35 (j * 6 + S 21 j - 1) ≠ 3) : 1 < S 21 j ∧ Kk j m (up S 21 j (S 21 j - 1)) ∧ up S 21 j (S 21 j - 1) 8 0 = -1 ∧ Sg j S (up S 21 j (S 21 j - 1)) ∧ Mu j (up S 21 j (S 21 j - 1)) + 1 ≤ Mu j S := by
  have hf := h.fr
  have h0 := h.2.2.2.2.1
  unfold FJ at hf
  have h1 : 1 < S 21 j := by have := hf.2.2.2.1; omega
  have hz : zst S j = up S 21 j (S 21 j - 1) := by
    unfold At at ha
    unfold zst
    rw [if_neg (by omega), if_pos (by omega)]
    unfold z_frameEnds
    rw [if_neg hb, if_neg hb2, if_neg hb3]
  have := wgt_b (S 35 (j * 6 + S 21 j - 1))
  refine ⟨h1, h.pop (n := S 21 j - 1) (by omega), by rw [up_f (by decide)]; exact h8, ?_, ?_⟩
  · have := Sg.st (h.ok hm (by omega))
    rw [hz] at this
    exact this
  · rw [Mu.pop h0]
    omega
/-- its ACTIONS of this resuming are done -/
theorem st_full (h : Kk j m S) (hm : 0 ≤ m) (h8 : S 8 0 = -1) (ha : At j S) (h9 : S 9 0 = 60) : RS j S (up (z_putReady S j (-1)) 10 0 1) ∧ Rt m (up (z_putReady S j (-1)) 10 0 1) := by
  have hz : zst S j = up (z_putReady S j (-1)) 10 0 1 := by
    unfold At at ha
    unfold zst
    rw [if_neg (by omega), if_neg (by omega), if_neg (by omega)]
  constructor
  · have := RS.st (h.ok hm (by omega)) (by rw [hz, up_s])
    rw [hz] at this
    exact this
  · have hr := h.rest
    have e := (z_putReady_e (S := S) (k := j) (x := -1)).1
    have hI := h.1.ready (x := -1) h.2.1.1 h.2.1.2.2.1 h.2.2.2.2.1 (by have := h.2.1.2.1; omega) (by omega)
    exact ⟨hI.fr1 (by omega), hr.2.1.cg fun f i hf => by rw [up_f (by omega)]; exact e f i (by omega) (by omega) (by omega) (by omega) (by omega), hr.2.2.cg fun f i hf => by rw [up_f (by omega)]; exact e f i (by omega) (by omega) (by omega) (by omega) (by omega)⟩
theorem st_act (h : Kk j m S) (hm : 0 ≤ m) (h8 : S 8 0 = -1) (ha : At j S) (h9 : S 9 0 < 60) : Sg j S (z_doAction S j) ∧ (z_doAction S j 10 0 = 1 → RS j S (z_doAction S j)) := by
  have hz : zst S j = z_doAction S j := by
    unfold At at ha
    unfold zst
    rw [if_neg (by omega), if_neg (by omega), if_pos h9]
  constructor
  · have := Sg.st (h.ok hm (by omega))
    rw [hz] at this
    exact this
  · intro h10
    have := RS.st (h.ok hm (by omega)) (by rw [hz]; exact h10)
    rw [hz] at this
    exact this
end ST
