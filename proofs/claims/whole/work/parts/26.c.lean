/-! the class: its state C is a family of rows like the reference's (the same numbers where they mean the same); am: kind, index -> address -/
def rj (am : Nat → Int → Nat) (k : Int) : Option Nat := if k < 0 then none else some (am 10 k)
theorem rj_pos {am : Nat → Int → Nat} {k : Int} (h : 0 ≤ k) : va_rf (rj am k) = .ref (am 10 k) := by rw [rj, if_neg (by omega)]; rfl
theorem rj_neg {am : Nat → Int → Nat} {k : Int} (h : k < 0) : rj am k = none := by rw [rj, if_pos h]
def tdu (k : Nat) : Nat := if k = 13 then 52 else 54
def ttu (k : Nat) : Nat := if k = 13 then 53 else 55
def cJ (C : js) (am : Nat → Int → Nat) : List Value := [.ref (am 1 0), .ref (am 2 0), .ref (am 3 0), .ref (am 4 0), .int (ii (C 1 0)), .int (ii (C 57 0)), .int (ii (C 3 0)), .int (ii (C 2 0)), .int (ii (C 4 0)), .int (ii (C 5 0)), .int (ii (C 58 0))]
def cP (C : js) (am : Nat → Int → Nat) (p : Int) : List Value := [.ref (am 7 p), .ref (am 8 p), .ref (am 9 p), .int (ii (C 11 p))]
def cQ (C : js) (am : Nat → Int → Nat) : List Value := [.ref (am 5 0), .int (ii (C 60 0)), .int (ii (C 61 0))]
def cB (C : js) (am : Nat → Int → Nat) (j : Int) : List Value := [.int (ii j), va_rf (rj am (C 16 j)), .int (ii (C 17 j)), .ref (am 11 j), .ref (am 12 j), .ref (am 13 j), .ref (am 14 j), .int (ii (C 21 j)), .int (ii (C 18 j)), .int (ii (C 19 j)), .int (ii (C 20 j)), .int (ii (C 56 j)), .int (ii (C 25 j)), .int (ii (C 50 j)), va_rf (rj am (C 51 j)), .int (ii (C 23 j))]
def cF (C : js) (am : Nat → Int → Nat) (f : Int) : List Value := [.int (ii (C 35 f)), .ref (am 6 (C 33 f)), .int (ii (C 34 f)), .ref (am 6 (C 36 f)), .int (ii (C 37 f))]
def cT (C : js) (k : Nat) (j : Int) : List Value := [.int (ii (C (tdu k) j)), .int (ii (C (ttu k) j))]
def aI (w : jw) (n : Nat) (f : Nat → Int32) : va_E := .inl (jcA w 0, n, .inl f)
def aO (w : jw) (t n : Nat) (f : Nat → Option Nat) : va_E := .inl (jcA w t, n, .inr (.inr (.inr (.inr f))))
/-- what lies at the object of kind k, index i -/
def cont (w : jw) (C : js) (am : Nat → Int → Nat) (k : Nat) (i : Int) : va_E := match k with
  | 0 => .inr (0, cJ C am)
  | 1 => aO w 3 10 (fun n => if n < 10 then some (am 6 n) else none)
  | 2 => aO w 4 24 (fun n => if (n : Int) < C 1 0 then some (am 10 n) else none)
  | 3 => .inr (2, cQ C am)
  | 4 => aI w 60 (fun n => ii (C 15 n))
  | 5 => aO w 4 24 (fun n => rj am (C 59 n))
  | 6 => .inr (1, cP C am i)
  | 7 => aI w 8 (fun n => if n < 8 then ii (C 12 (i * 8 + n)) else 0)
  | 8 => aI w 8 (fun n => if n < 8 then ii (C 13 (i * 8 + n)) else 0)
  | 9 => aI w 8 (fun n => if n < 8 then ii (C 14 (i * 8 + n)) else 0)
  | 10 => .inr (3, cB C am i)
  | 11 => aO w 4 3 (fun n => if n < 3 then rj am (C 22 (i * 3 + n)) else none)
  | 12 => aO w 5 6 (fun n => if n < 6 then some (am 15 (i * 6 + n)) else none)
  | 13 => .inr (5, cT C 13 i)
  | 14 => .inr (5, cT C 14 i)
  | 15 => .inr (4, cF C am i)
  | _ => .inr (0, [])
/-- the objects that are there -/
def vd (J : Int) (k : Nat) (i : Int) : Prop := (k ≤ 5 ∧ i = 0) ∨ (6 ≤ k ∧ k ≤ 9 ∧ 0 ≤ i ∧ i < 10) ∨ (10 ≤ k ∧ k ≤ 14 ∧ 0 ≤ i ∧ i < J) ∨ (k = 15 ∧ 0 ≤ i ∧ i < 6 * J)
def RepC (w : jw) (am : Nat → Int → Nat) (C : js) (g : Nat → Option va_E) (b : Nat × Nat) (hs : jh) : Prop :=
  (b.1 + 11 * (24 - (C 1 0).toNat) ≤ hs.2.1 ∧ b.2 + 59 * (24 - (C 1 0).toNat) ≤ hs.2.2) ∧ (∀ k i, vd (C 1 0) k i → hs.1 (am k i) = some (cont w C am k i)) ∧
  (∀ k i k' i', vd (C 1 0) k i → vd (C 1 0) k' i' → am k i = am k' i' → k = k' ∧ i = i') ∧ (∀ a e, g a = some e → hs.1 a = some e ∧ ∀ k i, vd (C 1 0) k i → a ≠ am k i) ∧ jWf w
section JC
variable {w : jw} {M : jm} {d pc : Nat} {L : List (Nat × Value)} {st : List Value} {hs : jh} {Q : jo → jh → Prop} {am : Nat → Int → Nat} {C : js} {g : Nat → Option va_E} {b : Nat × Nat}
theorem RepC.set (h : RepC w am C g b hs) {k : Nat} {i : Int} {C' : js} (hv : vd (C 1 0) k i) (h1 : C' 1 0 = C 1 0) (ho : ∀ k' i', (k' = k → i' ≠ i) → vd (C 1 0) k' i' → cont w C' am k' i' = cont w C am k' i') : RepC w am C' g b (hup hs.1 (am k i) (cont w C' am k i), hs.2) := by
  obtain ⟨a1, a2, a3, a4, a5⟩ := h
  unfold RepC
  rw [h1]
  refine ⟨a1, fun k' i' hv' => ?_, a3, fun a e ha => ?_, a5⟩
  · show hup hs.1 _ _ (am k' i') = _
    by_cases hc : k' = k ∧ i' = i
    · obtain ⟨rfl, rfl⟩ := hc
      rw [hup_s]
    · rw [hup_n (fun e => hc (a3 _ _ _ _ hv' hv e)), ho k' i' (fun e e' => hc ⟨e, e'⟩) hv']
      exact a2 k' i' hv'
  · obtain ⟨z1, z2⟩ := a4 a e ha
    exact ⟨by show hup hs.1 _ _ a = _; rw [hup_n (z2 k i hv)]; exact z1, z2⟩
theorem vdJ {J : Int} {k : Nat} (h : k ≤ 5) : vd J k 0 := Or.inl ⟨h, rfl⟩
theorem vdP {J i : Int} {k : Nat} (h : 6 ≤ k ∧ k ≤ 9) (hi : 0 ≤ i ∧ i < 10) : vd J k i := Or.inr (Or.inl ⟨h.1, h.2, hi.1, hi.2⟩)
theorem vdB {J i : Int} {k : Nat} (h : 10 ≤ k ∧ k ≤ 14) (hi : 0 ≤ i ∧ i < J) : vd J k i := Or.inr (Or.inr (Or.inl ⟨h.1, h.2, hi.1, hi.2⟩))
theorem vdF {J i : Int} (hi : 0 ≤ i ∧ i < 6 * J) : vd J 15 i := Or.inr (Or.inr (Or.inr ⟨rfl, hi.1, hi.2⟩))
theorem RepC.oJ (h : RepC w am C g b hs) : hs.1 (am 0 0) = some (.inr (0, cJ C am)) := h.2.1 0 0 (vdJ (by decide))
theorem RepC.oQ (h : RepC w am C g b hs) : hs.1 (am 3 0) = some (.inr (2, cQ C am)) := h.2.1 3 0 (vdJ (by decide))
theorem RepC.oP (h : RepC w am C g b hs) {p : Int} (hp : 0 ≤ p ∧ p < 10) : hs.1 (am 6 p) = some (.inr (1, cP C am p)) := h.2.1 6 p (vdP (by decide) hp)
theorem RepC.oB (h : RepC w am C g b hs) {j : Int} (hj : 0 ≤ j ∧ j < C 1 0) : hs.1 (am 10 j) = some (.inr (3, cB C am j)) := h.2.1 10 j (vdB (by decide) hj)
theorem RepC.oF (h : RepC w am C g b hs) {f : Int} (hf : 0 ≤ f ∧ f < 6 * C 1 0) : hs.1 (am 15 f) = some (.inr (4, cF C am f)) := h.2.1 15 f (vdF hf)
theorem RepC.oT (h : RepC w am C g b hs) {k : Nat} {j : Int} (hj : (k = 13 ∨ k = 14) ∧ 0 ≤ j ∧ j < C 1 0) : hs.1 (am k j) = some (.inr (5, cT C k j)) := by
  obtain ⟨rfl | rfl, hj⟩ := hj
  · exact h.2.1 13 j (vdB (by decide) hj)
  · exact h.2.1 14 j (vdB (by decide) hj)
theorem Vc.get_J {idx k : Nat} {v : Value} (hdg : decode M.2.2.1 pc = .ok (.getfield idx, 3)) (hF : jFg jcl M.1 idx 0 k) (hC : RepC w am C g b hs) (hv : (cJ C am)[k]? = some v) (kk : V jcl w M d (pc + 3) L (v :: st) hs Q) : V jcl w M d pc L (.ref (am 0 0) :: st) hs Q := V.get hdg hF hC.oJ hv kk
theorem Vc.get_Q {idx k : Nat} {v : Value} (hdg : decode M.2.2.1 pc = .ok (.getfield idx, 3)) (hF : jFg jcl M.1 idx 2 k) (hC : RepC w am C g b hs) (hv : (cQ C am)[k]? = some v) (kk : V jcl w M d (pc + 3) L (v :: st) hs Q) : V jcl w M d pc L (.ref (am 3 0) :: st) hs Q := V.get hdg hF hC.oQ hv kk
theorem Vc.get_P {idx k : Nat} {p : Int} {v : Value} (hdg : decode M.2.2.1 pc = .ok (.getfield idx, 3)) (hF : jFg jcl M.1 idx 1 k) (hC : RepC w am C g b hs) (hj : 0 ≤ p ∧ p < 10) (hv : (cP C am p)[k]? = some v) (kk : V jcl w M d (pc + 3) L (v :: st) hs Q) : V jcl w M d pc L (.ref (am 6 p) :: st) hs Q := V.get hdg hF (hC.oP hj) hv kk
theorem Vc.get_B {idx k : Nat} {j : Int} {v : Value} (hdg : decode M.2.2.1 pc = .ok (.getfield idx, 3)) (hF : jFg jcl M.1 idx 3 k) (hC : RepC w am C g b hs) (hj : 0 ≤ j ∧ j < C 1 0) (hv : (cB C am j)[k]? = some v) (kk : V jcl w M d (pc + 3) L (v :: st) hs Q) : V jcl w M d pc L (.ref (am 10 j) :: st) hs Q := V.get hdg hF (hC.oB hj) hv kk
theorem Vc.get_F {idx k : Nat} {f : Int} {v : Value} (hdg : decode M.2.2.1 pc = .ok (.getfield idx, 3)) (hF : jFg jcl M.1 idx 4 k) (hC : RepC w am C g b hs) (hj : 0 ≤ f ∧ f < 6 * C 1 0) (hv : (cF C am f)[k]? = some v) (kk : V jcl w M d (pc + 3) L (v :: st) hs Q) : V jcl w M d pc L (.ref (am 15 f) :: st) hs Q := V.get hdg hF (hC.oF hj) hv kk
theorem Vc.get_T {idx k : Nat} {kd : Nat} {j : Int} {v : Value} (hdg : decode M.2.2.1 pc = .ok (.getfield idx, 3)) (hF : jFg jcl M.1 idx 5 k) (hC : RepC w am C g b hs) (hj : (kd = 13 ∨ kd = 14) ∧ 0 ≤ j ∧ j < C 1 0) (hv : (cT C kd j)[k]? = some v) (kk : V jcl w M d (pc + 3) L (v :: st) hs Q) : V jcl w M d pc L (.ref (am kd j) :: st) hs Q := V.get hdg hF (hC.oT hj) hv kk
theorem Vc.put_J5 {idx : Nat} {x : Int} (hdg : decode M.2.2.1 pc = .ok (.putfield idx, 3)) (hF : jF jcl M.1 idx 0 5 false (kt_J 5)) (hC : RepC w am C g b hs) (kk : ∀ hs', RepC w am (up C 57 0 x) g b hs' → V jcl w M d (pc + 3) L st hs' Q) : V jcl w M d pc L (.int (ii x) :: .ref (am 0 0) :: st) hs Q := by
  refine V.put hdg hF hC.oJ rfl rfl (by simp [cJ]) (kk _ ?_)
  have e : (cJ C am).set 5 (.int (ii x)) = cJ (up C 57 0 x) am := by simp [cJ, up]
  rw [e]
  refine hC.set (k := 0) (vdJ (by decide)) (up_f (by decide)) (fun k' i' hn hv => ?_)
  unfold cont
  split <;> first | rfl | (exfalso; have hn := hn rfl; unfold vd at hv; omega) | (have hn := hn rfl; simp [cJ, up, hn]; done) | (have hk : k' = 15 := (by unfold vd at hv; omega); have hn := hn hk; simp [cJ, up, hn]; done)
theorem Vc.put_J6 {idx : Nat} {x : Int} (hdg : decode M.2.2.1 pc = .ok (.putfield idx, 3)) (hF : jF jcl M.1 idx 0 6 false (kt_J 6)) (hC : RepC w am C g b hs) (kk : ∀ hs', RepC w am (up C 3 0 x) g b hs' → V jcl w M d (pc + 3) L st hs' Q) : V jcl w M d pc L (.int (ii x) :: .ref (am 0 0) :: st) hs Q := by
  refine V.put hdg hF hC.oJ rfl rfl (by simp [cJ]) (kk _ ?_)
  have e : (cJ C am).set 6 (.int (ii x)) = cJ (up C 3 0 x) am := by simp [cJ, up]
  rw [e]
  refine hC.set (k := 0) (vdJ (by decide)) (up_f (by decide)) (fun k' i' hn hv => ?_)
  unfold cont
  split <;> first | rfl | (exfalso; have hn := hn rfl; unfold vd at hv; omega) | (have hn := hn rfl; simp [cJ, up, hn]; done) | (have hk : k' = 15 := (by unfold vd at hv; omega); have hn := hn hk; simp [cJ, up, hn]; done)
theorem Vc.put_J7 {idx : Nat} {x : Int} (hdg : decode M.2.2.1 pc = .ok (.putfield idx, 3)) (hF : jF jcl M.1 idx 0 7 false (kt_J 7)) (hC : RepC w am C g b hs) (kk : ∀ hs', RepC w am (up C 2 0 x) g b hs' → V jcl w M d (pc + 3) L st hs' Q) : V jcl w M d pc L (.int (ii x) :: .ref (am 0 0) :: st) hs Q := by
  refine V.put hdg hF hC.oJ rfl rfl (by simp [cJ]) (kk _ ?_)
  have e : (cJ C am).set 7 (.int (ii x)) = cJ (up C 2 0 x) am := by simp [cJ, up]
  rw [e]
  refine hC.set (k := 0) (vdJ (by decide)) (up_f (by decide)) (fun k' i' hn hv => ?_)
  unfold cont
  split <;> first | rfl | (exfalso; have hn := hn rfl; unfold vd at hv; omega) | (have hn := hn rfl; simp [cJ, up, hn]; done) | (have hk : k' = 15 := (by unfold vd at hv; omega); have hn := hn hk; simp [cJ, up, hn]; done)
theorem Vc.put_J8 {idx : Nat} {x : Int} (hdg : decode M.2.2.1 pc = .ok (.putfield idx, 3)) (hF : jF jcl M.1 idx 0 8 false (kt_J 8)) (hC : RepC w am C g b hs) (kk : ∀ hs', RepC w am (up C 4 0 x) g b hs' → V jcl w M d (pc + 3) L st hs' Q) : V jcl w M d pc L (.int (ii x) :: .ref (am 0 0) :: st) hs Q := by
  refine V.put hdg hF hC.oJ rfl rfl (by simp [cJ]) (kk _ ?_)
  have e : (cJ C am).set 8 (.int (ii x)) = cJ (up C 4 0 x) am := by simp [cJ, up]
  rw [e]
  refine hC.set (k := 0) (vdJ (by decide)) (up_f (by decide)) (fun k' i' hn hv => ?_)
  unfold cont
  split <;> first | rfl | (exfalso; have hn := hn rfl; unfold vd at hv; omega) | (have hn := hn rfl; simp [cJ, up, hn]; done) | (have hk : k' = 15 := (by unfold vd at hv; omega); have hn := hn hk; simp [cJ, up, hn]; done)
theorem Vc.put_J9 {idx : Nat} {x : Int} (hdg : decode M.2.2.1 pc = .ok (.putfield idx, 3)) (hF : jF jcl M.1 idx 0 9 false (kt_J 9)) (hC : RepC w am C g b hs) (kk : ∀ hs', RepC w am (up C 5 0 x) g b hs' → V jcl w M d (pc + 3) L st hs' Q) : V jcl w M d pc L (.int (ii x) :: .ref (am 0 0) :: st) hs Q := by
  refine V.put hdg hF hC.oJ rfl rfl (by simp [cJ]) (kk _ ?_)
  have e : (cJ C am).set 9 (.int (ii x)) = cJ (up C 5 0 x) am := by simp [cJ, up]
  rw [e]
  refine hC.set (k := 0) (vdJ (by decide)) (up_f (by decide)) (fun k' i' hn hv => ?_)
  unfold cont
  split <;> first | rfl | (exfalso; have hn := hn rfl; unfold vd at hv; omega) | (have hn := hn rfl; simp [cJ, up, hn]; done) | (have hk : k' = 15 := (by unfold vd at hv; omega); have hn := hn hk; simp [cJ, up, hn]; done)
theorem Vc.put_J10 {idx : Nat} {x : Int} (hdg : decode M.2.2.1 pc = .ok (.putfield idx, 3)) (hF : jF jcl M.1 idx 0 10 false (kt_J 10)) (hC : RepC w am C g b hs) (kk : ∀ hs', RepC w am (up C 58 0 x) g b hs' → V jcl w M d (pc + 3) L st hs' Q) : V jcl w M d pc L (.int (ii x) :: .ref (am 0 0) :: st) hs Q := by
  refine V.put hdg hF hC.oJ rfl rfl (by simp [cJ]) (kk _ ?_)
  have e : (cJ C am).set 10 (.int (ii x)) = cJ (up C 58 0 x) am := by simp [cJ, up]
  rw [e]
  refine hC.set (k := 0) (vdJ (by decide)) (up_f (by decide)) (fun k' i' hn hv => ?_)
  unfold cont
  split <;> first | rfl | (exfalso; have hn := hn rfl; unfold vd at hv; omega) | (have hn := hn rfl; simp [cJ, up, hn]; done) | (have hk : k' = 15 := (by unfold vd at hv; omega); have hn := hn hk; simp [cJ, up, hn]; done)
theorem Vc.put_P3 {idx : Nat} {p : Int} {x : Int} (hdg : decode M.2.2.1 pc = .ok (.putfield idx, 3)) (hF : jF jcl M.1 idx 1 3 false (kt_P 3)) (hC : RepC w am C g b hs) (hj : 0 ≤ p ∧ p < 10) (kk : ∀ hs', RepC w am (up C 11 p x) g b hs' → V jcl w M d (pc + 3) L st hs' Q) : V jcl w M d pc L (.int (ii x) :: .ref (am 6 p) :: st) hs Q := by
  refine V.put hdg hF (hC.oP hj) rfl rfl (by simp [cP]) (kk _ ?_)
  have e : (cP C am p).set 3 (.int (ii x)) = cP (up C 11 p x) am p := by simp [cP, up]
  rw [e]
  refine hC.set (k := 6) (vdP (by decide) hj) (up_f (by decide)) (fun k' i' hn hv => ?_)
  unfold cont
  split <;> first | rfl | (exfalso; have hn := hn rfl; unfold vd at hv; omega) | (have hn := hn rfl; simp [cP, up, hn]; done) | (have hk : k' = 15 := (by unfold vd at hv; omega); have hn := hn hk; simp [cP, up, hn]; done)
theorem Vc.put_Q1 {idx : Nat} {x : Int} (hdg : decode M.2.2.1 pc = .ok (.putfield idx, 3)) (hF : jF jcl M.1 idx 2 1 false (kt_Q 1)) (hC : RepC w am C g b hs) (kk : ∀ hs', RepC w am (up C 60 0 x) g b hs' → V jcl w M d (pc + 3) L st hs' Q) : V jcl w M d pc L (.int (ii x) :: .ref (am 3 0) :: st) hs Q := by
  refine V.put hdg hF hC.oQ rfl rfl (by simp [cQ]) (kk _ ?_)
  have e : (cQ C am).set 1 (.int (ii x)) = cQ (up C 60 0 x) am := by simp [cQ, up]
  rw [e]
  refine hC.set (k := 3) (vdJ (by decide)) (up_f (by decide)) (fun k' i' hn hv => ?_)
  unfold cont
  split <;> first | rfl | (exfalso; have hn := hn rfl; unfold vd at hv; omega) | (have hn := hn rfl; simp [cQ, up, hn]; done) | (have hk : k' = 15 := (by unfold vd at hv; omega); have hn := hn hk; simp [cQ, up, hn]; done)
theorem Vc.put_Q2 {idx : Nat} {x : Int} (hdg : decode M.2.2.1 pc = .ok (.putfield idx, 3)) (hF : jF jcl M.1 idx 2 2 false (kt_Q 2)) (hC : RepC w am C g b hs) (kk : ∀ hs', RepC w am (up C 61 0 x) g b hs' → V jcl w M d (pc + 3) L st hs' Q) : V jcl w M d pc L (.int (ii x) :: .ref (am 3 0) :: st) hs Q := by
  refine V.put hdg hF hC.oQ rfl rfl (by simp [cQ]) (kk _ ?_)
  have e : (cQ C am).set 2 (.int (ii x)) = cQ (up C 61 0 x) am := by simp [cQ, up]
  rw [e]
  refine hC.set (k := 3) (vdJ (by decide)) (up_f (by decide)) (fun k' i' hn hv => ?_)
  unfold cont
  split <;> first | rfl | (exfalso; have hn := hn rfl; unfold vd at hv; omega) | (have hn := hn rfl; simp [cQ, up, hn]; done) | (have hk : k' = 15 := (by unfold vd at hv; omega); have hn := hn hk; simp [cQ, up, hn]; done)
theorem Vc.put_B7 {idx : Nat} {j : Int} {x : Int} (hdg : decode M.2.2.1 pc = .ok (.putfield idx, 3)) (hF : jF jcl M.1 idx 3 7 false (kt_B 7)) (hC : RepC w am C g b hs) (hj : 0 ≤ j ∧ j < C 1 0) (kk : ∀ hs', RepC w am (up C 21 j x) g b hs' → V jcl w M d (pc + 3) L st hs' Q) : V jcl w M d pc L (.int (ii x) :: .ref (am 10 j) :: st) hs Q := by
  refine V.put hdg hF (hC.oB hj) rfl rfl (by simp [cB]) (kk _ ?_)
  have e : (cB C am j).set 7 (.int (ii x)) = cB (up C 21 j x) am j := by simp [cB, up]
  rw [e]
  refine hC.set (k := 10) (vdB (by decide) hj) (up_f (by decide)) (fun k' i' hn hv => ?_)
  unfold cont
  split <;> first | rfl | (exfalso; have hn := hn rfl; unfold vd at hv; omega) | (have hn := hn rfl; simp [cB, up, hn]; done) | (have hk : k' = 15 := (by unfold vd at hv; omega); have hn := hn hk; simp [cB, up, hn]; done)
theorem Vc.put_B8 {idx : Nat} {j : Int} {x : Int} (hdg : decode M.2.2.1 pc = .ok (.putfield idx, 3)) (hF : jF jcl M.1 idx 3 8 false (kt_B 8)) (hC : RepC w am C g b hs) (hj : 0 ≤ j ∧ j < C 1 0) (kk : ∀ hs', RepC w am (up C 18 j x) g b hs' → V jcl w M d (pc + 3) L st hs' Q) : V jcl w M d pc L (.int (ii x) :: .ref (am 10 j) :: st) hs Q := by
  refine V.put hdg hF (hC.oB hj) rfl rfl (by simp [cB]) (kk _ ?_)
  have e : (cB C am j).set 8 (.int (ii x)) = cB (up C 18 j x) am j := by simp [cB, up]
  rw [e]
  refine hC.set (k := 10) (vdB (by decide) hj) (up_f (by decide)) (fun k' i' hn hv => ?_)
  unfold cont
  split <;> first | rfl | (exfalso; have hn := hn rfl; unfold vd at hv; omega) | (have hn := hn rfl; simp [cB, up, hn]; done) | (have hk : k' = 15 := (by unfold vd at hv; omega); have hn := hn hk; simp [cB, up, hn]; done)
theorem Vc.put_B9 {idx : Nat} {j : Int} {x : Int} (hdg : decode M.2.2.1 pc = .ok (.putfield idx, 3)) (hF : jF jcl M.1 idx 3 9 false (kt_B 9)) (hC : RepC w am C g b hs) (hj : 0 ≤ j ∧ j < C 1 0) (kk : ∀ hs', RepC w am (up C 19 j x) g b hs' → V jcl w M d (pc + 3) L st hs' Q) : V jcl w M d pc L (.int (ii x) :: .ref (am 10 j) :: st) hs Q := by
  refine V.put hdg hF (hC.oB hj) rfl rfl (by simp [cB]) (kk _ ?_)
  have e : (cB C am j).set 9 (.int (ii x)) = cB (up C 19 j x) am j := by simp [cB, up]
  rw [e]
  refine hC.set (k := 10) (vdB (by decide) hj) (up_f (by decide)) (fun k' i' hn hv => ?_)
  unfold cont
  split <;> first | rfl | (exfalso; have hn := hn rfl; unfold vd at hv; omega) | (have hn := hn rfl; simp [cB, up, hn]; done) | (have hk : k' = 15 := (by unfold vd at hv; omega); have hn := hn hk; simp [cB, up, hn]; done)
theorem Vc.put_B10 {idx : Nat} {j : Int} {x : Int} (hdg : decode M.2.2.1 pc = .ok (.putfield idx, 3)) (hF : jF jcl M.1 idx 3 10 false (kt_B 10)) (hC : RepC w am C g b hs) (hj : 0 ≤ j ∧ j < C 1 0) (kk : ∀ hs', RepC w am (up C 20 j x) g b hs' → V jcl w M d (pc + 3) L st hs' Q) : V jcl w M d pc L (.int (ii x) :: .ref (am 10 j) :: st) hs Q := by
  refine V.put hdg hF (hC.oB hj) rfl rfl (by simp [cB]) (kk _ ?_)
  have e : (cB C am j).set 10 (.int (ii x)) = cB (up C 20 j x) am j := by simp [cB, up]
  rw [e]
  refine hC.set (k := 10) (vdB (by decide) hj) (up_f (by decide)) (fun k' i' hn hv => ?_)
  unfold cont
  split <;> first | rfl | (exfalso; have hn := hn rfl; unfold vd at hv; omega) | (have hn := hn rfl; simp [cB, up, hn]; done) | (have hk : k' = 15 := (by unfold vd at hv; omega); have hn := hn hk; simp [cB, up, hn]; done)
theorem Vc.put_B11 {idx : Nat} {j : Int} {x : Int} (hdg : decode M.2.2.1 pc = .ok (.putfield idx, 3)) (hF : jF jcl M.1 idx 3 11 false (kt_B 11)) (hC : RepC w am C g b hs) (hj : 0 ≤ j ∧ j < C 1 0) (kk : ∀ hs', RepC w am (up C 56 j x) g b hs' → V jcl w M d (pc + 3) L st hs' Q) : V jcl w M d pc L (.int (ii x) :: .ref (am 10 j) :: st) hs Q := by
  refine V.put hdg hF (hC.oB hj) rfl rfl (by simp [cB]) (kk _ ?_)
  have e : (cB C am j).set 11 (.int (ii x)) = cB (up C 56 j x) am j := by simp [cB, up]
  rw [e]
  refine hC.set (k := 10) (vdB (by decide) hj) (up_f (by decide)) (fun k' i' hn hv => ?_)
  unfold cont
  split <;> first | rfl | (exfalso; have hn := hn rfl; unfold vd at hv; omega) | (have hn := hn rfl; simp [cB, up, hn]; done) | (have hk : k' = 15 := (by unfold vd at hv; omega); have hn := hn hk; simp [cB, up, hn]; done)
theorem Vc.put_B13 {idx : Nat} {j : Int} {x : Int} (hdg : decode M.2.2.1 pc = .ok (.putfield idx, 3)) (hF : jF jcl M.1 idx 3 13 false (kt_B 13)) (hC : RepC w am C g b hs) (hj : 0 ≤ j ∧ j < C 1 0) (kk : ∀ hs', RepC w am (up C 50 j x) g b hs' → V jcl w M d (pc + 3) L st hs' Q) : V jcl w M d pc L (.int (ii x) :: .ref (am 10 j) :: st) hs Q := by
  refine V.put hdg hF (hC.oB hj) rfl rfl (by simp [cB]) (kk _ ?_)
  have e : (cB C am j).set 13 (.int (ii x)) = cB (up C 50 j x) am j := by simp [cB, up]
  rw [e]
  refine hC.set (k := 10) (vdB (by decide) hj) (up_f (by decide)) (fun k' i' hn hv => ?_)
  unfold cont
  split <;> first | rfl | (exfalso; have hn := hn rfl; unfold vd at hv; omega) | (have hn := hn rfl; simp [cB, up, hn]; done) | (have hk : k' = 15 := (by unfold vd at hv; omega); have hn := hn hk; simp [cB, up, hn]; done)
theorem Vc.put_B15 {idx : Nat} {j : Int} {x : Int} (hdg : decode M.2.2.1 pc = .ok (.putfield idx, 3)) (hF : jF jcl M.1 idx 3 15 false (kt_B 15)) (hC : RepC w am C g b hs) (hj : 0 ≤ j ∧ j < C 1 0) (kk : ∀ hs', RepC w am (up C 23 j x) g b hs' → V jcl w M d (pc + 3) L st hs' Q) : V jcl w M d pc L (.int (ii x) :: .ref (am 10 j) :: st) hs Q := by
  refine V.put hdg hF (hC.oB hj) rfl rfl (by simp [cB]) (kk _ ?_)
  have e : (cB C am j).set 15 (.int (ii x)) = cB (up C 23 j x) am j := by simp [cB, up]
  rw [e]
  refine hC.set (k := 10) (vdB (by decide) hj) (up_f (by decide)) (fun k' i' hn hv => ?_)
  unfold cont
  split <;> first | rfl | (exfalso; have hn := hn rfl; unfold vd at hv; omega) | (have hn := hn rfl; simp [cB, up, hn]; done) | (have hk : k' = 15 := (by unfold vd at hv; omega); have hn := hn hk; simp [cB, up, hn]; done)
theorem Vc.put_B12 {idx : Nat} {j : Int} {x : Int} (hdg : decode M.2.2.1 pc = .ok (.putfield idx, 3)) (hF : jF jcl M.1 idx 3 12 false (kt_B 12)) (hC : RepC w am C g b hs) (hj : 0 ≤ j ∧ j < C 1 0) (hx : x = 0 ∨ x = 1) (kk : ∀ hs', RepC w am (up C 25 j x) g b hs' → V jcl w M d (pc + 3) L st hs' Q) : V jcl w M d pc L (.int (ii x) :: .ref (am 10 j) :: st) hs Q := by
  refine V.put hdg hF (hC.oB hj) (by rcases hx with rfl | rfl <;> decide) (by rcases hx with rfl | rfl <;> decide) (by simp [cB]) (kk _ ?_)
  have e : (cB C am j).set 12 (.int (ii x)) = cB (up C 25 j x) am j := by simp [cB, up]
  rw [e]
  refine hC.set (k := 10) (vdB (by decide) hj) (up_f (by decide)) (fun k' i' hn hv => ?_)
  unfold cont
  split <;> first | rfl | (exfalso; have hn := hn rfl; unfold vd at hv; omega) | (have hn := hn rfl; simp [cB, up, hn]; done) | (have hk : k' = 15 := (by unfold vd at hv; omega); have hn := hn hk; simp [cB, up, hn]; done)
theorem Vc.put_B14n {idx : Nat} {j : Int} (hdg : decode M.2.2.1 pc = .ok (.putfield idx, 3)) (hF : jF jcl M.1 idx 3 14 false (kt_B 14)) (hC : RepC w am C g b hs) (hj : 0 ≤ j ∧ j < C 1 0) (kk : ∀ hs', RepC w am (up C 51 j (-1)) g b hs' → V jcl w M d (pc + 3) L st hs' Q) : V jcl w M d pc L (va_rf none :: .ref (am 10 j) :: st) hs Q := by
  refine V.put hdg hF (hC.oB hj) rfl rfl (by simp [cB]) (kk _ ?_)
  have e : (cB C am j).set 14 (va_rf none) = cB (up C 51 j (-1)) am j := by simp [cB, up, rj, va_rf]
  rw [e]
  refine hC.set (k := 10) (vdB (by decide) hj) (up_f (by decide)) (fun k' i' hn hv => ?_)
  unfold cont
  split <;> first | rfl | (exfalso; have hn := hn rfl; unfold vd at hv; omega) | (have hn := hn rfl; simp [cB, up, hn]; done) | (have hk : k' = 15 := (by unfold vd at hv; omega); have hn := hn hk; simp [cB, up, hn]; done)
theorem Vc.put_B14 {idx : Nat} {j : Int} {x : Int} (hdg : decode M.2.2.1 pc = .ok (.putfield idx, 3)) (hF : jF jcl M.1 idx 3 14 false (kt_B 14)) (hC : RepC w am C g b hs) (hj : 0 ≤ j ∧ j < C 1 0) (hx : 0 ≤ x) (kk : ∀ hs', RepC w am (up C 51 j x) g b hs' → V jcl w M d (pc + 3) L st hs' Q) : V jcl w M d pc L (.ref (am 10 x) :: .ref (am 10 j) :: st) hs Q := by
  refine V.put hdg hF (hC.oB hj) rfl rfl (by simp [cB]) (kk _ ?_)
  have e : (cB C am j).set 14 (.ref (am 10 x)) = cB (up C 51 j x) am j := by simp [cB, up, rj_pos hx]
  rw [e]
  refine hC.set (k := 10) (vdB (by decide) hj) (up_f (by decide)) (fun k' i' hn hv => ?_)
  unfold cont
  split <;> first | rfl | (exfalso; have hn := hn rfl; unfold vd at hv; omega) | (have hn := hn rfl; simp [cB, up, hn]; done) | (have hk : k' = 15 := (by unfold vd at hv; omega); have hn := hn hk; simp [cB, up, hn]; done)
theorem Vc.put_F0 {idx : Nat} {f : Int} {x : Int} (hdg : decode M.2.2.1 pc = .ok (.putfield idx, 3)) (hF : jF jcl M.1 idx 4 0 false (kt_F 0)) (hC : RepC w am C g b hs) (hj : 0 ≤ f ∧ f < 6 * C 1 0) (kk : ∀ hs', RepC w am (up C 35 f x) g b hs' → V jcl w M d (pc + 3) L st hs' Q) : V jcl w M d pc L (.int (ii x) :: .ref (am 15 f) :: st) hs Q := by
  refine V.put hdg hF (hC.oF hj) rfl rfl (by simp [cF]) (kk _ ?_)
  have e : (cF C am f).set 0 (.int (ii x)) = cF (up C 35 f x) am f := by simp [cF, up]
  rw [e]
  refine hC.set (k := 15) (vdF hj) (up_f (by decide)) (fun k' i' hn hv => ?_)
  unfold cont
  split <;> first | rfl | (exfalso; have hn := hn rfl; unfold vd at hv; omega) | (have hn := hn rfl; simp [cF, up, hn]; done) | (have hk : k' = 15 := (by unfold vd at hv; omega); have hn := hn hk; simp [cF, up, hn]; done)
theorem Vc.put_F2 {idx : Nat} {f : Int} {x : Int} (hdg : decode M.2.2.1 pc = .ok (.putfield idx, 3)) (hF : jF jcl M.1 idx 4 2 false (kt_F 2)) (hC : RepC w am C g b hs) (hj : 0 ≤ f ∧ f < 6 * C 1 0) (kk : ∀ hs', RepC w am (up C 34 f x) g b hs' → V jcl w M d (pc + 3) L st hs' Q) : V jcl w M d pc L (.int (ii x) :: .ref (am 15 f) :: st) hs Q := by
  refine V.put hdg hF (hC.oF hj) rfl rfl (by simp [cF]) (kk _ ?_)
  have e : (cF C am f).set 2 (.int (ii x)) = cF (up C 34 f x) am f := by simp [cF, up]
  rw [e]
  refine hC.set (k := 15) (vdF hj) (up_f (by decide)) (fun k' i' hn hv => ?_)
  unfold cont
  split <;> first | rfl | (exfalso; have hn := hn rfl; unfold vd at hv; omega) | (have hn := hn rfl; simp [cF, up, hn]; done) | (have hk : k' = 15 := (by unfold vd at hv; omega); have hn := hn hk; simp [cF, up, hn]; done)
theorem Vc.put_F4 {idx : Nat} {f : Int} {x : Int} (hdg : decode M.2.2.1 pc = .ok (.putfield idx, 3)) (hF : jF jcl M.1 idx 4 4 false (kt_F 4)) (hC : RepC w am C g b hs) (hj : 0 ≤ f ∧ f < 6 * C 1 0) (kk : ∀ hs', RepC w am (up C 37 f x) g b hs' → V jcl w M d (pc + 3) L st hs' Q) : V jcl w M d pc L (.int (ii x) :: .ref (am 15 f) :: st) hs Q := by
  refine V.put hdg hF (hC.oF hj) rfl rfl (by simp [cF]) (kk _ ?_)
  have e : (cF C am f).set 4 (.int (ii x)) = cF (up C 37 f x) am f := by simp [cF, up]
  rw [e]
  refine hC.set (k := 15) (vdF hj) (up_f (by decide)) (fun k' i' hn hv => ?_)
  unfold cont
  split <;> first | rfl | (exfalso; have hn := hn rfl; unfold vd at hv; omega) | (have hn := hn rfl; simp [cF, up, hn]; done) | (have hk : k' = 15 := (by unfold vd at hv; omega); have hn := hn hk; simp [cF, up, hn]; done)
theorem Vc.put_F1 {idx : Nat} {f : Int} {x : Int} (hdg : decode M.2.2.1 pc = .ok (.putfield idx, 3)) (hF : jF jcl M.1 idx 4 1 false (kt_F 1)) (hC : RepC w am C g b hs) (hj : 0 ≤ f ∧ f < 6 * C 1 0) (kk : ∀ hs', RepC w am (up C 33 f x) g b hs' → V jcl w M d (pc + 3) L st hs' Q) : V jcl w M d pc L (.ref (am 6 x) :: .ref (am 15 f) :: st) hs Q := by
  refine V.put hdg hF (hC.oF hj) rfl rfl (by simp [cF]) (kk _ ?_)
  have e : (cF C am f).set 1 (.ref (am 6 x)) = cF (up C 33 f x) am f := by simp [cF, up]
  rw [e]
  refine hC.set (k := 15) (vdF hj) (up_f (by decide)) (fun k' i' hn hv => ?_)
  unfold cont
  split <;> first | rfl | (exfalso; have hn := hn rfl; unfold vd at hv; omega) | (have hn := hn rfl; simp [cF, up, hn]; done) | (have hk : k' = 15 := (by unfold vd at hv; omega); have hn := hn hk; simp [cF, up, hn]; done)
theorem Vc.put_F3 {idx : Nat} {f : Int} {x : Int} (hdg : decode M.2.2.1 pc = .ok (.putfield idx, 3)) (hF : jF jcl M.1 idx 4 3 false (kt_F 3)) (hC : RepC w am C g b hs) (hj : 0 ≤ f ∧ f < 6 * C 1 0) (kk : ∀ hs', RepC w am (up C 36 f x) g b hs' → V jcl w M d (pc + 3) L st hs' Q) : V jcl w M d pc L (.ref (am 6 x) :: .ref (am 15 f) :: st) hs Q := by
  refine V.put hdg hF (hC.oF hj) rfl rfl (by simp [cF]) (kk _ ?_)
  have e : (cF C am f).set 3 (.ref (am 6 x)) = cF (up C 36 f x) am f := by simp [cF, up]
  rw [e]
  refine hC.set (k := 15) (vdF hj) (up_f (by decide)) (fun k' i' hn hv => ?_)
  unfold cont
  split <;> first | rfl | (exfalso; have hn := hn rfl; unfold vd at hv; omega) | (have hn := hn rfl; simp [cF, up, hn]; done) | (have hk : k' = 15 := (by unfold vd at hv; omega); have hn := hn hk; simp [cF, up, hn]; done)
theorem Vc.put_T0 {idx kd : Nat} {j x : Int} (hdg : decode M.2.2.1 pc = .ok (.putfield idx, 3)) (hF : jF jcl M.1 idx 5 0 false (kt_T 0)) (hC : RepC w am C g b hs) (hj : (kd = 13 ∨ kd = 14) ∧ 0 ≤ j ∧ j < C 1 0) (kk : ∀ hs', RepC w am (up C (tdu kd) j x) g b hs' → V jcl w M d (pc + 3) L st hs' Q) : V jcl w M d pc L (.int (ii x) :: .ref (am kd j) :: st) hs Q := by
  refine V.put hdg hF (hC.oT hj) rfl rfl (by simp [cT]) (kk _ ?_)
  obtain ⟨hk, hj⟩ := hj
  rcases hk with rfl | rfl
  · have e : (cT C 13 j).set 0 (.int (ii x)) = cT (up C (tdu 13) j x) 13 j := by simp [cT, tdu, ttu, up]
    rw [e]
    refine hC.set (k := 13) (vdB (by decide) hj) (up_f (by decide)) (fun k' i' hn hv => ?_)
    unfold cont
    split <;> first | rfl | (have hn := hn rfl; simp [cT, tdu, ttu, up, hn]) | (exfalso; unfold vd at hv; omega)
  · have e : (cT C 14 j).set 0 (.int (ii x)) = cT (up C (tdu 14) j x) 14 j := by simp [cT, tdu, ttu, up]
    rw [e]
    refine hC.set (k := 14) (vdB (by decide) hj) (up_f (by decide)) (fun k' i' hn hv => ?_)
    unfold cont
    split <;> first | rfl | (have hn := hn rfl; simp [cT, tdu, ttu, up, hn]) | (exfalso; unfold vd at hv; omega)
theorem Vc.put_T1 {idx kd : Nat} {j x : Int} (hdg : decode M.2.2.1 pc = .ok (.putfield idx, 3)) (hF : jF jcl M.1 idx 5 1 false (kt_T 1)) (hC : RepC w am C g b hs) (hj : (kd = 13 ∨ kd = 14) ∧ 0 ≤ j ∧ j < C 1 0) (kk : ∀ hs', RepC w am (up C (ttu kd) j x) g b hs' → V jcl w M d (pc + 3) L st hs' Q) : V jcl w M d pc L (.int (ii x) :: .ref (am kd j) :: st) hs Q := by
  refine V.put hdg hF (hC.oT hj) rfl rfl (by simp [cT]) (kk _ ?_)
  obtain ⟨hk, hj⟩ := hj
  rcases hk with rfl | rfl
  · have e : (cT C 13 j).set 1 (.int (ii x)) = cT (up C (ttu 13) j x) 13 j := by simp [cT, tdu, ttu, up]
    rw [e]
    refine hC.set (k := 13) (vdB (by decide) hj) (up_f (by decide)) (fun k' i' hn hv => ?_)
    unfold cont
    split <;> first | rfl | (have hn := hn rfl; simp [cT, tdu, ttu, up, hn]) | (exfalso; unfold vd at hv; omega)
  · have e : (cT C 14 j).set 1 (.int (ii x)) = cT (up C (ttu 14) j x) 14 j := by simp [cT, tdu, ttu, up]
    rw [e]
    refine hC.set (k := 14) (vdB (by decide) hj) (up_f (by decide)) (fun k' i' hn hv => ?_)
    unfold cont
    split <;> first | rfl | (have hn := hn rfl; simp [cT, tdu, ttu, up, hn]) | (exfalso; unfold vd at hv; omega)
theorem Vc.ald_notes {i : Int} (hdg : decode M.2.2.1 pc = .ok (.iaload, 1)) (hC : RepC w am C g b hs) (hi : 0 ≤ i ∧ i < 60) (kk : V jcl w M d (pc + 1) L (.int (ii (C 15 i)) :: st) hs Q) : V jcl w M d pc L (.int (ii i) :: .ref (am 4 0) :: st) hs Q := by
  refine V.iald (t0 := 0) hdg (hC.2.1 4 0 (vdJ (by decide))) hC.2.2.2.2.1 (ii_in hi.1 hi.2 (by decide)) ?_
  have h1 := ii_clampI hi.1 (by omega)
  have h2 : (ii i).toNatClampNeg < 60 := by omega
  simp only [h1, h2, if_true]
  exact kk
theorem Vc.ast_notes {i x : Int} (hdg : decode M.2.2.1 pc = .ok (.iastore, 1)) (hC : RepC w am C g b hs) (hi : 0 ≤ i ∧ i < 60) (kk : ∀ hs', RepC w am (up C 15 i x) g b hs' → V jcl w M d (pc + 1) L st hs' Q) : V jcl w M d pc L (.int (ii x) :: .int (ii i) :: .ref (am 4 0) :: st) hs Q := by
  refine V.iast (t0 := 0) hdg (hC.2.1 4 0 (vdJ (by decide))) hC.2.2.2.2.1 (ii_in hi.1 hi.2 (by decide)) (kk _ ?_)
  have h1 := ii_clampI hi.1 (by omega)
  have hs1 := hC.set (k := 4) (i := 0) (C' := up C 15 i x) (vdJ (by decide)) (up_f (by decide)) (fun k' i' hn hv => by
    unfold cont
    split <;> first | rfl | (have hn := hn rfl; congr 1; funext n; split <;> first | rfl | (rw [up_i (by omega)])) | (exfalso; unfold vd at hv; have := hn rfl; omega))
  have e0 : cont w (up C 15 i x) am 4 0 = .inl (jcA w 0, 60, .inl (upd (fun n => ii (C 15 n)) (ii i).toNatClampNeg (ii x))) := by
    show aI w 60 _ = aI w 60 _
    congr 1
    funext n
    by_cases hn : n = (ii i).toNatClampNeg
    · subst hn
      simp [upd, up, h1]
    · have hn2 : ¬ ((n : Int) = i) := by omega
      simp [upd, up, hn, hn2]
      
  rw [e0] at hs1
  exact hs1
theorem Vc.ald_kinds {p : Int} {i : Int} (hdg : decode M.2.2.1 pc = .ok (.iaload, 1)) (hC : RepC w am C g b hs) (hj : 0 ≤ p ∧ p < 10) (hi : 0 ≤ i ∧ i < 8) (kk : V jcl w M d (pc + 1) L (.int (ii (C 12 (p * 8 + i))) :: st) hs Q) : V jcl w M d pc L (.int (ii i) :: .ref (am 7 p) :: st) hs Q := by
  refine V.iald (t0 := 0) hdg (hC.2.1 7 p (vdP (by decide) hj)) hC.2.2.2.2.1 (ii_in hi.1 hi.2 (by decide)) ?_
  have h1 := ii_clampI hi.1 (by omega)
  have h2 : (ii i).toNatClampNeg < 8 := by omega
  simp only [h1, h2, if_true]
  exact kk
theorem Vc.ast_kinds {p : Int} {i x : Int} (hdg : decode M.2.2.1 pc = .ok (.iastore, 1)) (hC : RepC w am C g b hs) (hj : 0 ≤ p ∧ p < 10) (hi : 0 ≤ i ∧ i < 8) (kk : ∀ hs', RepC w am (up C 12 (p * 8 + i) x) g b hs' → V jcl w M d (pc + 1) L st hs' Q) : V jcl w M d pc L (.int (ii x) :: .int (ii i) :: .ref (am 7 p) :: st) hs Q := by
  refine V.iast (t0 := 0) hdg (hC.2.1 7 p (vdP (by decide) hj)) hC.2.2.2.2.1 (ii_in hi.1 hi.2 (by decide)) (kk _ ?_)
  have h1 := ii_clampI hi.1 (by omega)
  have hs1 := hC.set (k := 7) (i := p) (C' := up C 12 (p * 8 + i) x) (vdP (by decide) hj) (up_f (by decide)) (fun k' i' hn hv => by
    unfold cont
    split <;> first | rfl | (have hn := hn rfl; congr 1; funext n; split <;> first | rfl | (rw [up_i (by omega)])) | (exfalso; unfold vd at hv; have := hn rfl; omega))
  have e0 : cont w (up C 12 (p * 8 + i) x) am 7 p = .inl (jcA w 0, 8, .inl (upd (fun n => if n < 8 then ii (C 12 (p * 8 + n)) else 0) (ii i).toNatClampNeg (ii x))) := by
    show aI w 8 _ = aI w 8 _
    congr 1
    funext n
    by_cases hn : n = (ii i).toNatClampNeg
    · subst hn
      simp [upd, up, h1, show (ii i).toNatClampNeg < 8 by omega]
    · have hn2 : ¬ ((n : Int) = i) := by omega
      have hn3 : ¬ (p * 8 + (n : Int) = p * 8 + i) := by omega
      simp only [upd, up, hn, hn3, and_false, if_false]
  rw [e0] at hs1
  exact hs1
theorem Vc.ald_as {p : Int} {i : Int} (hdg : decode M.2.2.1 pc = .ok (.iaload, 1)) (hC : RepC w am C g b hs) (hj : 0 ≤ p ∧ p < 10) (hi : 0 ≤ i ∧ i < 8) (kk : V jcl w M d (pc + 1) L (.int (ii (C 13 (p * 8 + i))) :: st) hs Q) : V jcl w M d pc L (.int (ii i) :: .ref (am 8 p) :: st) hs Q := by
  refine V.iald (t0 := 0) hdg (hC.2.1 8 p (vdP (by decide) hj)) hC.2.2.2.2.1 (ii_in hi.1 hi.2 (by decide)) ?_
  have h1 := ii_clampI hi.1 (by omega)
  have h2 : (ii i).toNatClampNeg < 8 := by omega
  simp only [h1, h2, if_true]
  exact kk
theorem Vc.ast_as {p : Int} {i x : Int} (hdg : decode M.2.2.1 pc = .ok (.iastore, 1)) (hC : RepC w am C g b hs) (hj : 0 ≤ p ∧ p < 10) (hi : 0 ≤ i ∧ i < 8) (kk : ∀ hs', RepC w am (up C 13 (p * 8 + i) x) g b hs' → V jcl w M d (pc + 1) L st hs' Q) : V jcl w M d pc L (.int (ii x) :: .int (ii i) :: .ref (am 8 p) :: st) hs Q := by
  refine V.iast (t0 := 0) hdg (hC.2.1 8 p (vdP (by decide) hj)) hC.2.2.2.2.1 (ii_in hi.1 hi.2 (by decide)) (kk _ ?_)
  have h1 := ii_clampI hi.1 (by omega)
  have hs1 := hC.set (k := 8) (i := p) (C' := up C 13 (p * 8 + i) x) (vdP (by decide) hj) (up_f (by decide)) (fun k' i' hn hv => by
    unfold cont
    split <;> first | rfl | (have hn := hn rfl; congr 1; funext n; split <;> first | rfl | (rw [up_i (by omega)])) | (exfalso; unfold vd at hv; have := hn rfl; omega))
  have e0 : cont w (up C 13 (p * 8 + i) x) am 8 p = .inl (jcA w 0, 8, .inl (upd (fun n => if n < 8 then ii (C 13 (p * 8 + n)) else 0) (ii i).toNatClampNeg (ii x))) := by
    show aI w 8 _ = aI w 8 _
    congr 1
    funext n
    by_cases hn : n = (ii i).toNatClampNeg
    · subst hn
      simp [upd, up, h1, show (ii i).toNatClampNeg < 8 by omega]
    · have hn2 : ¬ ((n : Int) = i) := by omega
      have hn3 : ¬ (p * 8 + (n : Int) = p * 8 + i) := by omega
      simp only [upd, up, hn, hn3, and_false, if_false]
  rw [e0] at hs1
  exact hs1
theorem Vc.ald_bs {p : Int} {i : Int} (hdg : decode M.2.2.1 pc = .ok (.iaload, 1)) (hC : RepC w am C g b hs) (hj : 0 ≤ p ∧ p < 10) (hi : 0 ≤ i ∧ i < 8) (kk : V jcl w M d (pc + 1) L (.int (ii (C 14 (p * 8 + i))) :: st) hs Q) : V jcl w M d pc L (.int (ii i) :: .ref (am 9 p) :: st) hs Q := by
  refine V.iald (t0 := 0) hdg (hC.2.1 9 p (vdP (by decide) hj)) hC.2.2.2.2.1 (ii_in hi.1 hi.2 (by decide)) ?_
  have h1 := ii_clampI hi.1 (by omega)
  have h2 : (ii i).toNatClampNeg < 8 := by omega
  simp only [h1, h2, if_true]
  exact kk
theorem Vc.ast_bs {p : Int} {i x : Int} (hdg : decode M.2.2.1 pc = .ok (.iastore, 1)) (hC : RepC w am C g b hs) (hj : 0 ≤ p ∧ p < 10) (hi : 0 ≤ i ∧ i < 8) (kk : ∀ hs', RepC w am (up C 14 (p * 8 + i) x) g b hs' → V jcl w M d (pc + 1) L st hs' Q) : V jcl w M d pc L (.int (ii x) :: .int (ii i) :: .ref (am 9 p) :: st) hs Q := by
  refine V.iast (t0 := 0) hdg (hC.2.1 9 p (vdP (by decide) hj)) hC.2.2.2.2.1 (ii_in hi.1 hi.2 (by decide)) (kk _ ?_)
  have h1 := ii_clampI hi.1 (by omega)
  have hs1 := hC.set (k := 9) (i := p) (C' := up C 14 (p * 8 + i) x) (vdP (by decide) hj) (up_f (by decide)) (fun k' i' hn hv => by
    unfold cont
    split <;> first | rfl | (have hn := hn rfl; congr 1; funext n; split <;> first | rfl | (rw [up_i (by omega)])) | (exfalso; unfold vd at hv; have := hn rfl; omega))
  have e0 : cont w (up C 14 (p * 8 + i) x) am 9 p = .inl (jcA w 0, 8, .inl (upd (fun n => if n < 8 then ii (C 14 (p * 8 + n)) else 0) (ii i).toNatClampNeg (ii x))) := by
    show aI w 8 _ = aI w 8 _
    congr 1
    funext n
    by_cases hn : n = (ii i).toNatClampNeg
    · subst hn
      simp [upd, up, h1, show (ii i).toNatClampNeg < 8 by omega]
    · have hn2 : ¬ ((n : Int) = i) := by omega
      have hn3 : ¬ (p * 8 + (n : Int) = p * 8 + i) := by omega
      simp only [upd, up, hn, hn3, and_false, if_false]
  rw [e0] at hs1
  exact hs1
theorem Vc.ald_jobs {i : Int} (hdg : decode M.2.2.1 pc = .ok (.aaload, 1)) (hC : RepC w am C g b hs) (hJ : C 1 0 ≤ 24) (hi : 0 ≤ i ∧ i < C 1 0) (kk : V jcl w M d (pc + 1) L (.ref (am 10 i) :: st) hs Q) : V jcl w M d pc L (.int (ii i) :: .ref (am 2 0) :: st) hs Q := by
  refine V.aald (t0 := 4) hdg (hC.2.1 2 0 (vdJ (by decide))) hC.2.2.2.2.2.2.2.2.1 (ii_in hi.1 (by omega) (by decide)) ?_
  have h1 := ii_clampI hi.1 (by omega)
  simp only [h1, hi.2, if_true]
  exact kk
theorem Vc.ald_programs {i : Int} (hdg : decode M.2.2.1 pc = .ok (.aaload, 1)) (hC : RepC w am C g b hs) (hi : 0 ≤ i ∧ i < 10) (kk : V jcl w M d (pc + 1) L (.ref (am 6 i) :: st) hs Q) : V jcl w M d pc L (.int (ii i) :: .ref (am 1 0) :: st) hs Q := by
  refine V.aald (t0 := 3) hdg (hC.2.1 1 0 (vdJ (by decide))) hC.2.2.2.2.2.2.2.1 (ii_in hi.1 hi.2 (by decide)) ?_
  have h1 := ii_clampI hi.1 (by omega)
  have h2 : (ii i).toNatClampNeg < 10 := by omega
  simp only [h1, h2, if_true]
  exact kk
theorem Vc.ald_frames {j i : Int} (hdg : decode M.2.2.1 pc = .ok (.aaload, 1)) (hC : RepC w am C g b hs) (hj : 0 ≤ j ∧ j < C 1 0) (hi : 0 ≤ i ∧ i < 6) (kk : V jcl w M d (pc + 1) L (.ref (am 15 (j * 6 + i)) :: st) hs Q) : V jcl w M d pc L (.int (ii i) :: .ref (am 12 j) :: st) hs Q := by
  refine V.aald (t0 := 5) hdg (hC.2.1 12 j (vdB (by decide) hj)) hC.2.2.2.2.2.2.2.2.2 (ii_in hi.1 hi.2 (by decide)) ?_
  have h1 := ii_clampI hi.1 (by omega)
  have h2 : (ii i).toNatClampNeg < 6 := by omega
  simp only [h1, h2, if_true]
  exact kk
theorem Vc.ald_slots {j i : Int} (hdg : decode M.2.2.1 pc = .ok (.aaload, 1)) (hC : RepC w am C g b hs) (hj : 0 ≤ j ∧ j < C 1 0) (hi : 0 ≤ i ∧ i < 3) (kk : V jcl w M d (pc + 1) L (va_rf (rj am (C 22 (j * 3 + i))) :: st) hs Q) : V jcl w M d pc L (.int (ii i) :: .ref (am 11 j) :: st) hs Q := by
  refine V.aald (t0 := 4) hdg (hC.2.1 11 j (vdB (by decide) hj)) hC.2.2.2.2.2.2.2.2.1 (ii_in hi.1 hi.2 (by decide)) ?_
  have h1 := ii_clampI hi.1 (by omega)
  have h2 : (ii i).toNatClampNeg < 3 := by omega
  simp only [h1, h2, if_true]
  exact kk
theorem Vc.ald_row {i : Int} (hdg : decode M.2.2.1 pc = .ok (.aaload, 1)) (hC : RepC w am C g b hs) (hi : 0 ≤ i ∧ i < 24) (kk : V jcl w M d (pc + 1) L (va_rf (rj am (C 59 i)) :: st) hs Q) : V jcl w M d pc L (.int (ii i) :: .ref (am 5 0) :: st) hs Q := by
  refine V.aald (t0 := 4) hdg (hC.2.1 5 0 (vdJ (by decide))) hC.2.2.2.2.2.2.2.2.1 (ii_in hi.1 hi.2 (by decide)) ?_
  have h1 := ii_clampI hi.1 (by omega)
  simp only [h1]
  exact kk
theorem Vc.ast_row {i x : Int} (hdg : decode M.2.2.1 pc = .ok (.aastore, 1)) (hC : RepC w am C g b hs) (hx : 0 ≤ x ∧ x < C 1 0) (hi : 0 ≤ i ∧ i < 24) (kk : ∀ hs', RepC w am (up C 59 i x) g b hs' → V jcl w M d (pc + 1) L st hs' Q) : V jcl w M d pc L (.ref (am 10 x) :: .int (ii i) :: .ref (am 5 0) :: st) hs Q := by
  refine V.aast (t0 := 4) (r := ("JobRuntime$Job", kT_B, 16)) hdg (hC.2.1 5 0 (vdJ (by decide))) hC.2.2.2.2.2.2.2.2.1 (hC.oB hx) rfl (ii_in hi.1 hi.2 (by decide)) (kk _ ?_)
  have h1 := ii_clampI hi.1 (by omega)
  have hs1 := hC.set (k := 5) (i := 0) (C' := up C 59 i x) (vdJ (by decide)) (up_f (by decide)) (fun k' i' hn hv => by
    unfold cont
    split <;> first | rfl | (exfalso; unfold vd at hv; have := hn rfl; omega))
  have e0 : cont w (up C 59 i x) am 5 0 = .inl (jcA w 4, 24, .inr (.inr (.inr (.inr (va_up (fun n => rj am (C 59 n)) (ii i).toNatClampNeg (some (am 10 x))))))) := by
    show aO w 4 24 _ = aO w 4 24 _
    congr 1
    funext n
    by_cases hn : n = (ii i).toNatClampNeg
    · subst hn
      have : ¬ x < 0 := by omega
      simp [va_up, up, h1, rj, this]
    · have hn2 : ¬ ((n : Int) = i) := by omega
      simp [va_up, up, hn, hn2]
  rw [e0] at hs1
  exact hs1
theorem Vc.ast_slots {j i x : Int} (hdg : decode M.2.2.1 pc = .ok (.aastore, 1)) (hC : RepC w am C g b hs) (hj : 0 ≤ j ∧ j < C 1 0) (hx : 0 ≤ x ∧ x < C 1 0) (hi : 0 ≤ i ∧ i < 3) (kk : ∀ hs', RepC w am (up C 22 (j * 3 + i) x) g b hs' → V jcl w M d (pc + 1) L st hs' Q) : V jcl w M d pc L (.ref (am 10 x) :: .int (ii i) :: .ref (am 11 j) :: st) hs Q := by
  refine V.aast (t0 := 4) (r := ("JobRuntime$Job", kT_B, 16)) hdg (hC.2.1 11 j (vdB (by decide) hj)) hC.2.2.2.2.2.2.2.2.1 (hC.oB hx) rfl (ii_in hi.1 hi.2 (by decide)) (kk _ ?_)
  have h1 := ii_clampI hi.1 (by omega)
  have hs1 := hC.set (k := 11) (i := j) (C' := up C 22 (j * 3 + i) x) (vdB (by decide) hj) (up_f (by decide)) (fun k' i' hn hv => by
    unfold cont
    split <;> first | rfl | (have hn := hn rfl; congr 1; funext n; split <;> first | rfl | (rw [up_i (by omega)])) | (exfalso; unfold vd at hv; have := hn rfl; omega))
  have e0 : cont w (up C 22 (j * 3 + i) x) am 11 j = .inl (jcA w 4, 3, .inr (.inr (.inr (.inr (va_up (fun n => if n < 3 then rj am (C 22 (j * 3 + n)) else none) (ii i).toNatClampNeg (some (am 10 x))))))) := by
    show aO w 4 3 _ = aO w 4 3 _
    congr 1
    funext n
    by_cases hn : n = (ii i).toNatClampNeg
    · subst hn
      have : ¬ x < 0 := by omega
      have h3 : (ii i).toNatClampNeg < 3 := by omega
      simp [va_up, up, h1, rj, this, h3]
    · have hn3 : ¬ (j * 3 + (n : Int) = j * 3 + i) := by omega
      simp only [va_up, up, hn, hn3, and_false, if_false]
  rw [e0] at hs1
  exact hs1
theorem Vc.irem24 {a : Int} (hdg : decode M.2.2.1 pc = .ok (.irem, 1)) (ha : 0 ≤ a ∧ a < 48) (kk : V jcl w M d (pc + 1) L (.int (ii (a % 24)) :: st) hs Q) : V jcl w M d pc L (.int (ii 24) :: .int (ii a) :: st) hs Q := by
  refine V.irem hdg (by decide) ?_
  have key : ∀ n : Nat, n < 48 → ii (n : Int) - ii (n : Int) / ii 24 * ii 24 = ii ((n : Int) % 24) := by decide
  have := key a.toNat (by omega)
  rw [show ((a.toNat : Nat) : Int) = a by omega] at this
  rw [this]
  exact kk
theorem Vc.ldc {idx : Nat} {n : Int} {v : Int32} (hdg : decode M.2.2.1 pc = .ok (.ldc idx, 2)) (hw : Cond.constant M.1 idx v ∈ lw_tbl) (hv : v = ii n) (k : V jcl w M d (pc + 2) L (.int (ii n) :: st) hs Q) : V jcl w M d pc L st hs Q := V.ldc hdg hw (by rw [hv]; exact k)
theorem Vc.ldcw {idx : Nat} {n : Int} {v : Int32} (hdg : decode M.2.2.1 pc = .ok (.ldc_w idx, 3)) (hw : Cond.constant M.1 idx v ∈ lw_tbl) (hv : v = ii n) (k : V jcl w M d (pc + 3) L (.int (ii n) :: st) hs Q) : V jcl w M d pc L st hs Q := V.ldcw hdg hw (by rw [hv]; exact k)
theorem Vc.ifnull {k : Int} {off : Int} {tgt : Nat} (hdg : decode M.2.2.1 pc = .ok (.ifnull off, 3)) (ht : (pc : Int) + off = (tgt : Int)) (kt : k < 0 → V jcl w M d tgt L st hs Q) (kf : 0 ≤ k → V jcl w M d (pc + 3) L st hs Q) : V jcl w M d pc L (va_rf (rj am k) :: st) hs Q :=
  V.ifnull hdg ht (fun e => kt (by unfold rj at e; split at e <;> first | assumption | cases e)) (fun y e => kf (by unfold rj at e; split at e <;> first | omega | cases e))
theorem Vc.ifnonnull {k : Int} {off : Int} {tgt : Nat} (hdg : decode M.2.2.1 pc = .ok (.ifnonnull off, 3)) (ht : (pc : Int) + off = (tgt : Int)) (kt : 0 ≤ k → V jcl w M d tgt L st hs Q) (kf : k < 0 → V jcl w M d (pc + 3) L st hs Q) : V jcl w M d pc L (va_rf (rj am k) :: st) hs Q :=
  V.ifnonnull hdg ht (fun y e => kt (by unfold rj at e; split at e <;> first | omega | cases e)) (fun e => kf (by unfold rj at e; split at e <;> first | assumption | cases e))
theorem RepC.rj_eq (hC : RepC w am C g b hs) {k j : Int} (hk : k < C 1 0) (hj : 0 ≤ j ∧ j < C 1 0) : rj am k = some (am 10 j) ↔ k = j := by
  unfold rj
  split
  · exact ⟨fun e => (by cases e), fun e => (by omega)⟩
  · exact ⟨fun e => (hC.2.2.1 10 k 10 j (vdB (by decide) (by omega)) (vdB (by decide) hj) (Option.some.inj e)).2, fun e => by rw [e]⟩
end JC
