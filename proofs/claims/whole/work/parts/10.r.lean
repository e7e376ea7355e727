/-! the reference: its state is a family of rows of whole numbers -/
abbrev js : Type := Nat → Int → Int
def up (S : js) (f : Nat) (i v : Int) : js := fun f' i' => if f' = f ∧ i' = i then v else S f' i'
theorem up_s (S : js) (f : Nat) (i v : Int) : up S f i v f i = v := if_pos ⟨rfl, rfl⟩
theorem up_f {S : js} {f f' : Nat} {i i' v : Int} (h : f' ≠ f) : up S f i v f' i' = S f' i' := if_neg fun z => h z.1
theorem up_i {S : js} {f f' : Nat} {i i' v : Int} (h : i' ≠ i) : up S f i v f' i' = S f' i' := if_neg fun z => h z.2
def jcA (w : jw) (t : Nat) : ClassId := ((jty w).getD t (0, .int)).1
/-- the array classes, by their places -/
def jWf (w : jw) : Prop := (jty w)[0]? = some (jcA w 0, .int) ∧ (jty w)[1]? = some (jcA w 1, .boolean) ∧ (jty w)[2]? = some (jcA w 2, .long) ∧ (jty w)[3]? = some (jcA w 3, .object "JobRuntime$Program") ∧ (jty w)[4]? = some (jcA w 4, .object "JobRuntime$Job") ∧ (jty w)[5]? = some (jcA w 5, .object "JobRuntime$Frame")
def rlen : Nat → Nat
  | 11 => 10
  | 12 => 80
  | 13 => 80
  | 14 => 80
  | 15 => 60
  | 16 => 24
  | 17 => 24
  | 18 => 24
  | 19 => 24
  | 20 => 24
  | 21 => 24
  | 22 => 72
  | 23 => 24
  | 24 => 24
  | 25 => 24
  | 26 => 24
  | 27 => 24
  | 28 => 24
  | 29 => 24
  | 30 => 24
  | 31 => 24
  | 32 => 24
  | 33 => 144
  | 34 => 144
  | 35 => 144
  | 36 => 144
  | 37 => 144
  | 38 => 24
  | 39 => 24
  | 40 => 24
  | _ => 0
def rz (f : Nat) : Nat := if f = 24 ∨ f = 25 then 1 else 0
def rfs (S : js) (ra : Nat → Nat) : List Value := [.int (ii (S 0 0)), .int (ii (S 1 0)), .int (ii (S 2 0)), .int (ii (S 3 0)), .int (ii (S 4 0)), .int (ii (S 5 0)), .int (ii (S 6 0)), .int (ii (S 7 0)), .int (ii (S 8 0)), .int (ii (S 9 0)), .int (ii (S 10 0)), .ref (ra 11), .ref (ra 12), .ref (ra 13), .ref (ra 14), .ref (ra 15), .ref (ra 16), .ref (ra 17), .ref (ra 18), .ref (ra 19), .ref (ra 20), .ref (ra 21), .ref (ra 22), .ref (ra 23), .ref (ra 24), .ref (ra 25), .ref (ra 26), .ref (ra 27), .ref (ra 28), .ref (ra 29), .ref (ra 30), .ref (ra 31), .ref (ra 32), .ref (ra 33), .ref (ra 34), .ref (ra 35), .ref (ra 36), .ref (ra 37), .ref (ra 38), .ref (ra 39), .ref (ra 40)]
def RepU (w : jw) (mo : Nat) (ra : Nat → Nat) (S : js) (g : Nat → Option va_E) (b : Nat × Nat) (hs : jh) : Prop :=
  hs.2 = b ∧ hs.1 mo = some (.inr (6, rfs S ra)) ∧ (∀ f, 11 ≤ f → f ≤ 40 → hs.1 (ra f) = some (.inl (jcA w (rz f), rlen f, .inl (fun n => ii (S f n))))) ∧
  (∀ f f', 11 ≤ f → f ≤ 40 → 11 ≤ f' → f' ≤ 40 → ra f = ra f' → f = f') ∧ (∀ a e, g a = some e → hs.1 a = some e ∧ a ≠ mo ∧ ∀ f, 11 ≤ f → f ≤ 40 → a ≠ ra f) ∧ jWf w
section JR
variable {w : jw} {M : jm} {d pc : Nat} {L : List (Nat × Value)} {st : List Value} {hs : jh} {Q : jo → jh → Prop} {mo : Nat} {ra : Nat → Nat} {S : js} {g : Nat → Option va_E} {b : Nat × Nat}
theorem RepU.mo_ne (h : RepU w mo ra S g b hs) {f : Nat} (h1 : 11 ≤ f) (h2 : f ≤ 40) : ra f ≠ mo := by
  intro e
  have h3 := h.2.2.1 f h1 h2
  rw [e, h.2.1] at h3
  cases h3
theorem RepU.arr (h : RepU w mo ra S g b hs) (f : Nat) {x i : Int} (h1 : 11 ≤ f) (h2 : f ≤ 40) (hi : 0 ≤ i) : RepU w mo ra (up S f i x) g b (hup hs.1 (ra f) (.inl (jcA w (rz f), rlen f, .inl (upd (fun n => ii (S f n)) i.toNat (ii x)))), hs.2) := by
  refine ⟨h.1, ?_, fun f' h3 h4 => ?_, h.2.2.2.1, fun a e ha => ?_, h.2.2.2.2.2⟩
  · show hup hs.1 _ _ mo = _
    rw [hup_n (Ne.symm (h.mo_ne h1 h2)), h.2.1]
    unfold rfs
    simp only [up_f (show (0 : Nat) ≠ f by omega), up_f (show (1 : Nat) ≠ f by omega), up_f (show (2 : Nat) ≠ f by omega), up_f (show (3 : Nat) ≠ f by omega), up_f (show (4 : Nat) ≠ f by omega), up_f (show (5 : Nat) ≠ f by omega), up_f (show (6 : Nat) ≠ f by omega), up_f (show (7 : Nat) ≠ f by omega), up_f (show (8 : Nat) ≠ f by omega), up_f (show (9 : Nat) ≠ f by omega), up_f (show (10 : Nat) ≠ f by omega)]
  · show hup hs.1 _ _ (ra f') = _
    by_cases hf : f' = f
    · subst hf
      rw [hup_s]
      congr 5
      funext n
      by_cases hn : (n : Int) = i
      · subst hn
        rw [up_s]
        simp [upd]
      · rw [up_i hn]
        have : ¬ n = i.toNat := by omega
        simp [upd, this]
    · rw [hup_n (fun e => hf (h.2.2.2.1 _ _ h3 h4 h1 h2 e)), h.2.2.1 f' h3 h4]
      congr 5
      funext n
      rw [up_f hf]
  · obtain ⟨z1, z2, z3⟩ := h.2.2.2.2.1 a e ha
    exact ⟨by show hup hs.1 _ _ a = _; rw [hup_n (z3 f h1 h2)]; exact z1, z2, z3⟩
theorem Vu.get {idx k : Nat} {v : Value} (hdg : decode M.2.2.1 pc = .ok (.getfield idx, 3)) (hF : jFg jcl M.1 idx 6 k) (hR : RepU w mo ra S g b hs) (hv : (rfs S ra)[k]? = some v) (kk : V jcl w M d (pc + 3) L (v :: st) hs Q) : V jcl w M d pc L (.ref mo :: st) hs Q := V.get hdg hF hR.2.1 hv kk
theorem Vu.ald {f n : Nat} {i : Int} (hdg : decode M.2.2.1 pc = .ok (.iaload, 1)) (hR : RepU w mo ra S g b hs) (hf : 11 ≤ f ∧ f ≤ 40 ∧ rz f = 0) (hn : rlen f = n) (hi : 0 ≤ i ∧ i < n) (kk : V jcl w M d (pc + 1) L (.int (ii (S f i)) :: st) hs Q) : V jcl w M d pc L (.int (ii i) :: .ref (ra f) :: st) hs Q := by
  subst hn
  have hb : rlen f ≤ 144 := by unfold rlen; split <;> decide
  have ha := hR.2.2.1 f hf.1 hf.2.1
  rw [hf.2.2] at ha
  refine V.iald (t0 := 0) hdg ha hR.2.2.2.2.2.1 (ii_in hi.1 hi.2 (by omega)) ?_
  rw [ii_clampI hi.1 (by omega)]
  exact kk
theorem Vu.zald {f n : Nat} {i : Int} (hdg : decode M.2.2.1 pc = .ok (.baload, 1)) (hR : RepU w mo ra S g b hs) (hf : 11 ≤ f ∧ f ≤ 40 ∧ rz f = 1) (hn : rlen f = n) (hi : 0 ≤ i ∧ i < n) (kk : V jcl w M d (pc + 1) L (.int (ii (S f i)) :: st) hs Q) : V jcl w M d pc L (.int (ii i) :: .ref (ra f) :: st) hs Q := by
  subst hn
  have hb : rlen f ≤ 144 := by unfold rlen; split <;> decide
  have ha := hR.2.2.1 f hf.1 hf.2.1
  rw [hf.2.2] at ha
  refine V.zald (t0 := 1) hdg ha hR.2.2.2.2.2.2.1 (ii_in hi.1 hi.2 (by omega)) ?_
  rw [ii_clampI hi.1 (by omega)]
  exact kk
theorem Vu.ast {f n : Nat} {i x : Int} (hdg : decode M.2.2.1 pc = .ok (.iastore, 1)) (hR : RepU w mo ra S g b hs) (hf : 11 ≤ f ∧ f ≤ 40 ∧ rz f = 0) (hn : rlen f = n) (hi : 0 ≤ i ∧ i < n) (kk : ∀ hs', RepU w mo ra (up S f i x) g b hs' → V jcl w M d (pc + 1) L st hs' Q) : V jcl w M d pc L (.int (ii x) :: .int (ii i) :: .ref (ra f) :: st) hs Q := by
  subst hn
  have hb : rlen f ≤ 144 := by unfold rlen; split <;> decide
  have ha := hR.2.2.1 f hf.1 hf.2.1
  rw [hf.2.2] at ha
  refine V.iast (t0 := 0) hdg ha hR.2.2.2.2.2.1 (ii_in hi.1 hi.2 (by omega)) ?_
  have h9 := hR.arr f (x := x) hf.1 hf.2.1 hi.1
  rw [hf.2.2] at h9
  have e1 : (ii i).toNatClampNeg = i.toNat := by have := ii_clampI hi.1 (by omega); omega
  rw [e1]
  exact kk _ h9
theorem Vu.zast {f n : Nat} {i x : Int} (hdg : decode M.2.2.1 pc = .ok (.bastore, 1)) (hR : RepU w mo ra S g b hs) (hf : 11 ≤ f ∧ f ≤ 40 ∧ rz f = 1) (hn : rlen f = n) (hi : 0 ≤ i ∧ i < n) (hx : x = 0 ∨ x = 1) (kk : ∀ hs', RepU w mo ra (up S f i x) g b hs' → V jcl w M d (pc + 1) L st hs' Q) : V jcl w M d pc L (.int (ii x) :: .int (ii i) :: .ref (ra f) :: st) hs Q := by
  subst hn
  have hb : rlen f ≤ 144 := by unfold rlen; split <;> decide
  have ha := hR.2.2.1 f hf.1 hf.2.1
  rw [hf.2.2] at ha
  refine V.zast (t0 := 1) hdg ha hR.2.2.2.2.2.2.1 (ii_in hi.1 hi.2 (by omega)) (by rcases hx with rfl | rfl <;> decide) ?_
  have h9 := hR.arr f (x := x) hf.1 hf.2.1 hi.1
  rw [hf.2.2] at h9
  have e1 : (ii i).toNatClampNeg = i.toNat := by have := ii_clampI hi.1 (by omega); omega
  rw [e1]
  exact kk _ h9
theorem RepU.sc (h : RepU w mo ra S g b hs) (k : Nat) {x : Int} (hk : k ≤ 10) (hl : (rfs S ra).set k (.int (ii x)) = rfs (up S k 0 x) ra) : RepU w mo ra (up S k 0 x) g b (hup hs.1 mo (.inr (6, (rfs S ra).set k (.int (ii x)))), hs.2) := by
  refine ⟨h.1, by show hup hs.1 mo _ mo = _; rw [hup_s, hl], fun f h3 h4 => ?_, h.2.2.2.1, fun a e ha => ?_, h.2.2.2.2.2⟩
  · show hup hs.1 _ _ (ra f) = _
    rw [hup_n (h.mo_ne h3 h4), h.2.2.1 f h3 h4]
    congr 5
    funext n
    rw [up_f (by omega)]
  · obtain ⟨z1, z2, z3⟩ := h.2.2.2.2.1 a e ha
    exact ⟨by show hup hs.1 _ _ a = _; rw [hup_n z2]; exact z1, z2, z3⟩
theorem Vu.put0 {idx : Nat} {x : Int} (hdg : decode M.2.2.1 pc = .ok (.putfield idx, 3)) (hF : jF jcl M.1 idx 6 0 false (kt_R 0)) (hR : RepU w mo ra S g b hs) (kk : ∀ hs', RepU w mo ra (up S 0 0 x) g b hs' → V jcl w M d (pc + 3) L st hs' Q) : V jcl w M d pc L (.int (ii x) :: .ref mo :: st) hs Q :=
  V.put hdg hF hR.2.1 rfl rfl (by simp [rfs]) (kk _ (hR.sc 0 (by decide) (by simp [rfs, up])))
theorem Vu.put1 {idx : Nat} {x : Int} (hdg : decode M.2.2.1 pc = .ok (.putfield idx, 3)) (hF : jF jcl M.1 idx 6 1 false (kt_R 1)) (hR : RepU w mo ra S g b hs) (kk : ∀ hs', RepU w mo ra (up S 1 0 x) g b hs' → V jcl w M d (pc + 3) L st hs' Q) : V jcl w M d pc L (.int (ii x) :: .ref mo :: st) hs Q :=
  V.put hdg hF hR.2.1 rfl rfl (by simp [rfs]) (kk _ (hR.sc 1 (by decide) (by simp [rfs, up])))
theorem Vu.put2 {idx : Nat} {x : Int} (hdg : decode M.2.2.1 pc = .ok (.putfield idx, 3)) (hF : jF jcl M.1 idx 6 2 false (kt_R 2)) (hR : RepU w mo ra S g b hs) (kk : ∀ hs', RepU w mo ra (up S 2 0 x) g b hs' → V jcl w M d (pc + 3) L st hs' Q) : V jcl w M d pc L (.int (ii x) :: .ref mo :: st) hs Q :=
  V.put hdg hF hR.2.1 rfl rfl (by simp [rfs]) (kk _ (hR.sc 2 (by decide) (by simp [rfs, up])))
theorem Vu.put3 {idx : Nat} {x : Int} (hdg : decode M.2.2.1 pc = .ok (.putfield idx, 3)) (hF : jF jcl M.1 idx 6 3 false (kt_R 3)) (hR : RepU w mo ra S g b hs) (kk : ∀ hs', RepU w mo ra (up S 3 0 x) g b hs' → V jcl w M d (pc + 3) L st hs' Q) : V jcl w M d pc L (.int (ii x) :: .ref mo :: st) hs Q :=
  V.put hdg hF hR.2.1 rfl rfl (by simp [rfs]) (kk _ (hR.sc 3 (by decide) (by simp [rfs, up])))
theorem Vu.put4 {idx : Nat} {x : Int} (hdg : decode M.2.2.1 pc = .ok (.putfield idx, 3)) (hF : jF jcl M.1 idx 6 4 false (kt_R 4)) (hR : RepU w mo ra S g b hs) (kk : ∀ hs', RepU w mo ra (up S 4 0 x) g b hs' → V jcl w M d (pc + 3) L st hs' Q) : V jcl w M d pc L (.int (ii x) :: .ref mo :: st) hs Q :=
  V.put hdg hF hR.2.1 rfl rfl (by simp [rfs]) (kk _ (hR.sc 4 (by decide) (by simp [rfs, up])))
theorem Vu.put5 {idx : Nat} {x : Int} (hdg : decode M.2.2.1 pc = .ok (.putfield idx, 3)) (hF : jF jcl M.1 idx 6 5 false (kt_R 5)) (hR : RepU w mo ra S g b hs) (kk : ∀ hs', RepU w mo ra (up S 5 0 x) g b hs' → V jcl w M d (pc + 3) L st hs' Q) : V jcl w M d pc L (.int (ii x) :: .ref mo :: st) hs Q :=
  V.put hdg hF hR.2.1 rfl rfl (by simp [rfs]) (kk _ (hR.sc 5 (by decide) (by simp [rfs, up])))
theorem Vu.put6 {idx : Nat} {x : Int} (hdg : decode M.2.2.1 pc = .ok (.putfield idx, 3)) (hF : jF jcl M.1 idx 6 6 false (kt_R 6)) (hR : RepU w mo ra S g b hs) (kk : ∀ hs', RepU w mo ra (up S 6 0 x) g b hs' → V jcl w M d (pc + 3) L st hs' Q) : V jcl w M d pc L (.int (ii x) :: .ref mo :: st) hs Q :=
  V.put hdg hF hR.2.1 rfl rfl (by simp [rfs]) (kk _ (hR.sc 6 (by decide) (by simp [rfs, up])))
theorem Vu.put7 {idx : Nat} {x : Int} (hdg : decode M.2.2.1 pc = .ok (.putfield idx, 3)) (hF : jF jcl M.1 idx 6 7 false (kt_R 7)) (hR : RepU w mo ra S g b hs) (kk : ∀ hs', RepU w mo ra (up S 7 0 x) g b hs' → V jcl w M d (pc + 3) L st hs' Q) : V jcl w M d pc L (.int (ii x) :: .ref mo :: st) hs Q :=
  V.put hdg hF hR.2.1 rfl rfl (by simp [rfs]) (kk _ (hR.sc 7 (by decide) (by simp [rfs, up])))
theorem Vu.put8 {idx : Nat} {x : Int} (hdg : decode M.2.2.1 pc = .ok (.putfield idx, 3)) (hF : jF jcl M.1 idx 6 8 false (kt_R 8)) (hR : RepU w mo ra S g b hs) (kk : ∀ hs', RepU w mo ra (up S 8 0 x) g b hs' → V jcl w M d (pc + 3) L st hs' Q) : V jcl w M d pc L (.int (ii x) :: .ref mo :: st) hs Q :=
  V.put hdg hF hR.2.1 rfl rfl (by simp [rfs]) (kk _ (hR.sc 8 (by decide) (by simp [rfs, up])))
theorem Vu.put9 {idx : Nat} {x : Int} (hdg : decode M.2.2.1 pc = .ok (.putfield idx, 3)) (hF : jF jcl M.1 idx 6 9 false (kt_R 9)) (hR : RepU w mo ra S g b hs) (kk : ∀ hs', RepU w mo ra (up S 9 0 x) g b hs' → V jcl w M d (pc + 3) L st hs' Q) : V jcl w M d pc L (.int (ii x) :: .ref mo :: st) hs Q :=
  V.put hdg hF hR.2.1 rfl rfl (by simp [rfs]) (kk _ (hR.sc 9 (by decide) (by simp [rfs, up])))
theorem Vu.put10 {idx : Nat} {x : Int} (hdg : decode M.2.2.1 pc = .ok (.putfield idx, 3)) (hF : jF jcl M.1 idx 6 10 false (kt_R 10)) (hR : RepU w mo ra S g b hs) (hx : x = 0 ∨ x = 1) (kk : ∀ hs', RepU w mo ra (up S 10 0 x) g b hs' → V jcl w M d (pc + 3) L st hs' Q) : V jcl w M d pc L (.int (ii x) :: .ref mo :: st) hs Q :=
  V.put hdg hF hR.2.1 (by rcases hx with rfl | rfl <;> decide) (by rcases hx with rfl | rfl <;> decide) (by simp [rfs]) (kk _ (hR.sc 10 (by decide) (by simp [rfs, up])))
/-- the same, whatever lies in the two scratch rows 39 and 40 -/
def RepR (w : jw) (mo : Nat) (ra : Nat → Nat) (S : js) (g : Nat → Option va_E) (b : Nat × Nat) (hs : jh) : Prop := ∃ S' : js, RepU w mo ra S' g b hs ∧ ∀ f i, f ≠ 39 → f ≠ 40 → S' f i = S f i
theorem RepR.fs {S' : js} (he : ∀ f i, f ≠ 39 → f ≠ 40 → S' f i = S f i) : rfs S' ra = rfs S ra := by
  unfold rfs
  simp [he]
theorem RepR.o (h : RepR w mo ra S g b hs) : hs.1 mo = some (.inr (6, rfs S ra)) := by
  obtain ⟨S', h, he⟩ := h
  rw [← RepR.fs he]
  exact h.2.1
theorem RepR.upc {S' : js} (he : ∀ f i, f ≠ 39 → f ≠ 40 → S' f i = S f i) (f0 : Nat) (i0 v : Int) : ∀ f i, f ≠ 39 → f ≠ 40 → up S' f0 i0 v f i = up S f0 i0 v f i := fun f i h1 h2 => by
  simp only [up, he f i h1 h2]
theorem Vr.get {idx k : Nat} {v : Value} (hdg : decode M.2.2.1 pc = .ok (.getfield idx, 3)) (hF : jFg jcl M.1 idx 6 k) (hR : RepR w mo ra S g b hs) (hv : (rfs S ra)[k]? = some v) (kk : V jcl w M d (pc + 3) L (v :: st) hs Q) : V jcl w M d pc L (.ref mo :: st) hs Q := V.get hdg hF hR.o hv kk
theorem Vr.ald {f n : Nat} {i : Int} (hdg : decode M.2.2.1 pc = .ok (.iaload, 1)) (hR : RepR w mo ra S g b hs) (hf : 11 ≤ f ∧ f ≤ 38 ∧ rz f = 0) (hn : rlen f = n) (hi : 0 ≤ i ∧ i < n) (kk : V jcl w M d (pc + 1) L (.int (ii (S f i)) :: st) hs Q) : V jcl w M d pc L (.int (ii i) :: .ref (ra f) :: st) hs Q := by
  obtain ⟨S', h, he⟩ := hR
  exact Vu.ald hdg h ⟨hf.1, by omega, hf.2.2⟩ hn hi (by rw [he f i (by omega) (by omega)]; exact kk)
theorem Vr.zald {f n : Nat} {i : Int} (hdg : decode M.2.2.1 pc = .ok (.baload, 1)) (hR : RepR w mo ra S g b hs) (hf : 11 ≤ f ∧ f ≤ 38 ∧ rz f = 1) (hn : rlen f = n) (hi : 0 ≤ i ∧ i < n) (kk : V jcl w M d (pc + 1) L (.int (ii (S f i)) :: st) hs Q) : V jcl w M d pc L (.int (ii i) :: .ref (ra f) :: st) hs Q := by
  obtain ⟨S', h, he⟩ := hR
  exact Vu.zald hdg h ⟨hf.1, by omega, hf.2.2⟩ hn hi (by rw [he f i (by omega) (by omega)]; exact kk)
theorem Vr.ast {f n : Nat} {i x : Int} (hdg : decode M.2.2.1 pc = .ok (.iastore, 1)) (hR : RepR w mo ra S g b hs) (hf : 11 ≤ f ∧ f ≤ 38 ∧ rz f = 0) (hn : rlen f = n) (hi : 0 ≤ i ∧ i < n) (kk : ∀ hs', RepR w mo ra (up S f i x) g b hs' → V jcl w M d (pc + 1) L st hs' Q) : V jcl w M d pc L (.int (ii x) :: .int (ii i) :: .ref (ra f) :: st) hs Q := by
  obtain ⟨S', h, he⟩ := hR
  exact Vu.ast hdg h ⟨hf.1, by omega, hf.2.2⟩ hn hi (fun hs' h' => kk hs' ⟨_, h', RepR.upc he f i x⟩)
theorem Vr.zast {f n : Nat} {i x : Int} (hdg : decode M.2.2.1 pc = .ok (.bastore, 1)) (hR : RepR w mo ra S g b hs) (hf : 11 ≤ f ∧ f ≤ 38 ∧ rz f = 1) (hn : rlen f = n) (hi : 0 ≤ i ∧ i < n) (hx : x = 0 ∨ x = 1) (kk : ∀ hs', RepR w mo ra (up S f i x) g b hs' → V jcl w M d (pc + 1) L st hs' Q) : V jcl w M d pc L (.int (ii x) :: .int (ii i) :: .ref (ra f) :: st) hs Q := by
  obtain ⟨S', h, he⟩ := hR
  exact Vu.zast hdg h ⟨hf.1, by omega, hf.2.2⟩ hn hi hx (fun hs' h' => kk hs' ⟨_, h', RepR.upc he f i x⟩)
theorem Vr.put0 {idx : Nat} {x : Int} (hdg : decode M.2.2.1 pc = .ok (.putfield idx, 3)) (hF : jF jcl M.1 idx 6 0 false (kt_R 0)) (hR : RepR w mo ra S g b hs) (kk : ∀ hs', RepR w mo ra (up S 0 0 x) g b hs' → V jcl w M d (pc + 3) L st hs' Q) : V jcl w M d pc L (.int (ii x) :: .ref mo :: st) hs Q := by
  obtain ⟨S', h, he⟩ := hR
  exact Vu.put0 hdg hF h (fun hs' h' => kk hs' ⟨_, h', RepR.upc he 0 0 x⟩)
theorem Vr.put1 {idx : Nat} {x : Int} (hdg : decode M.2.2.1 pc = .ok (.putfield idx, 3)) (hF : jF jcl M.1 idx 6 1 false (kt_R 1)) (hR : RepR w mo ra S g b hs) (kk : ∀ hs', RepR w mo ra (up S 1 0 x) g b hs' → V jcl w M d (pc + 3) L st hs' Q) : V jcl w M d pc L (.int (ii x) :: .ref mo :: st) hs Q := by
  obtain ⟨S', h, he⟩ := hR
  exact Vu.put1 hdg hF h (fun hs' h' => kk hs' ⟨_, h', RepR.upc he 1 0 x⟩)
theorem Vr.put2 {idx : Nat} {x : Int} (hdg : decode M.2.2.1 pc = .ok (.putfield idx, 3)) (hF : jF jcl M.1 idx 6 2 false (kt_R 2)) (hR : RepR w mo ra S g b hs) (kk : ∀ hs', RepR w mo ra (up S 2 0 x) g b hs' → V jcl w M d (pc + 3) L st hs' Q) : V jcl w M d pc L (.int (ii x) :: .ref mo :: st) hs Q := by
  obtain ⟨S', h, he⟩ := hR
  exact Vu.put2 hdg hF h (fun hs' h' => kk hs' ⟨_, h', RepR.upc he 2 0 x⟩)
theorem Vr.put3 {idx : Nat} {x : Int} (hdg : decode M.2.2.1 pc = .ok (.putfield idx, 3)) (hF : jF jcl M.1 idx 6 3 false (kt_R 3)) (hR : RepR w mo ra S g b hs) (kk : ∀ hs', RepR w mo ra (up S 3 0 x) g b hs' → V jcl w M d (pc + 3) L st hs' Q) : V jcl w M d pc L (.int (ii x) :: .ref mo :: st) hs Q := by
  obtain ⟨S', h, he⟩ := hR
  exact Vu.put3 hdg hF h (fun hs' h' => kk hs' ⟨_, h', RepR.upc he 3 0 x⟩)
theorem Vr.put4 {idx : Nat} {x : Int} (hdg : decode M.2.2.1 pc = .ok (.putfield idx, 3)) (hF : jF jcl M.1 idx 6 4 false (kt_R 4)) (hR : RepR w mo ra S g b hs) (kk : ∀ hs', RepR w mo ra (up S 4 0 x) g b hs' → V jcl w M d (pc + 3) L st hs' Q) : V jcl w M d pc L (.int (ii x) :: .ref mo :: st) hs Q := by
  obtain ⟨S', h, he⟩ := hR
  exact Vu.put4 hdg hF h (fun hs' h' => kk hs' ⟨_, h', RepR.upc he 4 0 x⟩)
theorem Vr.put5 {idx : Nat} {x : Int} (hdg : decode M.2.2.1 pc = .ok (.putfield idx, 3)) (hF : jF jcl M.1 idx 6 5 false (kt_R 5)) (hR : RepR w mo ra S g b hs) (kk : ∀ hs', RepR w mo ra (up S 5 0 x) g b hs' → V jcl w M d (pc + 3) L st hs' Q) : V jcl w M d pc L (.int (ii x) :: .ref mo :: st) hs Q := by
  obtain ⟨S', h, he⟩ := hR
  exact Vu.put5 hdg hF h (fun hs' h' => kk hs' ⟨_, h', RepR.upc he 5 0 x⟩)
theorem Vr.put6 {idx : Nat} {x : Int} (hdg : decode M.2.2.1 pc = .ok (.putfield idx, 3)) (hF : jF jcl M.1 idx 6 6 false (kt_R 6)) (hR : RepR w mo ra S g b hs) (kk : ∀ hs', RepR w mo ra (up S 6 0 x) g b hs' → V jcl w M d (pc + 3) L st hs' Q) : V jcl w M d pc L (.int (ii x) :: .ref mo :: st) hs Q := by
  obtain ⟨S', h, he⟩ := hR
  exact Vu.put6 hdg hF h (fun hs' h' => kk hs' ⟨_, h', RepR.upc he 6 0 x⟩)
theorem Vr.put7 {idx : Nat} {x : Int} (hdg : decode M.2.2.1 pc = .ok (.putfield idx, 3)) (hF : jF jcl M.1 idx 6 7 false (kt_R 7)) (hR : RepR w mo ra S g b hs) (kk : ∀ hs', RepR w mo ra (up S 7 0 x) g b hs' → V jcl w M d (pc + 3) L st hs' Q) : V jcl w M d pc L (.int (ii x) :: .ref mo :: st) hs Q := by
  obtain ⟨S', h, he⟩ := hR
  exact Vu.put7 hdg hF h (fun hs' h' => kk hs' ⟨_, h', RepR.upc he 7 0 x⟩)
theorem Vr.put8 {idx : Nat} {x : Int} (hdg : decode M.2.2.1 pc = .ok (.putfield idx, 3)) (hF : jF jcl M.1 idx 6 8 false (kt_R 8)) (hR : RepR w mo ra S g b hs) (kk : ∀ hs', RepR w mo ra (up S 8 0 x) g b hs' → V jcl w M d (pc + 3) L st hs' Q) : V jcl w M d pc L (.int (ii x) :: .ref mo :: st) hs Q := by
  obtain ⟨S', h, he⟩ := hR
  exact Vu.put8 hdg hF h (fun hs' h' => kk hs' ⟨_, h', RepR.upc he 8 0 x⟩)
theorem Vr.put9 {idx : Nat} {x : Int} (hdg : decode M.2.2.1 pc = .ok (.putfield idx, 3)) (hF : jF jcl M.1 idx 6 9 false (kt_R 9)) (hR : RepR w mo ra S g b hs) (kk : ∀ hs', RepR w mo ra (up S 9 0 x) g b hs' → V jcl w M d (pc + 3) L st hs' Q) : V jcl w M d pc L (.int (ii x) :: .ref mo :: st) hs Q := by
  obtain ⟨S', h, he⟩ := hR
  exact Vu.put9 hdg hF h (fun hs' h' => kk hs' ⟨_, h', RepR.upc he 9 0 x⟩)
theorem Vr.put10 {idx : Nat} {x : Int} (hdg : decode M.2.2.1 pc = .ok (.putfield idx, 3)) (hF : jF jcl M.1 idx 6 10 false (kt_R 10)) (hR : RepR w mo ra S g b hs) (hx : x = 0 ∨ x = 1) (kk : ∀ hs', RepR w mo ra (up S 10 0 x) g b hs' → V jcl w M d (pc + 3) L st hs' Q) : V jcl w M d pc L (.int (ii x) :: .ref mo :: st) hs Q := by
  obtain ⟨S', h, he⟩ := hR
  exact Vu.put10 hdg hF h hx (fun hs' h' => kk hs' ⟨_, h', RepR.upc he 10 0 x⟩)
end JR
