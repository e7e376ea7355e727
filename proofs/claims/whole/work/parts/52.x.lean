/-! both on one heap -/
section KM
variable {w : jw} {M : jm} {d pc : Nat} {L : List (Nat × Value)} {st : List Value} {hs : jh} {Q : jo → jh → Prop} {th mo oa : Nat} {ra : Nat → Nat} {v : Int64} {S T : js} {b : Nat × Nat}
/-- the class agrees with T, the reference is at S, out holds v -/
def JX (w : jw) (th mo oa : Nat) (ra : Nat → Nat) (v : Int64) (S T : js) (b : Nat × Nat) (hs : jh) : Prop :=
  ∃ (am : Nat → Int → Nat) (C S' : js) (ol : Nat → Int64), am 0 0 = th ∧ RepC w am C (fun _ => none) b hs ∧ Ag C T ∧ A6 C ∧ RepU w mo ra S' (fun _ => none) hs.2 hs ∧ (∀ f i, f ≠ 39 → f ≠ 40 → S' f i = S f i) ∧ (hs.1 oa = some (.inl (jcA w 2, 1, .inr (.inl ol))) ∧ ol 0 = v) ∧
    (∀ k i, vd (C 1 0) k i → am k i ≠ mo ∧ am k i ≠ oa ∧ ∀ f, 11 ≤ f → f ≤ 40 → am k i ≠ ra f) ∧ oa ≠ mo ∧ ∀ f, 11 ≤ f → f ≤ 40 → oa ≠ ra f
/-- h, where P holds -/
noncomputable def hof (P : Nat → Prop) (h : Nat → Option va_E) : Nat → Option va_E := fun a => @ite _ (P a) (Classical.propDecidable _) (h a) none
theorem hof_t {P : Nat → Prop} {h : Nat → Option va_E} {a : Nat} (hp : P a) : hof P h a = h a := by unfold hof; rw [if_pos hp]
theorem hof_s {P : Nat → Prop} {h : Nat → Option va_E} {a : Nat} {e : va_E} (hp : hof P h a = some e) : P a ∧ h a = some e := by
  unfold hof at hp
  split at hp
  · exact ⟨by assumption, hp⟩
  · cases hp
theorem JX.c (h : JX w th mo oa ra v S S b hs) : ∃ (am : Nat → Int → Nat) (g : Nat → Option va_E), am 0 0 = th ∧ PR w am S g b hs ∧ ∀ (am' : Nat → Int → Nat) (T : js) (b' : Nat × Nat) (hs' : jh), am' 0 0 = th → PR w am' T g b' hs' → JX w th mo oa ra v S T b' hs' := by
  obtain ⟨am, C, S', ol, e0, hC, hA, h6, hU, hS, ho, hd, d1, d2⟩ := h
  obtain ⟨u1, u2, u3, u4, u5, u6⟩ := hU
  refine ⟨am, hof (fun a => a = mo ∨ a = oa ∨ ∃ f, 11 ≤ f ∧ f ≤ 40 ∧ a = ra f) hs.1, e0, ⟨C, ⟨hC.1, hC.2.1, hC.2.2.1, fun a e ha => ?_, hC.2.2.2.2⟩, hA, h6⟩, fun am' T b' hs' e0' hP' => ?_⟩
  · obtain ⟨hp, he⟩ := hof_s ha
    refine ⟨he, fun k i hv => ?_⟩
    obtain ⟨y1, y2, y3⟩ := hd k i hv
    rcases hp with rfl | rfl | ⟨f, f1, f2, rfl⟩
    · exact fun z => y1 z.symm
    · exact fun z => y2 z.symm
    · exact fun z => y3 f f1 f2 z.symm
  · obtain ⟨C', hC', hA', h6'⟩ := hP'
    have key : ∀ a e, (a = mo ∨ a = oa ∨ ∃ f, 11 ≤ f ∧ f ≤ 40 ∧ a = ra f) → hs.1 a = some e → hs'.1 a = some e ∧ ∀ k i, vd (C' 1 0) k i → a ≠ am' k i := fun a e hp he => hC'.2.2.2.1 a e (by rw [hof_t hp]; exact he)
    have k1 := key mo _ (Or.inl rfl) u2
    have k2 := key oa _ (Or.inr (Or.inl rfl)) ho.1
    have k3 := fun f f1 f2 => key (ra f) _ (Or.inr (Or.inr ⟨f, f1, f2, rfl⟩)) (u3 f f1 f2)
    exact ⟨am', C', S', ol, e0', ⟨hC'.1, hC'.2.1, hC'.2.2.1, fun a e ha => (by cases ha), hC'.2.2.2.2⟩, hA', h6', ⟨rfl, k1.1, fun f f1 f2 => (k3 f f1 f2).1, u4, fun a e ha => (by cases ha), u6⟩, hS, ⟨k2.1, ho.2⟩, fun k i hv => ⟨fun z => k1.2 k i hv z.symm, fun z => k2.2 k i hv z.symm, fun f f1 f2 z => (k3 f f1 f2).2 k i hv z.symm⟩, d1, d2⟩
theorem JX.r (h : JX w th mo oa ra v S T b hs) : ∃ g : Nat → Option va_E, RepR w mo ra S g hs.2 hs ∧ ∀ (S2 : js) (hs' : jh), RepR w mo ra S2 g hs.2 hs' → JX w th mo oa ra v S2 T b hs' := by
  obtain ⟨am, C, S', ol, e0, hC, hA, h6, hU, hS, ho, hd, d1, d2⟩ := h
  obtain ⟨u1, u2, u3, u4, u5, u6⟩ := hU
  refine ⟨hof (fun a => a = oa ∨ ∃ k i, vd (C 1 0) k i ∧ a = am k i) hs.1, ⟨S', ⟨rfl, u2, u3, u4, fun a e ha => ?_, u6⟩, hS⟩, fun S2 hs' hR => ?_⟩
  · obtain ⟨hp, he⟩ := hof_s ha
    rcases hp with rfl | ⟨k, i, hv, rfl⟩
    · exact ⟨he, d1, d2⟩
    · exact ⟨he, (hd k i hv).1, (hd k i hv).2.2⟩
  · obtain ⟨S2', ⟨w1, w2, w3, w4, w5, w6⟩, hS2⟩ := hR
    have key : ∀ a e, (a = oa ∨ ∃ k i, vd (C 1 0) k i ∧ a = am k i) → hs.1 a = some e → hs'.1 a = some e := fun a e hp he => (w5 a e (by rw [hof_t hp]; exact he)).1
    refine ⟨am, C, S2', ol, e0, ⟨by rw [w1]; exact hC.1, fun k i hv => key _ _ (Or.inr ⟨k, i, hv, rfl⟩) (hC.2.1 k i hv), hC.2.2.1, fun a e ha => (by cases ha), hC.2.2.2.2⟩, hA, h6, ⟨rfl, w2, w3, w4, fun a e ha => (by cases ha), w6⟩, hS2, ⟨key _ _ (Or.inl rfl) ho.1, ho.2⟩, hd, d1, d2⟩
theorem JX.oJ (h : JX w th mo oa ra v S T b hs) : ∃ fs, hs.1 th = some (.inr (0, fs)) := by
  obtain ⟨am, C, S', ol, e0, hC, hA, h6, hU, hS, ho, hd, d1, d2⟩ := h
  exact ⟨_, by rw [← e0]; exact hC.oJ⟩
theorem JX.oR (h : JX w th mo oa ra v S T b hs) : ∃ fs, hs.1 mo = some (.inr (6, fs)) := by
  obtain ⟨am, C, S', ol, e0, hC, hA, h6, hU, hS, ho, hd, d1, d2⟩ := h
  exact ⟨_, hU.2.1⟩
theorem JX.out (h : JX w th mo oa ra v S T b hs) : ∃ ol, hs.1 oa = some (.inl (jcA w 2, 1, .inr (.inl ol))) ∧ ol 0 = v ∧ ∀ (ol' : Nat → Int64), JX w th mo oa ra (ol' 0) S T b (hup hs.1 oa (.inl (jcA w 2, 1, .inr (.inl ol'))), hs.2) := by
  obtain ⟨am, C, S', ol, e0, hC, hA, h6, hU, hS, ho, hd, d1, d2⟩ := h
  obtain ⟨u1, u2, u3, u4, u5, u6⟩ := hU
  refine ⟨ol, ho.1, ho.2, fun ol' => ?_⟩
  refine ⟨am, C, S', ol', e0, ⟨hC.1, fun k i hv => ?_, hC.2.2.1, fun a e ha => (by cases ha), hC.2.2.2.2⟩, hA, h6, ⟨rfl, ?_, fun f f1 f2 => ?_, u4, fun a e ha => (by cases ha), u6⟩, hS, ⟨hup_s .., rfl⟩, hd, d1, d2⟩
  · show hup hs.1 oa _ (am k i) = _
    rw [hup_n (hd k i hv).2.1]
    exact hC.2.1 k i hv
  · show hup hs.1 oa _ mo = _
    rw [hup_n (fun z => d1 z.symm)]
    exact u2
  · show hup hs.1 oa _ (ra f) = _
    rw [hup_n (fun z => d2 f f1 f2 z.symm)]
    exact u3 f f1 f2
theorem JX.wf (h : JX w th mo oa ra v S T b hs) : jWf w := by
  obtain ⟨am, C, S', ol, e0, hC, hA, h6, hU, hS, ho, hd, d1, d2⟩ := h
  exact hC.2.2.2.2
theorem JX.eq {S' : js} (h : JX w th mo oa ra v S' T b hs) (e : ∀ f i, f ≠ 0 → S' f i = T f i) : JX w th mo oa ra v S' S' b hs := by
  obtain ⟨am, C, S2, ol, e0, hC, hA, h6, hU, hS, ho, hd, d1, d2⟩ := h
  have : S' = up T 0 0 (S' 0 0) ∨ True := Or.inr trivial
  refine ⟨am, C, S2, ol, e0, hC, ⟨fun f i hf => ?_, hA.a2.cg fun f i hf => e f i (by omega), hA.a3.cg (fun f i hf => e f i (by omega)) (fun _ _ _ => rfl), hA.a3o.cg (fun f i hf => e f i (by omega)) (fun _ _ _ => rfl), hA.a4.cg (fun f i hf => e f i (by omega)) (fun _ _ _ => rfl), hA.a5.cg (fun f i hf => e f i (by omega)) (fun _ _ _ => rfl), hA.a7.cg (fun f i hf => e f i (by omega)) (fun _ _ _ => rfl)⟩, h6, hU, hS, ho, hd, d1, d2⟩
  rw [e f i (by unfold cm at hf; omega)]
  exact hA.a1 f i hf
/-- the script's int at i -/
def sx (w : jw) (i : Int) : Int := (jxs w i.toNat).toInt
theorem sx_jr (w : jw) (i : Int) : jr (sx w i) := jr_of _
theorem Vl.sld {i : Int} (hdg : decode M.2.2.1 pc = .ok (.iaload, 1)) (hi : 0 ≤ i ∧ i < jL w) (hL : jL w ≤ 2560) (kk : V jcl w M d (pc + 1) L (.int (ii (sx w i)) :: st) hs Q) : V jcl w M d pc L (.int (ii i) :: .ref (jb w) :: st) hs Q := by
  refine V.sld hdg (ii_in hi.1 hi.2 (by omega)) ?_
  have h1 := ii_clampI hi.1 (by omega)
  have h2 : (ii i).toNatClampNeg = i.toNat := by omega
  rw [h2, ii_of (jxs w i.toNat)]
  exact kk
end KM
