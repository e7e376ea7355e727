/-! the light machine's four calls -/
section JV4
variable {jcl : List vw_C} {w : jw} {M M' : jm} {d pc : Nat} {L : List (Nat × Value)} {st rest : List Value} {hs : jh} {Q Q1 : jo → jh → Prop} {As : List Value} {y : MethodName} {idx : Nat}
/-- what every call site shares: the callee, how many arguments -/
def jY (y : MethodName) (M' : jm) (n : Nat) : Prop := jK y M' ∧ (y.cls ≠ "java/lang/invoke/MethodHandle" ∧ y.cls ≠ "java/lang/invoke/VarHandle") ∧ (parseMethodDescriptor y.desc).map (fun d => d.parameters.length) = some n ∧ M'.2.2.2.1 ≤ 32
theorem jY.len {n : Nat} (h : jY y M' n) {sig : MethodDescriptor} (hp : parseMethodDescriptor y.desc = some sig) : n = sig.parameters.length := by
  have h2 := h.2.2.1
  rw [hp] at h2
  exact (Option.some.inj h2).symm
theorem V.callS {n : Nat} (hdg : decode M.2.2.1 pc = .ok (.invokestatic idx, 3)) (hY : jY y M' n) (w1 : Cond.methodLink M.1 idx y ∈ lw_tbl) (w2 : Cond.static y ∈ lw_tbl) (w3 : Cond.initialized y.cls ∈ lw_tbl) (As : List Value) (hst : st = As.reverse ++ rest) (hn : As.length = n) (hrest : jcat rest ∧ rest.length ≤ 24) (hAs : jcat As ∧ As.length ≤ M'.2.2.2.1)
    (kc : V jcl w M' d 0 (ja 0 As) [] hs Q1) (kr : ∀ v hs', Q1 (.inl v) hs' → V jcl w M (d + 1) (pc + 3) L (v.toList ++ rest) hs' Q) (kx : ∀ E hs', Q1 (.inr E) hs' → VX jcl w M (d + 1) pc L rest hs' E Q) : V jcl w M (d + 1) pc L st hs Q := fun p e R s m args below meth c H locs cells slots ls C hl => by
  intro T hT X
  subst hT; subst hst
  obtain ⟨c1, c2, c3, c4, c5, c6, c7, c8, c9⟩ := id C
  obtain ⟨mk, methk, ck, hnm, hmk, hck, a1, a2, a3, a4, a5, hsig⟩ := hY.1.spec c2
  have hstatic : methk.isStatic = true := Cond.static_spec hnm hmk (c2.w jcl w2 rfl (A := args))
  obtain ⟨kP, hkP, -⟩ := className_of_methodNamed hnm
  have hinitP : kP.init = .initialized := Cond.initialized_spec (findClass_of_methodNamed hnm) hkP (c2.w jcl w3 rfl (A := args))
  obtain ⟨vm₁, X₁, hstep₁⟩ := X.invokestatic C.1.1 C.1.2.2.2.2.2.2.1 (c2.w jcl w1 rfl) hnm hmk hstatic hkP hinitP hY.2.1 (g := F0 m pc ls (As.reverse ++ rest)) rfl (argsL := As) (rest := rest) (hn.trans (hY.len hsig)) rfl (by rw [C.1.2.1]; exact hdg)
  obtain ⟨t, hst, z⟩ := jcall (T := T.setVm vm₁) (As := As) C X₁ hl hdg hrest hY.1 hnm hmk hck a1 a2 a3 a4 a5 hAs hY.2.2.2 kc kr kx
  exact ⟨t, hstep₁ _ hst, z⟩
theorem V.callSN {n : Nat} {host : String} (hdg : decode M.2.2.1 pc = .ok (.invokestatic idx, 3)) (hY : jY y M' n) (w1 : Cond.methodLinkNest M.1 idx y host ∈ lw_tbl) (w2 : Cond.static y ∈ lw_tbl) (w3 : Cond.initialized y.cls ∈ lw_tbl) (As : List Value) (hst : st = As.reverse ++ rest) (hn : As.length = n) (hrest : jcat rest ∧ rest.length ≤ 24) (hAs : jcat As ∧ As.length ≤ M'.2.2.2.1)
    (kc : V jcl w M' d 0 (ja 0 As) [] hs Q1) (kr : ∀ v hs', Q1 (.inl v) hs' → V jcl w M (d + 1) (pc + 3) L (v.toList ++ rest) hs' Q) (kx : ∀ E hs', Q1 (.inr E) hs' → VX jcl w M (d + 1) pc L rest hs' E Q) : V jcl w M (d + 1) pc L st hs Q := fun p e R s m args below meth c H locs cells slots ls C hl => by
  intro T hT X
  subst hT; subst hst
  obtain ⟨c1, c2, c3, c4, c5, c6, c7, c8, c9⟩ := id C
  obtain ⟨mk, methk, ck, hnm, hmk, hck, a1, a2, a3, a4, a5, hsig⟩ := hY.1.spec c2
  have hstatic : methk.isStatic = true := Cond.static_spec hnm hmk (c2.w jcl w2 rfl (A := args))
  obtain ⟨kP, hkP, -⟩ := className_of_methodNamed hnm
  have hinitP : kP.init = .initialized := Cond.initialized_spec (findClass_of_methodNamed hnm) hkP (c2.w jcl w3 rfl (A := args))
  obtain ⟨vm₁, X₁, hstep₁⟩ := X.invokestaticNest C.1.1 C.1.2.2.2.2.2.2.1 (va_Nw.use rfl (c2.2.2.1 _ w1 rfl)) hnm hmk hstatic hkP hinitP hY.2.1 (g := F0 m pc ls (As.reverse ++ rest)) rfl (argsL := As) (rest := rest) (hn.trans (hY.len hsig)) rfl (by rw [C.1.2.1]; exact hdg)
  obtain ⟨t, hst, z⟩ := jcall (T := T.setVm vm₁) (As := As) C X₁ hl hdg hrest hY.1 hnm hmk hck a1 a2 a3 a4 a5 hAs hY.2.2.2 kc kr kx
  exact ⟨t, hstep₁ _ hst, z⟩
theorem V.callV {n ci b : Nat} {r : vw_C} {fs : List Value} (hdg : decode M.2.2.1 pc = .ok (.invokevirtual idx, 3)) (hY : jY y M' n) (w1 : Cond.methodLink M.1 idx y ∈ lw_tbl) (w2 : Cond.instanceMethod y ∈ lw_tbl) (w3 : Cond.selects y.cls y y ∈ lw_tbl) (hc : jcl[ci]? = some r) (hr : r.1 = y.cls) (As : List Value) (hb : hs.1 b = some (.inr (ci, fs))) (hst : st = As.reverse ++ .ref b :: rest) (hn : As.length = n) (hrest : jcat rest ∧ rest.length ≤ 24) (hAs : jcat (.ref b :: As) ∧ (Value.ref b :: As).length ≤ M'.2.2.2.1)
    (kc : V jcl w M' d 0 (ja 0 (.ref b :: As)) [] hs Q1) (kr : ∀ v hs', Q1 (.inl v) hs' → V jcl w M (d + 1) (pc + 3) L (v.toList ++ rest) hs' Q) (kx : ∀ E hs', Q1 (.inr E) hs' → VX jcl w M (d + 1) pc L rest hs' E Q) : V jcl w M (d + 1) pc L st hs Q := fun p e R s m args below meth c H locs cells slots ls C hl => by
  intro T hT X
  subst hT; subst hst
  obtain ⟨c1, c2, c3, c4, c5, c6, c7, c8, c9⟩ := id C
  obtain ⟨mk, methk, ck, hnm, hmk, hck, a1, a2, a3, a4, a5, hsig⟩ := hY.1.spec c2
  obtain ⟨mk', methM, hnamed, hmethM, hstM, habM⟩ := Cond.instanceMethod_spec (c2.w jcl w2 rfl (A := args))
  cases hnm.symm.trans hnamed
  cases hmk.symm.trans hmethM
  obtain ⟨-, r', hr', cellB, g1, g2, g3, -⟩ := c9 b _ hb
  have hcls : s.vm.findClass y.cls = some cellB.cls := by
    have h9 := (c2.2.1.1 ci r hc).2.1
    rw [hr] at h9
    rw [g2]; exact h9
  obtain ⟨cc2, r2, m2, q1, q2, q3, q4, kP, hkP, hkPi⟩ := Cond.selects_spec (c2.w jcl w3 rfl (A := args))
  cases hcls.symm.trans q1
  cases (State.methodFound?_of_named hnm hY.2.1).symm.trans q2
  cases hnm.symm.trans q3
  have hselP : selectMethod e.platform s.vm cellB.cls mk = .method mk := by rw [Launch.admits_selectMethod X.admits]; exact q4
  obtain ⟨vm₁, X₁, hstep₁⟩ := X.invokevirtual C.1.1 C.1.2.2.2.2.2.2.1 (c2.w jcl w1 rfl) hnm hmk hstM hkP hkPi hY.2.1 (a := b) (cell := cellB) g1
    (fun z h => by rw [g3] at h; cases h) hselP hmk habM hkP hkPi (g := F0 m pc ls (As.reverse ++ .ref b :: rest)) rfl (argsL := As) (rest := rest) (hn.trans (hY.len hsig)) rfl (by rw [C.1.2.1]; exact hdg)
  obtain ⟨t, hst, z⟩ := jcall (T := T.setVm vm₁) (As := .ref b :: As) C X₁ hl hdg hrest hY.1 hnm hmk hck a1 a2 a3 a4 a5 hAs hY.2.2.2 kc kr kx
  exact ⟨t, hstep₁ _ hst, z⟩
theorem V.callI {n b : Nat} (hdg : decode M.2.2.1 pc = .ok (.invokespecial idx, 3)) (hY : jY y M' n) (hi : y.name = "<init>" ∧ M'.2.2.2.2.1 = none ∧ Cond.code y M'.2.2.1 M'.2.2.2.1 none ∈ lw_tbl) (w1 : Cond.methodLink M.1 idx y ∈ lw_tbl) (w2 : Cond.instanceMethod y ∈ lw_tbl) (As : List Value) (hst : st = As.reverse ++ .ref b :: rest) (hn : As.length = n) (hrest : jcat rest ∧ rest.length ≤ 24) (hAs : jcat (.ref b :: As) ∧ (Value.ref b :: As).length ≤ M'.2.2.2.1)
    (kc : V jcl w M' d 0 (ja 0 (.ref b :: As)) [] hs Q1) (kr : ∀ v hs', Q1 (.inl v) hs' → V jcl w M (d + 1) (pc + 3) L (v.toList ++ rest) hs' Q) (kx : ∀ E hs', Q1 (.inr E) hs' → VX jcl w M (d + 1) pc L rest hs' E Q) : V jcl w M (d + 1) pc L st hs Q := fun p e R s m args below meth c H locs cells slots ls C hl => by
  intro T hT X
  subst hT; subst hst
  obtain ⟨c1, c2, c3, c4, c5, c6, c7, c8, c9⟩ := id C
  obtain ⟨mk, methk, ck, hnm, hmk, hck, a1, a2, a3, a4, a5, hsig⟩ := hY.1.spec c2
  have hpl : e.platform.magicAccessors = ({} : Platform).magicAccessors := by rw [X.admits.platform]
  obtain ⟨mk', methM, cM, kP, vm₁, hnamed, hmethM, hcodeM, -, hlocalsM, -, hkP, -, hW₁, hstep₁⟩ := Steps.initColdArgs (e := e) X.here C.1.1 X.warmed hpl C.1.2.2.2.2.2.2.1 hi.1 hY.2.1 (c2.w jcl w1 rfl (A := args)) (c2.w jcl w2 rfl (A := args)) (c2.w jcl hi.2.2 rfl (A := args)) (f := F0 m pc ls (As.reverse ++ .ref b :: rest)) rfl (argsL := As) (rest := rest) (a := b) (fun sig h => hn.trans (hY.len h)) rfl (by rw [C.1.2.1]; exact hdg)
  cases hnm.symm.trans hnamed
  have X₁ := X.noted hW₁
  obtain ⟨t, hst, z⟩ := jcall (T := T.setVm vm₁) (As := .ref b :: As) C X₁ hl hdg hrest hY.1 hnm hmk hck a1 a2 a3 a4 a5 hAs hY.2.2.2 kc kr kx
  exact ⟨t, hstep₁ _ hst, z⟩
end JV4
