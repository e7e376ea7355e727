/-! the light machine's ends and calls -/
section JV3
variable {jcl : List vw_C} {w : jw} {M M' : jm} {d pc : Nat} {L L' : List (Nat × Value)} {st : List Value} {hs : jh} {Q Q1 : jo → jh → Prop}
theorem jZ.of {R : Room} {s : State} {args : Array Value} {below : List Frame} {H : Heap} {locs : List Loc} {cells slots : Nat} {v : Option Value} {p : Program} {m : MethodId} {meth : Method} {c : Code} (C : jC jcl w M d hs p R s m meth c H locs cells slots) (hq : Q (.inl v) hs) :
    ∀ t, MQ below (fun _ _ o t => o = .returned v ∧ t.heap = H) args s cells slots (jA w) t → jZ jcl w Q R s below t := by
  intro t ⟨o, b1, b2, ⟨ho, ht⟩, Lx, ⟨_, hW, hsame⟩, hL⟩
  obtain ⟨c1, c2, c3, c4, c5, c6, c7, c8, c9⟩ := C
  exact ⟨o, .inl v, hs, Lx, cells, slots, b1, b2, hW, hsame, ⟨by rw [ht]; exact c8.1.1, by rw [ht]; exact c8.1.2.1, hL⟩, c6, c7, by rw [ht]; exact c9, ho, hq⟩
theorem V.ireturn {v : Int32} {ty : FieldType} (hdg : decode M.2.2.1 pc = .ok (.ireturn, 1)) (hr : M.2.2.2.2.1 = some ty) (hn : narrow ty (.int v) = .int v) (hq : Q (.inl (some (.int v))) hs) : V jcl w M d pc L [.int v] hs Q := fun p e R s m args below meth c H locs cells slots ls C h =>
  (W.zret C.1.1 C.1.2.1 (C.1.2.2.2.1.trans hr) hn (fun t ht hW => ⟨rfl, ht⟩) (fun q hq => C.2.2.2.2.2.2.2.1.1.2.2 q hq) hdg C.1.2.2.2.2.1).post (jZ.of C hq)
theorem V.return_ (hdg : decode M.2.2.1 pc = .ok (.return_, 1)) (hr : M.2.2.2.2.1 = none) (hq : Q (.inl none) hs) : V jcl w M d pc L [] hs Q := fun p e R s m args below meth c H locs cells slots ls C h =>
  (W.vret C.1.1 C.1.2.1 (C.1.2.2.2.1.trans hr) (fun t ht hW => ⟨rfl, ht⟩) (fun q hq => C.2.2.2.2.2.2.2.1.1.2.2 q hq) hdg C.1.2.2.2.2.1).post (jZ.of C hq)
theorem V.areturn {x : Option Nat} {n : String} (hdg : decode M.2.2.1 pc = .ok (.areturn, 1)) (hr : M.2.2.2.2.1 = some (.object n)) (hq : Q (.inl (some (va_rf x))) hs) : V jcl w M d pc L [va_rf x] hs Q := fun p e R s m args below meth c H locs cells slots ls C h =>
  (W.aret C.1.1 C.1.2.1 (C.1.2.2.2.1.trans hr) (Or.inl ⟨n, rfl⟩) (by cases x with | none => exact Or.inl rfl | some y => exact Or.inr ⟨y, rfl⟩) (fun t ht hW => ⟨rfl, ht⟩) (fun q hq => C.2.2.2.2.2.2.2.1.1.2.2 q hq) hdg C.1.2.2.2.2.1).post (jZ.of C hq)
/-- throw new E(): new; dup; invokespecial; athrow -/
theorem V.throw0 {ik ic : Nat} {cls : String} (d0 : decode M.2.2.1 pc = .ok (.new ik, 3)) (d3 : decode M.2.2.1 (pc + 3) = .ok (.dup, 1)) (d4 : decode M.2.2.1 (pc + 4) = .ok (.invokespecial ic, 3)) (d7 : decode M.2.2.1 (pc + 7) = .ok (.athrow, 1))
    (hF : Bundle.fit cls = true ∧ (Cond.classLink M.1 ik cls ∈ lw_tbl ∧ Cond.initialized cls ∈ lw_tbl) ∧ (∀ x ∈ vx_at0 M.1 ic cls ["java/lang/RuntimeException", "java/lang/Exception"], x ∈ lw_tbl ∧ vx_ot x = true ∧ (goodWord x = true ∨ jx x = true)))
    (hh : M.2.2.2.2.2 = []) (hd : 6 ≤ d) (hc1 : 1 ≤ hs.2.1) (hs1 : 6 ≤ hs.2.2) (hW : (st.map fun v => v.category).sum ≤ 64) (hq : Q (.inr cls) (hs.1, hs.2.1 - 1, hs.2.2 - 6)) : V jcl w M d pc L st hs Q := fun p e R s m args below meth c H locs cells slots ls C h => by
  obtain ⟨hfit, ⟨w1, w2⟩, hat⟩ := hF
  obtain ⟨c1, c2, c3, c4, c5, c6, c7, c8, c9⟩ := id C
  have hw : ∀ x ∈ vx_at0 M.1 ic cls ["java/lang/RuntimeException", "java/lang/Exception"], x.before args s = true := fun x hx => by
    obtain ⟨h1, h2, h3⟩ := hat x hx
    rcases h3 with h3 | h3
    · exact c2.w jcl h1 h3
    · exact va_Nw.use (jx_ot h3) (c2.2.2.1 _ h1 h3)
  refine (vx_throw0 (names := ["java/lang/RuntimeException", "java/lang/Exception"]) (mc := cells + 1) (ms := slots + 6) (A := jA w) (free := jA w) (Qc := fun _ _ _ _ => False) (XC := fun E s' t => E = cls ∧ H.size ≤ t.heap.size ∧ ∀ q : Nat, q < H.size → t.heap[q]? = H[q]?) C.1.1 C.1.2.1 c3 C.1.2.2.2.2.2.2.1 hfit (by decide +kernel) (c2.w jcl w1 rfl) (c2.w jcl w2 rfl) hw ?_ c8.2.2.2.2.1 c8.2.2.2.2.2 c8.1 (by rw [C.1.2.2.1]; exact h.1.1) d0 d3 d4 d7 ?_ (by simp; omega) (by simp only [List.length_cons, List.length_nil]; omega) (by omega) (by omega) C.1.2.2.2.2.1 (fun t _ h1 h2 => ⟨rfl, h1, h2⟩) (fun z hz => c8.1.2.2 z hz) (Nat.le_refl _) (Nat.le_refl _)).post ?_
  · intro x hx
    rcases List.mem_cons.mp hx with rfl | hx
    · rfl
    · rcases List.mem_cons.mp hx with rfl | hx
      · rfl
      · exact (hat x hx).2.1
  · intro x hx
    rw [C.1.2.2.2.2.2.2.2, hh] at hx
    cases hx
  · intro t ⟨o, b1, b2, b3⟩
    rcases b3 with ⟨b3, -⟩ | ⟨q, ho, E, ce, Lx, ⟨hE, hz, hk⟩, hce, hv, hcl, hWm, hsame, hL⟩
    · exact b3.elim
    · subst hE
      refine ⟨o, .inr E, _, Lx, cells + 1, slots + 6, b1, b2, hWm, hsame, ⟨Nat.le_trans c8.1.1 hz, fun q h1 h2 => (hk q (Nat.lt_of_lt_of_le h1 c8.1.1)).trans (c8.1.2.1 q h1 h2), hL⟩, by show cells + 1 + (hs.2.1 - 1) ≤ _; omega, by show slots + 6 + (hs.2.2 - 6) ≤ _; omega, fun a e1 ha => ?_, ⟨q, ce, ho, hce, hcl, hv⟩, hq⟩
      obtain ⟨z1, z2⟩ := c9 a e1 ha
      exact ⟨z1, z2.kept (hk a z2.lt)⟩
theorem VX.out {X : String} (hh : M.2.2.2.2.2 = []) (hq : Q (.inr X) hs) : VX jcl w M d pc L st hs X Q := fun p e R s m args below meth c H locs cells slots ls q ce C h hcell hcl hv => by
  intro T hT XS
  obtain ⟨c1, c2, c3, c4, c5, c6, c7, c8, c9⟩ := id C
  obtain ⟨st1, hrun, hend, hW, hsm⟩ := XS.leaveThrown q (g := F0 m pc ls st) rfl rfl rfl (fun x hx => by rw [C.1.2.2.2.2.2.2.2, hh] at hx; cases hx) C.1.2.2.2.2.1
  have hh9 : (T.setFrames (.throwing q :: below)).heap = H := hT
  exact ⟨_, st1, .threw q, .inr X, hs, locs, cells, slots, hrun, hend, hW, hsm, by rw [hh9]; exact c8.1, c6, c7, by rw [hh9]; exact c9, ⟨q, ce, rfl, by rw [hh9]; exact hcell, hcl, hv⟩, hq⟩
theorem VX.catch_ {X : String} (pre : List (Nat × Nat × Nat × Nat)) (x : Nat × Nat × Nat × Nat) (suf : List (Nat × Nat × Nat × Nat)) (hsplit : M.2.2.2.2.2 = pre ++ x :: suf)
    (hpass : ∀ z ∈ pre, z.2.2.2 ≠ 0 ∧ ∃ nm : String, Cond.classLink M.1 z.2.2.2 nm ∈ lw_tbl ∧ (X, nm) ∈ [("java/lang/IllegalStateException", "java/lang/IllegalArgumentException"), ("java/lang/ArithmeticException", "java/lang/IllegalArgumentException"), ("java/lang/ArithmeticException", "java/lang/IllegalStateException"), ("java/util/NoSuchElementException", "java/lang/IllegalArgumentException"), ("java/util/NoSuchElementException", "java/lang/IllegalStateException"), ("java/util/NoSuchElementException", "java/lang/ArithmeticException")])
    (hx : covers ⟨x.1, x.2.1, x.2.2.1, x.2.2.2⟩ pc = true) (h0 : x.2.2.2 ≠ 0) (hlink : Cond.classLink M.1 x.2.2.2 X ∈ lw_tbl) (hcast : Cond.castable X X ∈ lw_tbl)
    (kk : ∀ q : Nat, V jcl w M d x.2.2.1 L [.ref q] hs Q) : VX jcl w M d pc L st hs X Q := fun p e R s m args below meth c H locs cells slots ls q ce C h hcell hcl hv => by
  obtain ⟨c1, c2, c3, c4, c5, c6, c7, c8, c9⟩ := id C
  refine vx_catch (own := M.1) (name := X) (E := X) (ce := ce) C.1.2.2.2.2.2.2.1 (tableOf pre) ⟨x.1, x.2.1, x.2.2.1, x.2.2.2⟩ (tableOf suf) (by rw [C.1.2.2.2.2.2.2.2, hsplit]; simp [tableOf]) ?_ hx h0 (c2.w jcl hlink rfl) (va_Nw.use rfl (c2.2.2.1 _ hcast rfl)) hcell hv hcl (kk q p e R s m args below meth c H locs cells slots ls C h)
  intro z hz
  obtain ⟨z0, hz0, rfl⟩ := List.mem_map.mp hz
  obtain ⟨h1, nm, h2, h3⟩ := hpass z0 hz0
  exact Or.inr ⟨h1, nm, c2.w jcl h2 rfl, c2.2.2.2.2.1 X nm h3⟩
/-- a method by its name: its code is in the tables -/
def jK (y : MethodName) (M' : jm) : Prop := y.cls = M'.1 ∧ y.name = M'.2.1 ∧ plainName y.cls = true ∧ ((M'.2.2.2.2.2 = [] ∧ Cond.code y M'.2.2.1 M'.2.2.2.1 M'.2.2.2.2.1 ∈ lw_tbl) ∨ Cond.codeWith y M'.2.2.1 M'.2.2.2.1 M'.2.2.2.2.1 M'.2.2.2.2.2 ∈ lw_tbl)
theorem jK.spec {y : MethodName} {s : State} (h : jK y M') (hT : jT jcl w s) : ∃ mk methk ck, s.methodNamed? y = some mk ∧ s.vm.method? mk = some methk ∧ methk.code = some ck ∧ ck.code = M'.2.2.1 ∧ ck.maxLocals = M'.2.2.2.1 ∧ methk.sig.returnType = M'.2.2.2.2.1 ∧ methk.locks = false ∧ ck.exceptionTable.toList = tableOf M'.2.2.2.2.2 ∧ parseMethodDescriptor y.desc = some methk.sig := by
  obtain ⟨-, -, -, h4⟩ := h
  rcases h4 with ⟨hh, hw⟩ | hw
  · have hcode := hT.w jcl hw rfl (A := #[])
    obtain ⟨mk, hn⟩ := Cond.code_named hcode
    obtain ⟨methk, ck, a1, a2, a3, a4, a5, a6, a7, a8⟩ := Cond.code_spec hn hcode
    refine ⟨mk, methk, ck, hn, a1, a2, a3, a4, a5, a6, ?_, a8⟩
    rw [hh]
    have : ck.exceptionTable = #[] := by simpa using a7
    rw [this]
    rfl
  · obtain ⟨mk, methk, ck, hn, a1, a2, a3, a4, a5, a6, a7, a8⟩ := Cond.codeWith_spec (hT.w jcl hw rfl (A := #[]))
    exact ⟨mk, methk, ck, hn, a1, a2, a3, a4, a6, a7, by rw [← a5, table_eq], a8⟩
/-- behind the calling instruction's own step: into the callee, and out again -/
theorem jcall {p : Program} {e : Env} {R : Room} {s : State} {m : MethodId} {args : Array Value} {below : List Frame} {meth : Method} {c : Code} {T : State} {locs : List Loc} {cells slots : Nat} {ls : Array Slot} {rest : List Value} {ig : Instr} {y : MethodName} {mk : MethodId} {methk : Method} {ck : Code} {As : List Value}
    (C : jC jcl w M (d + 1) hs p R s m meth c T.heap locs cells slots) (X : Stand p (jl w) e R s m args below meth c T locs cells slots) (hl : lv_ok ls M.2.2.2.1 L) (hdg : decode M.2.2.1 pc = .ok (ig, 3)) (hrest : jcat rest ∧ rest.length ≤ 24) (hK : jK y M') (hn : s.methodNamed? y = some mk) (hmk : s.vm.method? mk = some methk)
    (hck : methk.code = some ck) (a1 : ck.code = M'.2.2.1) (a2 : ck.maxLocals = M'.2.2.2.1) (a3 : methk.sig.returnType = M'.2.2.2.2.1) (a4 : methk.locks = false) (a5 : ck.exceptionTable.toList = tableOf M'.2.2.2.2.2) (hAs : jcat As ∧ As.length ≤ M'.2.2.2.1) (hmax : M'.2.2.2.1 ≤ 32)
    (kc : V jcl w M' d 0 (ja 0 As) [] hs Q1) (kr : ∀ v hs', Q1 (.inl v) hs' → V jcl w M (d + 1) (pc + 3) L (v.toList ++ rest) hs' Q) (kx : ∀ E hs', Q1 (.inr E) hs' → VX jcl w M (d + 1) pc L rest hs' E Q) :
    ∃ t, (∀ acts, Steps p.tables e below (doInvoke e (T.setTop (F0 m pc ls rest)) acts mk As.toArray).1 t) ∧ jZ jcl w Q R s below t := by
  obtain ⟨c1, c2, c3, c4, c5, c6, c7, c8, c9⟩ := id C
  have hdg' : decode c.code (F0 m pc ls rest).pc = .ok (ig, 3) := by rw [C.1.2.1]; exact hdg
  have hmkT : T.vm.method? mk = some methk := by rw [X.warmed.alike.method?]; exact hmk
  have hnT := X.named hn
  obtain ⟨Y, hent⟩ := X.into (g := F0 m pc ls rest) rfl (by rw [C.1.2.2.1]; exact hl.1.1) hdg' As.toArray (R' := { frames := d, cells := hs.2.1, slots := hs.2.2, locals := 128 * d }) hmkT hck a4 (State.plainMethod.of_named (plainFor_of_name hK.2.2.1) hnT hmkT) (by show d + 1 ≤ _; exact c4) (by show 2 * 0 + (rest.map fun v => v.category).sum + (ck.maxLocals + 11) + 128 * d ≤ _; rw [hrest.1.sum]; omega) c6 c7
  have hhU : ((T.setTop (F0 m pc ls rest)).pushFrame (.java (entryFrame mk As.toArray ck.maxLocals))).heap = T.heap := rfl
  generalize hU : (T.setTop (F0 m pc ls rest)).pushFrame (.java (entryFrame mk As.toArray ck.maxLocals)) = U at Y hent hhU
  have hvm' : (T.calling (F0 m pc ls rest) mk As.toArray).vm = T.vm := rfl
  have hhp' : (T.calling (F0 m pc ls rest) mk As.toArray).heap = T.heap := rfl
  have hn' : (T.calling (F0 m pc ls rest) mk As.toArray).methodNamed? y = some mk := hnT
  have hW0 : s.WarmedH (T.calling (F0 m pc ls rest) mk As.toArray).vm := X.warmed
  generalize hs9 : T.calling (F0 m pc ls rest) mk As.toArray = s' at Y hvm' hhp' hn' hW0
  have hent0 := lg_entry_eq mk As ck.maxLocals
  have hl' := lv_entry As (n := ck.maxLocals) (by rw [a2, hAs.1.sl]; exact hAs.2)
  rw [hent0] at hent
  generalize (lg_sl As ++ List.replicate (ck.maxLocals - (lg_sl As).length) Slot.unset).toArray = ls' at hent hl'
  rw [a2, hAs.1.args] at hl'
  have C' : jC jcl w M' d hs p { frames := d, cells := hs.2.1, slots := hs.2.2, locals := 128 * d } s' mk methk ck T.heap [] 0 0 := by
    refine ⟨⟨C.1.1, a1, a2, a3, a4, (name_of_methodNamed hn' (by rw [hvm']; exact hmkT)).1.trans hK.2.1, by rw [← hK.1]; exact findClass_of_methodNamed hn', a5⟩, c2.moved jcl hW0, c3, Nat.le_refl _, Nat.le_refl _, by simp, by simp, ⟨?_, ?_, c8.2.2.1, ?_, ?_, ?_⟩, c9⟩
    · rw [hhp']; exact va_S.rf
    · rw [hhp']; exact Nat.le_trans c8.2.1 c8.1.1
    · rw [hhp']; exact va_X.moved hW0.alike (c8.2.2.2.1.kept (c8.1.2.1 _ (Nat.lt_of_lt_of_le c8.2.2.1 c8.2.1) (Nat.not_le.mpr c8.2.2.1)))
    · rw [hhp']; exact vx_Zq.moved hW0.alike (c8.2.2.2.2.1.kept c8.1.2.1)
    · rw [hhp']; exact vx_Zq.moved hW0.alike (c8.2.2.2.2.2.kept c8.1.2.1)
  obtain ⟨t, hst, o, out, hs', L1, k, n, hrun, hend, hWm, hsame, hva, hcs, hss, hR1, hO, hq⟩ := kc p e _ s' mk As.toArray (.java (F0 m pc ls rest) :: below) methk ck T.heap [] 0 0 ls' C' ⟨hl', fun q hq => hAs.1.mem _ (ja_mem hq)⟩ U hhU Y
  have hcomp : va_S (jA w) s.heap t.heap (locs ++ L1) := by
    have z1 : T.heap.size ≤ t.heap.size := by have := hva.1; rw [hhp'] at this; exact this
    refine ⟨Nat.le_trans c8.1.1 z1, fun q h1 h2 => ?_, fun q hq => ?_⟩
    · have z2 := hva.2.1 q (by rw [hhp']; exact Nat.lt_of_lt_of_le h1 c8.1.1) h2
      rw [hhp'] at z2
      exact z2.trans (c8.1.2.1 q h1 h2)
    · rcases List.mem_append.mp hq with h | h
      · exact c8.1.2.2 q h
      · exact hva.2.2 q h
  subst hs9
  cases out with
  | inl v =>
    have ho : o = .returned v := hO
    subst ho
    obtain ⟨T', X', hW', hsame', ht⟩ := X.outOf (g := F0 m pc ls rest) rfl hdg' hend hWm hsame
    have hh' : t.heap = T'.heap := by rw [ht]; rfl
    obtain ⟨t2, st2, z2⟩ := kr v hs' hq p e R s m args below meth c T'.heap (locs ++ L1) (cells + k) (slots + n) ls ⟨c1, c2, c3, c4, c5, by have : k + hs'.2.1 ≤ hs.2.1 := hcs; omega, by have : n + hs'.2.2 ≤ hs.2.2 := hss; omega, ⟨by rw [← hh']; exact hcomp, c8.2⟩, by rw [← hh']; exact hR1⟩ hl T' rfl X'
    refine ⟨t2, fun acts => ?_, z2⟩
    rw [hent acts]
    refine (Steps.weaken (mid := [.java (F0 m pc ls rest)]) hst).trans ?_
    rw [ht]
    exact st2
  | inr E =>
    obtain ⟨a, ce, ho, hce, hcl, hv⟩ := hO
    subst ho
    obtain ⟨T', X', hW', hsame', ht⟩ := X.outOfThrown (g := F0 m pc ls rest) rfl hend hWm hsame
    have hh' : t.heap = T'.heap := by rw [ht]; rfl
    have hclT : T.vm.findClass E = some ce.cls := hcl
    obtain ⟨t2, st2, z2⟩ := kx E hs' hq p e R s m args below meth c T'.heap (locs ++ L1) (cells + k) (slots + n) ls a ce ⟨c1, c2, c3, c4, c5, by have : k + hs'.2.1 ≤ hs.2.1 := hcs; omega, by have : n + hs'.2.2 ≤ hs.2.2 := hss; omega, ⟨by rw [← hh']; exact hcomp, c8.2⟩, by rw [← hh']; exact hR1⟩ hl (by rw [← hh']; exact hce) (by rw [← X.warmed.alike.findClass]; exact hclT) hv T' rfl X'
    refine ⟨t2, fun acts => ?_, z2⟩
    rw [hent acts]
    refine (Steps.weaken (mid := [.java (F0 m pc ls rest)]) hst).trans ?_
    rw [ht]
    exact st2
end JV3
