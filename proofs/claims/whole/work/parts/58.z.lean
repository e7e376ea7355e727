/-! the claim out of the law's walk -/
def R_law : String := "JobRuntimeLaw"
def lw_P (b : Addr) (xs : List Int32) (args : Array Value) (s : State) : Prop := args = #[.ref b] ∧ s.IntsAt b xs ∧ xs.length ≤ 2560 ∧ (Jvm.Cond.and given_1 narrow_1).before args s = true
def lw_Q (_ : Array Value) (s : State) (o : Outcome) (t : State) : Prop := o = .returned (some (.int 1)) ∧ Framed s o t [] 601024 7293034
def lw_Z (below : List Frame) (a : Array Value) (s : State) : State → Prop := fun t => ∃ o, t.status = .running ∧ Ended t below o ∧ lw_Q a s o t
/-- what holds at the law's entry: the machine, the code, the tables' words (any of lw_tbl by 'hts w (by decide +kernel)'), the script of L ints xs at the cell b, what the Statement gives of the start (any of its parts by flat_of_before) -/
def lw_At (p : Program) (s : State) (m : MethodId) (meth : Method) (c : Code) (b L : Nat) (xs : Nat → Int32) : Prop :=
  p.tables.exec = Jvm.exec ∧ c.code = code ∧ meth.sig.returnType = ret ∧ c.maxLocals = 7 ∧ s.vm.findClass R_law = some m.cls ∧ (∀ w ∈ lw_tbl, w.before #[Value.ref b] s = true) ∧ va_X b L xs s s.heap ∧ b < s.heap.size ∧ meth.locks = false ∧ (Jvm.Cond.and given_1 narrow_1).before #[Value.ref b] s = true
theorem ja1 (v : Value) : ja 0 [v] = [(0, v)] := rfl
theorem whole_start {p : Program} {e : Env} {s : State} {m : MethodId} {below : List Frame} {meth : Method} {c : Code} (l : Launch) (hst : l.stackTraces = false) (hname : meth.name = "law") (htab : c.exceptionTable.toList = []) {b L : Nat} {xs : Nat → Int32} (hL : L ≤ 2560) (C0 : lw_At p s m meth c b L xs) : W p l e room_1 s m #[Value.ref b] below meth c s.heap [] 0 0 (lw_Z below #[Value.ref b] s) (entryFrame m ([Value.ref b] : List Value).toArray 7) := by
  obtain ⟨hx, hb, hr, hml, hown, hts, hX, hbl, hlk, hgv⟩ := C0
  obtain ⟨cJ, iJ, kJ⟩ := u_known (T := kT_J) (N := 11) hts (fun x hx => (in_J x hx).1) (hts _ wk_J.1)
  obtain ⟨cP, iP, kP⟩ := u_known (T := kT_P) (N := 4) hts (fun x hx => (in_P x hx).1) (hts _ wk_P.1)
  obtain ⟨cQ, iQ, kQ⟩ := u_known (T := kT_Q) (N := 3) hts (fun x hx => (in_Q x hx).1) (hts _ wk_Q.1)
  obtain ⟨cB, iB, kB⟩ := u_known (T := kT_B) (N := 16) hts (fun x hx => (in_B x hx).1) (hts _ wk_B.1)
  obtain ⟨cF, iF, kF⟩ := u_known (T := kT_F) (N := 5) hts (fun x hx => (in_F x hx).1) (hts _ wk_F.1)
  obtain ⟨cT, iT, kT⟩ := u_known (T := kT_T) (N := 2) hts (fun x hx => (in_T x hx).1) (hts _ wk_T.1)
  obtain ⟨cR, iR, kR⟩ := u_known (T := kT_R) (N := 41) hts (fun x hx => (in_R x hx).1) (hts _ wk_R.1)
  obtain ⟨aI, qI, mI, fI, gI, hI⟩ := Cond.arrayClass_spec (hts _ w_a_int)
  obtain ⟨aZ, qZ, mZ, fZ, gZ, hZ⟩ := Cond.arrayClass_spec (hts _ w_a_boolean)
  obtain ⟨aL, qL, mL, fL, gL, hLL⟩ := Cond.arrayClass_spec (hts _ w_a_long)
  obtain ⟨mP, aP, qP, eP1, eP2, eP3, eP4, eP5⟩ := Cond.arrayOver_spec (hts _ w_o_P)
  obtain ⟨mB, aB, qB, eB1, eB2, eB3, eB4, eB5⟩ := Cond.arrayOver_spec (hts _ w_o_B)
  obtain ⟨mF, aF, qF, eF1, eF2, eF3, eF4, eF5⟩ := Cond.arrayOver_spec (hts _ w_o_F)
  have hfl := flat_of_before _ hgv
  obtain ⟨D, hD0⟩ : ∃ D : va_G, D = ((fun ci => match ci with | 0 => cJ | 1 => cP | 2 => cQ | 3 => cB | 4 => cF | 5 => cT | _ => cR), (fun ci => match ci with | 0 => iJ | 1 => iP | 2 => iQ | 3 => iB | 4 => iF | 5 => iT | _ => iR)) := ⟨_, rfl⟩
  have hKc : ∀ (k : Nat) (q : vw_C), jcl[k]? = some q → u_Kn s q.1 q.2.1 q.2.2 (D.1 k) (D.2 k) := by
    intro k q hq
    subst hD0
    match k, hq with
    | 0, hq => cases hq; exact kJ
    | 1, hq => cases hq; exact kP
    | 2, hq => cases hq; exact kQ
    | 3, hq => cases hq; exact kB
    | 4, hq => cases hq; exact kF
    | 5, hq => cases hq; exact kT
    | 6, hq => cases hq; exact kR
    | n + 7, hq => cases hq
  obtain ⟨ty, hty⟩ : ∃ ty : List (ClassId × FieldType), ty = [(aI, .int), (aZ, .boolean), (aL, .long), (aP, .object "JobRuntime$Program"), (aB, .object "JobRuntime$Job"), (aF, .object "JobRuntime$Frame")] := ⟨_, rfl⟩
  have hKt : ∀ (k : Nat) (q : ClassId × FieldType), ty[k]? = some q → (ArrOfT s q.1 q.2 ∧ va_RA s q.1 q.2) ∧ s.vm.findClass ("[" ++ q.2.toString) = some q.1 := by
    intro k q hq
    subst hty
    match k, hq with
    | 0, hq => cases hq; exact ⟨⟨fun n z => ⟨fun k h => (by cases h), qI, gI, mI, hI⟩, fI⟩, fI⟩
    | 1, hq => cases hq; exact ⟨⟨fun n z => ⟨fun k h => (by cases h), qZ, gZ, mZ, hZ⟩, fZ⟩, fZ⟩
    | 2, hq => cases hq; exact ⟨⟨fun n z => ⟨fun k h => (by cases h), qL, gL, mL, hLL⟩, fL⟩, fL⟩
    | 3, hq => cases hq; exact ⟨⟨fun n z => ⟨fun k h => (by cases h), qP, eP3, mP, eP4⟩, qP, mP, eP3, eP4, eP1, eP5⟩, eP5⟩
    | 4, hq => cases hq; exact ⟨⟨fun n z => ⟨fun k h => (by cases h), qB, eB3, mB, eB4⟩, qB, mB, eB3, eB4, eB1, eB5⟩, eB5⟩
    | 5, hq => cases hq; exact ⟨⟨fun n z => ⟨fun k h => (by cases h), qF, eF3, mF, eF4⟩, qF, mF, eF3, eF4, eF1, eF5⟩, eF5⟩
    | n + 6, hq => cases hq
  have hT : jT jcl (l, D, ty, s.heap.size, b, L, xs) s := by
    refine ⟨fun x hx hg => word_at (State.WarmedH.refl s) (good_of_word hg) (hts x hx), ⟨hKc, fun k q hq => (hKt k q hq).1⟩, fun x hx hj => va_Nw.of (jx_ot hj) (hts x hx), fun C hC => va_AO.of (hts _ hC), fun C T hm => ?_, fun k q hq => (hKt k q hq).2⟩
    simp only [List.mem_cons, List.not_mem_nil, or_false, Prod.mk.injEq] at hm
    rcases hm with ⟨rfl, rfl⟩ | ⟨rfl, rfl⟩ | ⟨rfl, rfl⟩ | ⟨rfl, rfl⟩ | ⟨rfl, rfl⟩ | ⟨rfl, rfl⟩ <;> exact va_Nc.of (hfl _ (by decide +kernel))
  have hwf : jWf (l, D, ty, s.heap.size, b, L, xs) := by
    subst hty
    exact ⟨rfl, rfl, rfl, rfl, rfl, rfl⟩
  have hA : ∀ a : Nat, a < s.heap.size → ¬ jA (l, D, ty, s.heap.size, b, L, xs) a := fun a h1 h2 => Nat.lt_irrefl _ (Nat.lt_of_lt_of_le h1 h2)
  have hG : jG (l, D, ty, s.heap.size, b, L, xs) s s.heap [] := ⟨va_S.rf, Nat.le_refl _, hbl, hX, vx_Zqof (hts _ (by decide +kernel)) (hts _ (by decide +kernel)) (hfl _ (by decide +kernel)) hA, vx_Zqof (hts _ (by decide +kernel)) (hts _ (by decide +kernel)) (hfl _ (by decide +kernel)) hA⟩
  have hV := l_start (w := (l, D, ty, s.heap.size, b, L, xs)) (d := 0) (hs0 := (fun _ => none, 601024, 7293034)) hwf hL ⟨by show 2000 ≤ 601024; omega, by show 20000 ≤ 7293034; omega⟩ (fun _ => rfl)
  have hl0 := lv_entry [Value.ref b] (n := 7) (by rw [jcat.sl (st := [Value.ref b]) ⟨rfl, trivial⟩]; show 1 ≤ 7; omega)
  rw [jcat.args 0 (st := [Value.ref b]) ⟨rfl, trivial⟩, ja1] at hl0
  rw [lg_entry_eq m [Value.ref b] 7]
  refine (hV p e room_1 s m #[Value.ref b] below meth c s.heap [] 0 0 _ ⟨⟨hx, hb, hml, hr, hlk, hname, hown, htab⟩, hT, hst, by show 34 ≤ 2048; omega, by show 128 * 34 ≤ 84000; omega, by show 0 + 601024 ≤ 601024; omega, by show 0 + 7293034 ≤ 7293034; omega, hG, fun a e ha => by cases ha⟩ ⟨hl0, fun q hq => ?_⟩).post ?_
  · rcases List.mem_cons.mp hq with rfl | hq
    · rfl
    · cases hq
  · intro t ⟨o, out, hs', locs, cells, slots, b1, b2, hW, hsame, hva, hc1, hs1, hR1, hO, hq⟩
    subst hq
    have ho : o = .returned (some (.int 1)) := hO
    subst ho
    have hc2 : cells ≤ 601024 := by have : cells + hs'.2.1 ≤ 601024 := hc1; omega
    have hs2 : slots ≤ 7293034 := by have : slots + hs'.2.2 ≤ 7293034 := hs1; omega
    exact ⟨_, b1, b2, rfl, ⟨_, rfl⟩, hW, (State.sameButNew.drop_fresh (L := []) (J := locs) hsame (fun x hx => hva.2.2 x hx)).mono hc2 hs2⟩
set_option maxHeartbeats 4000000 in
theorem lw_walk (l : Launch) (hst : l.stackTraces = false) (b : Addr) (xs : List Int32) : MetFree l x (headSpec (Jvm.Cond.code x code maxLocals ret :: tables_1) room_1) (lw_P b xs) (fun _ _ _ _ _ => True) lw_Q := by
  refine MetFree.of_bodyS (code := code) (maxLocals := maxLocals) (ret := ret) (by decide) ?_ ?_
  · intro args s m h hn
    obtain ⟨meth, c, h1, h2, h3, h4, h5, h6, -, -⟩ := Cond.code_spec hn (atoms_spec (ws := Jvm.Cond.code x code maxLocals ret :: tables_1) h _ List.mem_cons_self)
    exact ⟨meth, c, h1, h2, h3, h4, h5, h6⟩
  · intro p e s m args below meth c s₁ B hml0 hP _
    obtain ⟨rfl, hx, hbd, hgv⟩ := hP
    obtain ⟨scr, harrAt, hlist, hof, hsmall⟩ := hx
    obtain ⟨hcb, hkn, -, -⟩ := State.arrayAt?_spec harrAt
    have hown : s.vm.findClass R_law = some m.cls := findClass_of_methodNamed B.named
    have hts0 : ∀ c ∈ (Jvm.Cond.code x code maxLocals ret :: tables_1), c.before #[Value.ref b] s = true := atoms_spec (ws := Jvm.Cond.code x code maxLocals ret :: tables_1) B.pre
    have hts : ∀ w ∈ lw_tbl, w.before #[Value.ref b] s = true := k2_hts_sels lw_privs (fun w hw => hts0 w (List.mem_cons_of_mem _ hw)) lw_privs_ok
    have hml : c.maxLocals = 7 := B.maxLocals_eq (hts0 _ List.mem_cons_self)
    have X₀ : Stand p l e room_1 s m #[Value.ref b] below meth c s₁ [] 0 0 := Stand.of_body B
    have hh0 : s₁.heap = s.heap := by rw [B.state]; rfl
    have hsz : scr.slots.size = xs.length := by rw [← Array.length_toList, hlist, List.length_map]
    have hval : ∀ j : Nat, j < xs.length → scr.slots[j]? = some (.int (xs.getD j 0)) := fun j hj => by
      rw [← Array.getElem?_toList, hlist]
      simp [hj]
    have hbl : b < s.heap.size := (Array.getElem?_eq_some_iff.mp hcb).1
    have hX : va_X b xs.length (fun j => xs.getD j 0) s s.heap := ⟨scr, hcb, hof, hkn, hsz, hval⟩
    have K : W p l e room_1 s m #[Value.ref b] below meth c s₁.heap [] 0 0 (lw_Z below #[Value.ref b] s) (entryFrame m ([Value.ref b] : List Value).toArray 7) := by
      rw [hh0]
      obtain ⟨meth', c', hm', hc', -, -, -, -, hx', -⟩ := Cond.code_spec B.named (hts0 _ List.mem_cons_self)
      cases B.method.symm.trans hm'
      cases (Stand.of_body B).code.symm.trans hc'
      exact whole_start l hst (name_of_methodNamed B.named hm').1 (by simpa using hx') hbd ⟨B.exec, B.bytes, B.returns, hml, hown, hts, hX, hbl, B.notSynchronized, hgv⟩
    obtain ⟨t, a1, o, b1, b2, b3⟩ := K s₁ rfl X₀
    exact ⟨t, o, a1, b1, b2, b3⟩
theorem lw_pre_spec {args : Array Value} {s : State} (h : (Jvm.Cond.and given_1 narrow_1).before args s = true) (hr : rest_1_c.before args s = true) : ∃ (b : Addr) (xs : List Int32), lw_P b xs args s := by
  have hs := flat_of_before _ h
  have hq := flat_of_before _ hr
  have hc : (Cond.count 1).before args s = true := hs _ (by decide +kernel)
  have harr : (Cond.arrayOf (.arg 0) .int).before args s = true := hs _ (by decide +kernel)
  have hle : (Cond.le (.length (.arg 0)) (.int 2560)).before args s = true := hs _ (by decide +kernel)
  have hlen : (Cond.isInt (.length (.arg 0))).before args s = true := hq _ (by decide +kernel)
  have hall : (Cond.all (.arg 0) (.isInt (.elem (.arg 0) (.index 0)))).before args s = true := hq _ (by decide +kernel)
  obtain ⟨b, xs, hb, hx⟩ := State.ints_of_pre rfl harr hlen hall
  have hsm : xs.length < 2 ^ 31 := hx.choose_spec.2.2.2
  have hev : (Term.length (.arg 0)).eval args s none [] s = some (.int xs.length.toInt32) := hx.length_eval hb
  have hv := Cond.le_ints hev (show (Term.int 2560).eval args s none [] s = some (.int 2560) from rfl)
  have hd : xs.length.toInt32 ≤ 2560 := by
    simpa [Cond.before, Cond.holds, hv] using hle
  have hN : xs.length ≤ 2560 := (Int32.ofNat_le_ofNat hsm (by decide)).mp (show Int32.ofNat xs.length ≤ Int32.ofNat 2560 from hd)
  exact ⟨b, xs, Cond.one_arg hc (show args[0]? = some (.ref b) from hb), hx, hN, h⟩
theorem lw_comes (l : Launch) (hst : l.stackTraces = false) : Comes l x (Jvm.Cond.code x code maxLocals ret :: tables_1) room_1 (fun tb e args s => Calls_1 tb e args s ∧ rest_1 tb e args s ∧ Pre_1 tb e args s)
    (fun _ _ args s o t => lw_Q args s o t) := by
  intro p e ha hc hk s m args below hf hfit hheap happ hpre
  obtain ⟨b, xs, hP⟩ := lw_pre_spec hpre.2.2 hpre.2.1
  obtain ⟨k, o, h1, h2, h3, hQ⟩ := lw_walk l hst b xs p e ha hc hk s m args below hf ((Spec.applies_iff_loose hf).mp happ).1 hP trivial
  exact ⟨k, o, h1, h2, h3, hQ⟩
theorem lw_frame {s t : State} {o : Outcome} {args : Array Value} (h : Framed s o t [] 601024 7293034) :
    Framed s o t (fieldLocs frame_1_writes args s ++ arrayLocs frame_1_arrays args s ++ staticLocs frame_1_statics s) 601024 7293034 := h
theorem lw_limb (L : Cond) (hL : ∀ (args : Array Value) (s t : State), L.after args s (.returned (some (.int 1))) t = true) :
    ArmFor flags0 classFile x code maxLocals ret World_1 tables_1 room_1 Calls_1 rest_1 Pre_1
      (fun tb e a s o t => postC L tb e a s o t ∧ Framed s o t (fieldLocs frame_1_writes a s ++ arrayLocs frame_1_arrays a s ++ staticLocs frame_1_statics s) 601024 7293034) := by
  intro l hfg _ _ p e ha hc hk s m args below hf hfit hheap happ hpre
  obtain ⟨k, o, h1, h2, h3, rfl, hF⟩ := lw_comes l (by unfold Launch.stackTraces; rw [hfg]; decide +kernel) p e ha hc hk s m args below hf hfit hheap happ hpre
  exact ⟨k, _, h1, h2, h3, hL args s _, lw_frame hF⟩
theorem i_vc : Claimed_1_1 ∧ Claimed_1_2 := ⟨lw_limb limb_1_1 (fun args s t => by simp [limb_1_1, Cond.after, Cond.holds, Cond.value]), lw_limb limb_1_2 (fun args s t => Cond.after_iff.mpr (by
  first | (rw [show limb_1_2 = Cond.eq .result (.int 1) from rfl, Cond.eq_ints (x := 1) (y := 1) rfl rfl]; simp; done) | (simp [limb_1_2, Cond.value, Term.eval]; done)))⟩
