/-! the light machine's rows on the heap, its returns, its calls -/
section JV2
variable {jcl : List vw_C} {w : jw} {M : jm} {d pc : Nat} {L L' : List (Nat × Value)} {st : List Value} {hs : jh} {Q : jo → jh → Prop}
/-- a field reference: constant idx of own is field k of kind ci -/
def jF (jcl : List vw_C) (own : String) (idx ci k : Nat) (fin : Bool) (ty : FieldType) : Prop :=
  ∃ (C : String) (T : u_T) (N : Nat) (ty0 : Nat → FieldType), jcl[ci]? = some (C, T, N) ∧ k < N ∧ (∀ x ∈ u_ws C T N, x ∈ lw_tbl ∧ goodWord x = true) ∧ Cond.fieldLink own idx (T k).1 (T k).2.1 (T k).2.2.1 ∈ lw_tbl ∧
    (∀ j, j < N → parseFieldDescriptor (T j).2.2.1 = some (ty0 j)) ∧ (∀ a, a < N → ∀ b, b < N → a ≠ b → (T a).2.1 ≠ (T b).2.1) ∧ ty0 k = ty ∧ (T k).2.2.2 = fin ∧ (fin = true → (T k).1 = own)
/-- the same for reading alone -/
def jFg (jcl : List vw_C) (own : String) (idx ci k : Nat) : Prop :=
  ∃ (C : String) (T : u_T) (N : Nat), jcl[ci]? = some (C, T, N) ∧ k < N ∧ (∀ x ∈ u_ws C T N, x ∈ lw_tbl ∧ goodWord x = true) ∧ Cond.fieldLink own idx (T k).1 (T k).2.1 (T k).2.2.1 ∈ lw_tbl
theorem jF.g {jcl : List vw_C} {own : String} {idx ci k : Nat} {fin : Bool} {ty : FieldType} (h : jF jcl own idx ci k fin ty) : jFg jcl own idx ci k := by
  obtain ⟨C, T, N, ty0, h1, h2, h3, h4, -⟩ := h
  exact ⟨C, T, N, h1, h2, h3, h4⟩
theorem jT.lay {s : State} {args : Array Value} (h : jT jcl w s) {C : String} {T : u_T} {N : Nat} (hin : ∀ x ∈ u_ws C T N, x ∈ lw_tbl ∧ goodWord x = true) : ∀ x ∈ u_ws C T N, x.before args s = true := fun x hx => h.w jcl (hin x hx).1 (hin x hx).2
theorem jR.put {h : Nat → Option va_E} {H H1 : Heap} {a : Nat} {e : va_E} (hR : jR jcl w h H) (ha : jB w ≤ a) (hn : va_at (jD w) jcl (a, e) H1) (oq : ∀ q : Nat, q ≠ a → H1[q]? = H[q]?) : jR jcl w (hup h a e) H1 := by
  intro q e1 hq
  by_cases hc : q = a
  · subst hc
    rw [hup_s] at hq
    cases hq
    exact ⟨ha, hn⟩
  · rw [hup_n hc] at hq
    obtain ⟨h1, h2⟩ := hR q e1 hq
    exact ⟨h1, h2.kept (oq q hc)⟩
theorem jR.new {h : Nat → Option va_E} {H H1 : Heap} {e : va_E} (hR : jR jcl w h H) (hB : jB w ≤ H.size) (hn : va_at (jD w) jcl (H.size, e) H1) (oq : ∀ q : Nat, q < H.size → H1[q]? = H[q]?) : jR jcl w (hup h H.size e) H1 := by
  intro q e1 hq
  by_cases hc : q = H.size
  · subst hc
    rw [hup_s] at hq
    cases hq
    exact ⟨hB, hn⟩
  · rw [hup_n hc] at hq
    obtain ⟨h1, h2⟩ := hR q e1 hq
    exact ⟨h1, h2.kept (oq q h2.lt)⟩
theorem jR.fresh {h : Nat → Option va_E} {H : Heap} (hR : jR jcl w h H) : h H.size = none := by
  cases hq : h H.size with
  | none => rfl
  | some e => exact absurd (hR _ e hq).2.lt (Nat.lt_irrefl _)
theorem jG.put {s : State} {H H1 : Heap} {locs : List Loc} {a k : Nat} (h : jG w s H locs) (z : H1.size = H.size) (oq : ∀ q : Nat, q ≠ a → H1[q]? = H[q]?) (ha : jB w ≤ a) : jG w s H1 (locs ++ [⟨a, k⟩]) := ⟨h.1.put z oq ha, h.2⟩
theorem jG.new {s : State} {H H1 : Heap} {locs : List Loc} (h : jG w s H locs) (z : H1.size = H.size + 1) (oq : ∀ q : Nat, q < H.size → H1[q]? = H[q]?) : jG w s H1 locs :=
  ⟨⟨by rw [z]; exact Nat.le_succ_of_le h.1.1, fun q h1 h2 => (oq q (Nat.lt_of_lt_of_le h1 h.1.1)).trans (h.1.2.1 q h1 h2), h.1.2.2⟩, h.2⟩
theorem jC.put {p : Program} {R : Room} {s : State} {m : MethodId} {meth : Method} {c : Code} {H H1 : Heap} {locs : List Loc} {cells slots a k : Nat} {e : va_E} (C : jC jcl w M d hs p R s m meth c H locs cells slots) (ha : jB w ≤ a) (z : H1.size = H.size) (oq : ∀ q : Nat, q ≠ a → H1[q]? = H[q]?) (hn : va_at (jD w) jcl (a, e) H1) :
    jC jcl w M d (hup hs.1 a e, hs.2) p R s m meth c H1 (locs ++ [⟨a, k⟩]) cells slots := by
  obtain ⟨c1, c2, c3, c4, c5, c6, c7, c8, c9⟩ := C
  exact ⟨c1, c2, c3, c4, c5, c6, c7, c8.put z oq ha, c9.put ha hn oq⟩
theorem jC.new {p : Program} {R : Room} {s : State} {m : MethodId} {meth : Method} {c : Code} {H H1 : Heap} {locs : List Loc} {cells slots n : Nat} {e : va_E} (C : jC jcl w M d hs p R s m meth c H locs cells slots) (hc : 1 ≤ hs.2.1) (hn0 : n ≤ hs.2.2) (z : H1.size = H.size + 1) (oq : ∀ q : Nat, q < H.size → H1[q]? = H[q]?) (hn : va_at (jD w) jcl (H.size, e) H1) :
    jC jcl w M d (hup hs.1 H.size e, hs.2.1 - 1, hs.2.2 - n) p R s m meth c H1 locs (cells + 1) (slots + n) := by
  obtain ⟨c1, c2, c3, c4, c5, c6, c7, c8, c9⟩ := C
  exact ⟨c1, c2, c3, c4, c5, by show cells + 1 + (hs.2.1 - 1) ≤ _; omega, by show slots + n + (hs.2.2 - n) ≤ _; omega, c8.new z oq, c9.new (Nat.le_trans c8.2.1 c8.1.1) hn oq⟩
theorem V.get {idx ci k : Nat} {a : Nat} {fs : List Value} {v : Value} (hdg : decode M.2.2.1 pc = .ok (.getfield idx, 3)) (hF : jFg jcl M.1 idx ci k) (ha : hs.1 a = some (.inr (ci, fs))) (hv : fs[k]? = some v)
    (kk : V jcl w M d (pc + 3) L (v :: st) hs Q) : V jcl w M d pc L (.ref a :: st) hs Q := fun p e R s m args below meth c H locs cells slots ls C h => by
  obtain ⟨Cn, T, N, hc, hk, hin, hl⟩ := hF
  have hP : va_P (jD w) jcl [(a, .inr (ci, fs))] H := fun j q hj => by
    have : j = 0 := by
      have := (List.getElem?_eq_some_iff.mp hj).1
      simp at this
      exact this
    subst this
    cases hj
    exact (C.2.2.2.2.2.2.2.2 a _ ha).2
  exact va_get (Ts := u_ws Cn T N) C.1.1 C.1.2.1 (C.2.1.lay hin) (fun _ z => z) C.1.2.2.2.2.2.2.1 C.2.1.2.1 hP 0 rfl hc k hk (C.2.1.w jcl hl rfl) (fun _ z => z) hv hdg (kk p e R s m args below meth c H locs cells slots ls C h)
theorem V.put {idx ci k : Nat} {ty : FieldType} {a : Nat} {fs : List Value} {v : Value} (hdg : decode M.2.2.1 pc = .ok (.putfield idx, 3)) (hF : jF jcl M.1 idx ci k false ty) (ha : hs.1 a = some (.inr (ci, fs))) (hn : narrow ty v = v) (hfit : fits ty v = true) (hlen : k < fs.length)
    (kk : V jcl w M d (pc + 3) L st (hup hs.1 a (.inr (ci, fs.set k v)), hs.2) Q) : V jcl w M d pc L (v :: .ref a :: st) hs Q := fun p e R s m args below meth c H locs cells slots ls C h => by
  obtain ⟨Cn, T, N, ty0, hc, hk, hin, hl, hty, hnm, hte, hfin, -⟩ := hF
  subst hte
  have hts := C.2.1.lay (args := args) hin
  have hap := va_apart (own := M.1) (Ts := u_ws Cn T N) hts (fun _ z => z) ty0 hty hnm C.2.1.2.1 hc
  obtain ⟨hBa, r, h1, cell, q1, q2, q3, q4⟩ := C.2.2.2.2.2.2.2.2 a _ ha
  have hr : r = (Cn, T, N) := Option.some.inj (h1.symm.trans hc)
  subst hr
  obtain ⟨hS, hfc, kC, hkC, hkind⟩ := C.2.1.2.1.1 ci _ hc
  obtain ⟨cf, kf, fi, f, hi, hsl⟩ := hS k hk
  have hlay := hts _ (u_in_lay hk)
  unfold u_lay at hlay
  rw [if_neg (by rw [hfin]; decide)] at hlay
  have hst := (u_facts hfc hkC (u_lays hts (fun _ z => z) hk) hi).1
  have h6 := u_store hfc hkC hkind hlay hi (hty k hk) hn hfit
  refine W.putK C.1.1 C.1.2.1 (f := f) ⟨C.1.2.2.2.2.2.2.1, C.2.1.w jcl hl rfl, ⟨_, _, _, hi⟩, hst⟩ (by rw [q2]; exact h6) q1 q3 (by rw [hsl]; exact k2_hasslot (q4 k hk)) rfl rfl hdg fun H' e1 e2 e3 => ?_
  rw [hsl] at e1 ⊢
  exact kk p e R s m args below meth c H' _ cells slots ls (C.put hBa e2 e3 ⟨_, hc, t_OB.to (V := updV (vp_V fs) k v) ⟨_, e1, q2, q3, t_set q4 hap hk v⟩ (fun j _ => vp_updV_set hlen v j)⟩) h
theorem V.putF {idx ci k : Nat} {ty : FieldType} {a : Nat} {fs : List Value} {v : Value} (hdg : decode M.2.2.1 pc = .ok (.putfield idx, 3)) (hF : jF jcl M.1 idx ci k true ty) (hM : M.2.1 = "<init>") (ha : hs.1 a = some (.inr (ci, fs))) (hn : narrow ty v = v) (hfit : fits ty v = true) (hlen : k < fs.length)
    (kk : V jcl w M d (pc + 3) L st (hup hs.1 a (.inr (ci, fs.set k v)), hs.2) Q) : V jcl w M d pc L (v :: .ref a :: st) hs Q := fun p e R s m args below meth c H locs cells slots ls C h => by
  obtain ⟨Cn, T, N, ty0, hc, hk, hin, hl, hty, hnm, hte, hfin, hdecl⟩ := hF
  subst hte
  have hts := C.2.1.lay (args := args) hin
  have hap := va_apart (own := M.1) (Ts := u_ws Cn T N) hts (fun _ z => z) ty0 hty hnm C.2.1.2.1 hc
  obtain ⟨hBa, r, h1, cell, q1, q2, q3, q4⟩ := C.2.2.2.2.2.2.2.2 a _ ha
  have hr : r = (Cn, T, N) := Option.some.inj (h1.symm.trans hc)
  subst hr
  obtain ⟨hS, hfc, kC, hkC, hkind⟩ := C.2.1.2.1.1 ci _ hc
  obtain ⟨cf, kf, fi, f, hi, hsl⟩ := hS k hk
  have hlay := hts _ (u_in_lay hk)
  unfold u_lay at hlay
  rw [if_pos hfin] at hlay
  have hst := (u_facts hfc hkC (u_lays hts (fun _ z => z) hk) hi).1
  have hown := C.1.2.2.2.2.2.2.1
  have hcf : m.cls = cf := by
    obtain ⟨_, _, c', _, _, _, -, -, hf', -, -, -, hown2, -⟩ := Cond.laysFinal_spec hlay
    have e1 : c' = cf := by have := hi.symm.trans hf'; simp at this; exact this.1.symm
    rw [hdecl rfl] at hown2
    rw [← e1]; exact Option.some.inj (hown.symm.trans hown2)
  have h6 := u_fits hfc hkC hkind (Or.inr hlay) hi (hty k hk) hn hfit
  refine W.putFinK C.1.1 C.1.2.1 hown (C.2.1.w jcl hl rfl) hi hst hcf (C.1.2.2.2.2.2.1.trans hM) (by rw [q2]; exact h6) q1 q3 (by rw [hsl]; exact k2_hasslot (q4 k hk)) rfl rfl hdg fun H' e1 e2 e3 => ?_
  rw [hsl] at e1 ⊢
  exact kk p e R s m args below meth c H' _ cells slots ls (C.put hBa e2 e3 ⟨_, hc, t_OB.to (V := updV (vp_V fs) k v) ⟨_, e1, q2, q3, t_set q4 hap hk v⟩ (fun j _ => vp_updV_set hlen v j)⟩) h
theorem V.new {idx ci n : Nat} {fs : List Value} (hdg : decode M.2.2.1 pc = .ok (.new idx, 3)) (hF : ∃ (C : String) (T : u_T) (ty0 : Nat → FieldType), jcl[ci]? = some (C, T, n) ∧ (∀ x ∈ u_ws C T n, x ∈ lw_tbl ∧ goodWord x = true) ∧ (∀ j, j < n → parseFieldDescriptor (T j).2.2.1 = some (ty0 j)) ∧ (∀ j, j < n → defaultValue (ty0 j) = vp_V fs j) ∧ Cond.classLink M.1 idx C ∈ lw_tbl ∧ Cond.instantiable C n ∈ lw_tbl ∧ Cond.initialized C ∈ lw_tbl)
    (hc1 : 1 ≤ hs.2.1) (hs1 : n ≤ hs.2.2)
    (kk : ∀ q : Nat, hs.1 q = none → V jcl w M d (pc + 3) L (.ref q :: st) (hup hs.1 q (.inr (ci, fs)), hs.2.1 - 1, hs.2.2 - n) Q) : V jcl w M d pc L st hs Q := fun p e R s m args below meth c H locs cells slots ls C h => by
  obtain ⟨Cn, T, ty0, hc, hin, hty, hfs, w1, w2, w3⟩ := hF
  have hts := C.2.1.lay (args := args) hin
  obtain ⟨c1, c2, c3, c4, c5, c6, c7, c8, c9⟩ := id C
  have hKn := c2.2.1.1 ci _ hc
  refine W.newcK C.1.1 C.1.2.1 C.1.2.2.2.2.2.2.1 (c2.w jcl w1 rfl) (c2.w jcl w2 rfl) (c2.w jcl w3 rfl) rfl hdg (by omega) (by omega) hKn.2.1 rfl fun H' kC hkC e1 z1 o1 => ?_
  exact kk H.size c9.fresh p e R s m args below meth c H' locs (cells + 1) (slots + n) ls (C.new hc1 hs1 z1 o1 ⟨_, hc, t_OB.to (u_born ty0 hts (fun _ z => z) hKn hkC e1 hty) hfs⟩) h
theorem V.objInit {idx a : Nat} (hdg : decode M.2.2.1 pc = .ok (.invokespecial idx, 3)) (w1 : Cond.methodLink M.1 idx Lib.objectInit ∈ lw_tbl) (w2 : Cond.instanceMethod Lib.objectInit ∈ lw_tbl) (w3 : Cond.code Lib.objectInit ⟨#[0xb1]⟩ 1 none ∈ lw_tbl) (hW : (st.map fun v => v.category).sum ≤ 64) (hd : 1 ≤ d)
    (k : V jcl w M d (pc + 3) L st hs Q) : V jcl w M d pc L (.ref a :: st) hs Q := fun p e R s m args below meth c H locs cells slots ls C h => by
  obtain ⟨c1, c2, c3, c4, c5, c6, c7, c8, c9⟩ := id C
  exact W.objInit C.1.1 C.1.2.1 C.1.2.2.2.2.2.2.1 (c2.w jcl w1 rfl) (c2.w jcl w2 rfl) (c2.w jcl w3 rfl) rfl (by rw [C.1.2.2.1]; exact h.1.1) rfl hdg (by omega) (by show 2 * 0 + _ + 12 ≤ _; omega) (k p e R s m args below meth c H locs cells slots ls C h)
/-! arrays -/
theorem V.iald {a t0 n : Nat} {cA : ClassId} {f : Nat → Int32} {i : Int32} (hdg : decode M.2.2.1 pc = .ok (.iaload, 1)) (ha : hs.1 a = some (.inl (cA, n, .inl f))) (ht : (jty w)[t0]? = some (cA, .int)) (hin : vp_in i n)
    (kk : V jcl w M d (pc + 1) L (.int (f i.toNatClampNeg) :: st) hs Q) : V jcl w M d pc L (.int i :: .ref a :: st) hs Q := fun p e R s m args below meth c H locs cells slots ls C h => by
  have hlt : i.toNatClampNeg < n := Nat.not_le.mp fun q => hin (Or.inr q)
  exact W.iald (v := .int (f i.toNatClampNeg)) C.1.1 C.1.2.1 (C.2.2.2.2.2.2.2.2 a _ ha).2 ((C.2.1.2.1.2 t0 _ ht).1 n (fun j => .int (f j))) (fun q => by cases q) (by show ¬ (i < 0 ∨ (arrV _ _ _).slots.size ≤ _); rw [arrV_size]; exact hin) (by show (arrV _ _ _).slots[_]? = _; rw [arrV_read _ _ hlt]) rfl rfl hdg (kk p e R s m args below meth c H locs cells slots ls C h)
theorem V.zald {a t0 n : Nat} {cA : ClassId} {f : Nat → Int32} {i : Int32} (hdg : decode M.2.2.1 pc = .ok (.baload, 1)) (ha : hs.1 a = some (.inl (cA, n, .inl f))) (ht : (jty w)[t0]? = some (cA, .boolean)) (hin : vp_in i n)
    (kk : V jcl w M d (pc + 1) L (.int (f i.toNatClampNeg) :: st) hs Q) : V jcl w M d pc L (.int i :: .ref a :: st) hs Q := fun p e R s m args below meth c H locs cells slots ls C h => by
  have hlt : i.toNatClampNeg < n := Nat.not_le.mp fun q => hin (Or.inr q)
  exact W.zald (v := .int (f i.toNatClampNeg)) C.1.1 C.1.2.1 (C.2.2.2.2.2.2.2.2 a _ ha).2 ((C.2.1.2.1.2 t0 _ ht).1 n (fun j => .int (f j))) (fun q => by cases q) (by show ¬ (i < 0 ∨ (arrV _ _ _).slots.size ≤ _); rw [arrV_size]; exact hin) (by show (arrV _ _ _).slots[_]? = _; rw [arrV_read _ _ hlt]) rfl rfl hdg (kk p e R s m args below meth c H locs cells slots ls C h)
theorem V.lald {a t0 n : Nat} {cA : ClassId} {f : Nat → Int64} {i : Int32} (hdg : decode M.2.2.1 pc = .ok (.laload, 1)) (ha : hs.1 a = some (.inl (cA, n, .inr (.inl f)))) (ht : (jty w)[t0]? = some (cA, .long)) (hin : vp_in i n)
    (kk : V jcl w M d (pc + 1) L (.long (f i.toNatClampNeg) :: st) hs Q) : V jcl w M d pc L (.int i :: .ref a :: st) hs Q := fun p e R s m args below meth c H locs cells slots ls C h => by
  have hlt : i.toNatClampNeg < n := Nat.not_le.mp fun q => hin (Or.inr q)
  exact W.lald (v := .long (f i.toNatClampNeg)) C.1.1 C.1.2.1 (C.2.2.2.2.2.2.2.2 a _ ha).2 ((C.2.1.2.1.2 t0 _ ht).1 n (fun j => .long (f j))) (fun q => by cases q) (by show ¬ (i < 0 ∨ (arrV _ _ _).slots.size ≤ _); rw [arrV_size]; exact hin) (by show (arrV _ _ _).slots[_]? = _; rw [arrV_read _ _ hlt]) rfl rfl hdg (kk p e R s m args below meth c H locs cells slots ls C h)
theorem V.aald {a t0 n : Nat} {cA : ClassId} {Cn : String} {f : Nat → Option Nat} {i : Int32} (hdg : decode M.2.2.1 pc = .ok (.aaload, 1)) (ha : hs.1 a = some (.inl (cA, n, .inr (.inr (.inr (.inr f)))))) (ht : (jty w)[t0]? = some (cA, .object Cn)) (hin : vp_in i n)
    (kk : V jcl w M d (pc + 1) L (va_rf (f i.toNatClampNeg) :: st) hs Q) : V jcl w M d pc L (.int i :: .ref a :: st) hs Q := fun p e R s m args below meth c H locs cells slots ls C h => by
  have hlt : i.toNatClampNeg < n := Nat.not_le.mp fun q => hin (Or.inr q)
  exact W.aald (v := va_rf (f i.toNatClampNeg)) (ty := .object Cn) C.1.1 C.1.2.1 (C.2.2.2.2.2.2.2.2 a _ ha).2 ((C.2.1.2.1.2 t0 _ ht).1 n (fun j => va_rf (f j))) rfl (fun q => by cases q) (by show ¬ (i < 0 ∨ (arrV _ _ _).slots.size ≤ _); rw [arrV_size]; exact hin) (by show (arrV _ _ _).slots[_]? = _; rw [arrV_read _ _ hlt]) rfl rfl hdg (kk p e R s m args below meth c H locs cells slots ls C h)
theorem V.iast {a t0 n : Nat} {cA : ClassId} {f : Nat → Int32} {i x : Int32} (hdg : decode M.2.2.1 pc = .ok (.iastore, 1)) (ha : hs.1 a = some (.inl (cA, n, .inl f))) (ht : (jty w)[t0]? = some (cA, .int)) (hin : vp_in i n)
    (kk : V jcl w M d (pc + 1) L st (hup hs.1 a (.inl (cA, n, .inl (upd f i.toNatClampNeg x))), hs.2) Q) : V jcl w M d pc L (.int x :: .int i :: .ref a :: st) hs Q := fun p e R s m args below meth c H locs cells slots ls C h => by
  obtain ⟨hBa, hat⟩ := C.2.2.2.2.2.2.2.2 a _ ha
  refine W.iast C.1.1 C.1.2.1 hat ((C.2.1.2.1.2 t0 _ ht).1 n (fun j => .int (f j))) (fun q => by cases q) (by show ¬ (i < 0 ∨ (arrV _ _ _).slots.size ≤ _); rw [arrV_size]; exact hin) rfl rfl hdg fun H1 e1 z oq => ?_
  refine kk p e R s m args below meth c H1 _ cells slots ls (C.put hBa z oq ?_) h
  show H1[a]? = some (vp_cell _ _)
  rw [e1]
  show some ((arrV cA n (fun j => Value.int (f j))).setSlot i.toNatClampNeg (.int x)) = some (arrV cA n (fun j => Value.int (upd f i.toNatClampNeg x j)))
  rw [arrV_store]
  congr 2
  funext q
  by_cases hq : q = i.toNatClampNeg
  · subst hq
    simp [updV, upd]
  · simp [updV, upd, hq]
theorem V.zast {a t0 n : Nat} {cA : ClassId} {f : Nat → Int32} {i x : Int32} (hdg : decode M.2.2.1 pc = .ok (.bastore, 1)) (ha : hs.1 a = some (.inl (cA, n, .inl f))) (ht : (jty w)[t0]? = some (cA, .boolean)) (hin : vp_in i n) (hx : narrow .boolean (.int x) = .int x)
    (kk : V jcl w M d (pc + 1) L st (hup hs.1 a (.inl (cA, n, .inl (upd f i.toNatClampNeg x))), hs.2) Q) : V jcl w M d pc L (.int x :: .int i :: .ref a :: st) hs Q := fun p e R s m args below meth c H locs cells slots ls C h => by
  obtain ⟨hBa, hat⟩ := C.2.2.2.2.2.2.2.2 a _ ha
  refine W.zast C.1.1 C.1.2.1 hat ((C.2.1.2.1.2 t0 _ ht).1 n (fun j => .int (f j))) (fun q => by cases q) (by show ¬ (i < 0 ∨ (arrV _ _ _).slots.size ≤ _); rw [arrV_size]; exact hin) rfl rfl hdg fun H1 e1 z oq => ?_
  refine kk p e R s m args below meth c H1 _ cells slots ls (C.put hBa z oq ?_) h
  show H1[a]? = some (vp_cell _ _)
  rw [e1, hx]
  show some ((arrV cA n (fun j => Value.int (f j))).setSlot i.toNatClampNeg (.int x)) = some (arrV cA n (fun j => Value.int (upd f i.toNatClampNeg x j)))
  rw [arrV_store]
  congr 2
  funext q
  by_cases hq : q = i.toNatClampNeg
  · subst hq
    simp [updV, upd]
  · simp [updV, upd, hq]
theorem V.last {a t0 n : Nat} {cA : ClassId} {f : Nat → Int64} {i : Int32} {x : Int64} (hdg : decode M.2.2.1 pc = .ok (.lastore, 1)) (ha : hs.1 a = some (.inl (cA, n, .inr (.inl f)))) (ht : (jty w)[t0]? = some (cA, .long)) (hin : vp_in i n)
    (kk : V jcl w M d (pc + 1) L st (hup hs.1 a (.inl (cA, n, .inr (.inl (vp_updL f i.toNatClampNeg x)))), hs.2) Q) : V jcl w M d pc L (.long x :: .int i :: .ref a :: st) hs Q := fun p e R s m args below meth c H locs cells slots ls C h => by
  obtain ⟨hBa, hat⟩ := C.2.2.2.2.2.2.2.2 a _ ha
  refine W.last C.1.1 C.1.2.1 hat ((C.2.1.2.1.2 t0 _ ht).1 n (fun j => .long (f j))) (fun q => by cases q) (by show ¬ (i < 0 ∨ (arrV _ _ _).slots.size ≤ _); rw [arrV_size]; exact hin) rfl rfl hdg fun H1 e1 z oq => ?_
  refine kk p e R s m args below meth c H1 _ cells slots ls (C.put hBa z oq ?_) h
  show H1[a]? = some (vp_cell _ _)
  rw [e1]
  show some ((arrV cA n (fun j => Value.long (f j))).setSlot i.toNatClampNeg (.long x)) = some (arrV cA n (fun j => Value.long (vp_updL f i.toNatClampNeg x j)))
  rw [arrV_store]
  congr 2
  funext q
  by_cases hq : q = i.toNatClampNeg
  · subst hq
    simp [updV, vp_updL]
  · simp [updV, vp_updL, hq]
theorem V.aast {a t0 n ci v : Nat} {cA : ClassId} {r : vw_C} {vs : List Value} {f : Nat → Option Nat} {i : Int32} (hdg : decode M.2.2.1 pc = .ok (.aastore, 1)) (ha : hs.1 a = some (.inl (cA, n, .inr (.inr (.inr (.inr f)))))) (ht : (jty w)[t0]? = some (cA, .object r.1)) (hv : hs.1 v = some (.inr (ci, vs))) (hc : jcl[ci]? = some r) (hin : vp_in i n)
    (kk : V jcl w M d (pc + 1) L st (hup hs.1 a (.inl (cA, n, .inr (.inr (.inr (.inr (va_up f i.toNatClampNeg (some v))))))), hs.2) Q) : V jcl w M d pc L (.ref v :: .int i :: .ref a :: st) hs Q := fun p e R s m args below meth c H locs cells slots ls C h => by
  obtain ⟨hBa, hat⟩ := C.2.2.2.2.2.2.2.2 a _ ha
  have hK := C.2.1.2.1
  have hlt : i.toNatClampNeg < n := Nat.not_le.mp fun q => hin (Or.inr q)
  have h0 : ¬ i < 0 := fun q => hin (Or.inl q)
  obtain ⟨-, r', hr', cellV, g1, g2, g3, -⟩ := C.2.2.2.2.2.2.2.2 v _ hv
  have hcls := (hK.1 ci r hc).2
  obtain ⟨kA, comp, k1, k2, k3, -⟩ := (hK.2 t0 _ ht).2
  have hcomp : comp = (jD w).1 ci := Option.some.inj (k3.symm.trans hcls.1)
  subst hcomp
  obtain ⟨kC, hkC, -⟩ := hcls.2
  refine W.aast C.1.1 C.1.2.1 hat (fun q h => by cases h) (fun h => by cases h) k1 k2 rfl hkC ⟨h0, by show _ < (arrV _ _ _).slots.size; rw [arrV_size]; exact hlt⟩ g1 (fun q h => by rw [g3] at h; cases h) (by rw [g2]; exact hkC) (by rw [g2]; exact va_assign hcls) rfl rfl hdg fun H1 e1 z oq => ?_
  refine kk p e R s m args below meth c H1 _ cells slots ls (C.put hBa z oq ?_) h
  show H1[a]? = some (vp_cell _ _)
  rw [e1]
  rw [vp_cell_q, vp_cell_q, arrV_store]
  congr 2
  funext q
  by_cases hq : q = i.toNatClampNeg
  · subst hq
    simp [updV, va_up, va_rf]
  · simp [updV, va_up, hq]
theorem V.newa {atype : ArrayType} {ty : FieldType} {t0 : Nat} {cA : ClassId} {n : Int32} {N : Nat} {a0 : vp_A} (hdg : decode M.2.2.1 pc = .ok (.newarray atype, 2)) (hty : newarray.typeOf atype = ty) (hw : Cond.arrayClass ty ∈ lw_tbl) (ht : (jty w)[t0]? = some (cA, ty)) (ha : vp_cell cA a0 = arrV cA N (fun _ => defaultValue ty)) (hn : ¬ n < 0) (hN : n.toNatClampNeg = N) (hbytes : N * componentBytes ty ≤ 536870912)
    (hc1 : 1 ≤ hs.2.1) (hs1 : N ≤ hs.2.2)
    (kk : ∀ q : Nat, hs.1 q = none → V jcl w M d (pc + 2) L (.ref q :: st) (hup hs.1 q (.inl (cA, a0)), hs.2.1 - 1, hs.2.2 - N) Q) : V jcl w M d pc L (.int n :: st) hs Q := fun p e R s m args below meth c H locs cells slots ls C h => by
  subst hty
  obtain ⟨c1, c2, c3, c4, c5, c6, c7, c8, c9⟩ := id C
  refine va_newaK C.1.1 C.1.2.1 (c2.w jcl hw rfl) rfl hdg rfl hn hN hbytes (by omega) (by omega) rfl fun H' cA' e1 z1 o1 hA hf => ?_
  have hcA : cA' = cA := Option.some.inj (hf.symm.trans (c2.2.2.2.2.2 t0 _ ht))
  subst hcA
  refine kk H.size c9.fresh p e R s m args below meth c H' locs (cells + 1) (slots + N) ls (C.new hc1 hs1 z1 o1 ?_) h
  show H'[H.size]? = some (vp_cell _ _)
  rw [e1, ha]
theorem V.anew {idx t0 : Nat} {cA : ClassId} {Cn : String} {n : Int32} {N : Nat} (hdg : decode M.2.2.1 pc = .ok (.anewarray idx, 3)) (w1 : Cond.classLink M.1 idx Cn ∈ lw_tbl) (w2 : Cond.arrayOver (.object Cn) ∈ lw_tbl) (ht : (jty w)[t0]? = some (cA, .object Cn)) (hn : ¬ n < 0) (hN : n.toNatClampNeg = N) (hbytes : N * 4 ≤ 536870912)
    (hc1 : 1 ≤ hs.2.1) (hs1 : N ≤ hs.2.2)
    (kk : ∀ q : Nat, hs.1 q = none → V jcl w M d (pc + 3) L (.ref q :: st) (hup hs.1 q (.inl (cA, N, .inr (.inr (.inr (.inr (fun _ => none)))))), hs.2.1 - 1, hs.2.2 - N) Q) : V jcl w M d pc L (.int n :: st) hs Q := fun p e R s m args below meth c H locs cells slots ls C h => by
  subst hN
  obtain ⟨c1, c2, c3, c4, c5, c6, c7, c8, c9⟩ := id C
  refine W.anew C.1.1 C.1.2.1 C.1.2.2.2.2.2.2.1 (c2.w jcl w1 rfl) (va_AO.use (c2.2.2.2.1 Cn w2)) rfl hdg rfl hn hbytes (by omega) (by omega) fun cA' kA comp f1 f2 f3 f4 => ?_
  have hcA : cA' = cA := Option.some.inj (f1.symm.trans (c2.2.2.2.2.2 t0 _ ht))
  subst hcA
  refine kk H.size c9.fresh p e R s m args below meth c _ locs (cells + 1) (slots + n.toNatClampNeg) ls (C.new hc1 hs1 (by rw [Array.size_push]) (fun q hq => by rw [Array.getElem?_push, if_neg (Nat.ne_of_lt hq)]) ?_) h
  show (H.push _)[H.size]? = some (vp_cell _ _)
  rw [vp_cell_q, Array.getElem?_push_size, ← arrV_new]
  rfl
theorem V.sld {i : Int32} (hdg : decode M.2.2.1 pc = .ok (.iaload, 1)) (hin : vp_in i (jL w)) (kk : V jcl w M d (pc + 1) L (.int (jxs w i.toNatClampNeg) :: st) hs Q) : V jcl w M d pc L (.int i :: .ref (jb w) :: st) hs Q := fun p e R s m args below meth c H locs cells slots ls C h => by
  obtain ⟨c1, c2, c3, c4, c5, c6, c7, c8, c9⟩ := id C
  exact va_sld C.1.1 C.1.2.1 c8.2.2.2.1 (Nat.lt_of_lt_of_le c8.2.2.1 c8.2.1) (Nat.not_le.mpr c8.2.2.1) c8.1 hin hdg (kk p e R s m args below meth c H locs cells slots ls C h)
theorem V.slen (hdg : decode M.2.2.1 pc = .ok (.arraylength, 1)) (kk : V jcl w M d (pc + 1) L (.int (Int32.ofNat (jL w)) :: st) hs Q) : V jcl w M d pc L (.ref (jb w) :: st) hs Q := fun p e R s m args below meth c H locs cells slots ls C h => by
  obtain ⟨c1, c2, c3, c4, c5, c6, c7, c8, c9⟩ := id C
  exact va_slen C.1.1 C.1.2.1 c8.2.2.2.1 (Nat.lt_of_lt_of_le c8.2.2.1 c8.2.1) (Nat.not_le.mpr c8.2.2.1) c8.1 hdg (kk p e R s m args below meth c H locs cells slots ls C h)
end JV2
