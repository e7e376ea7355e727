/-! whole numbers: every int of the machine is 'ii e', e a whole number; sums need no bound, comparisons and places do -/
def ii (x : Int) : Int32 := Int32.ofInt x
abbrev jr (x : Int) : Prop := -2147483648 ≤ x ∧ x < 2147483648
theorem ii_add (a b : Int) : ii a + ii b = ii (a + b) := (Int32.ofInt_add a b).symm
theorem ii_sub (a b : Int) : ii a - ii b = ii (a - b) := (Int32.ofInt_sub a b).symm
theorem ii_mul (a b : Int) : ii a * ii b = ii (a * b) := (Int32.ofInt_mul a b).symm
theorem ii_toInt {a : Int} (h : jr a) : (ii a).toInt = a := Int32.toInt_ofInt_of_le (by have := h.1; omega) (by have := h.2; omega)
theorem ii_of (x : Int32) : x = ii x.toInt := by simp [ii]
theorem jr_of (x : Int32) : jr x.toInt := ⟨Int32.le_toInt x, Int32.toInt_lt x⟩
theorem ii_lt {a b : Int} (ha : jr a) (hb : jr b) : ii a < ii b ↔ a < b := by rw [Int32.lt_iff_toInt_lt, ii_toInt ha, ii_toInt hb]
theorem ii_le {a b : Int} (ha : jr a) (hb : jr b) : ii a ≤ ii b ↔ a ≤ b := by rw [Int32.le_iff_toInt_le, ii_toInt ha, ii_toInt hb]
theorem ii_eq {a b : Int} (ha : jr a) (hb : jr b) : ii a = ii b ↔ a = b := ⟨fun h => by rw [← ii_toInt ha, ← ii_toInt hb, h], fun h => by rw [h]⟩
theorem ii_clamp {n : Nat} (h : n < 2147483648) : (ii (n : Int)).toNatClampNeg = n := by
  have : ii (n : Int) = nI n := by simp [ii, nI, Int32.ofInt_eq_ofNat]
  rw [this]; exact nI_clamp (by omega)
theorem ii_in {i : Int} {n : Nat} (h0 : 0 ≤ i) (h : i < n) (hn : n < 2147483648) : vp_in (ii i) n := by
  have hj : jr i := ⟨by omega, by omega⟩
  exact vp_in_iff.mpr (by rw [ii_toInt hj]; exact ⟨h0, h⟩)
theorem ii_clampI {i : Int} (h0 : 0 ≤ i) (h : i < 2147483648) : ((ii i).toNatClampNeg : Int) = i := by
  obtain ⟨n, rfl⟩ := Int.eq_ofNat_of_zero_le h0
  rw [ii_clamp (by omega)]
section JI
variable {w : jw} {M : jm} {d pc : Nat} {L : List (Nat × Value)} {st : List Value} {hs : jh} {Q : jo → jh → Prop} {x y : Int}
theorem Vi.iconst {n : Int} (hdg : decode M.2.2.1 pc = .ok (.iconst n, 1)) (k : V jcl w M d (pc + 1) L (.int (ii n) :: st) hs Q) : V jcl w M d pc L st hs Q := V.iconst hdg rfl k
theorem Vi.bipush {n : Int} (hdg : decode M.2.2.1 pc = .ok (.bipush n, 2)) (hv : (Int8.ofInt n).toInt32 = ii n) (k : V jcl w M d (pc + 2) L (.int (ii n) :: st) hs Q) : V jcl w M d pc L st hs Q := V.bipush hdg hv k
theorem Vi.sipush {n : Int} (hdg : decode M.2.2.1 pc = .ok (.sipush n, 3)) (hv : (Int16.ofInt n).toInt32 = ii n) (k : V jcl w M d (pc + 3) L (.int (ii n) :: st) hs Q) : V jcl w M d pc L st hs Q := V.sipush hdg hv k
theorem Vi.iadd (hdg : decode M.2.2.1 pc = .ok (.iadd, 1)) (k : V jcl w M d (pc + 1) L (.int (ii (x + y)) :: st) hs Q) : V jcl w M d pc L (.int (ii y) :: .int (ii x) :: st) hs Q := V.iadd hdg (by rw [ii_add]; exact k)
theorem Vi.isub (hdg : decode M.2.2.1 pc = .ok (.isub, 1)) (k : V jcl w M d (pc + 1) L (.int (ii (x - y)) :: st) hs Q) : V jcl w M d pc L (.int (ii y) :: .int (ii x) :: st) hs Q := V.isub hdg (by rw [ii_sub]; exact k)
theorem Vi.imul (hdg : decode M.2.2.1 pc = .ok (.imul, 1)) (k : V jcl w M d (pc + 1) L (.int (ii (x * y)) :: st) hs Q) : V jcl w M d pc L (.int (ii y) :: .int (ii x) :: st) hs Q := V.imul hdg (by rw [ii_mul]; exact k)
theorem Vi.iinc {i : Nat} {n : Int} (hdg : decode M.2.2.1 pc = .ok (.iinc i n, 3)) (hl : lvg L i = some (.int (ii x))) (hn : i < M.2.2.2.1) (kk : V jcl w M d (pc + 3) (lvs L i (.int (ii (x + n)))) st hs Q) : V jcl w M d pc L st hs Q := V.iinc hdg hl (ii_add x n) hn kk
theorem Vi.if_eq {off : Int} {tgt : Nat} (hdg : decode M.2.2.1 pc = .ok (.ifCond .eq off, 3)) (ht : (pc : Int) + off = (tgt : Int)) (hx : jr x) (kt : x = 0 → V jcl w M d tgt L st hs Q) (kf : x ≠ 0 → V jcl w M d (pc + 3) L st hs Q) : V jcl w M d pc L (.int (ii x) :: st) hs Q :=
  V.if_eq hdg ht (fun h => kt ((ii_eq hx (by decide)).mp h)) (fun h => kf fun z => h (by rw [z]; rfl))
theorem Vi.if_ne {off : Int} {tgt : Nat} (hdg : decode M.2.2.1 pc = .ok (.ifCond .ne off, 3)) (ht : (pc : Int) + off = (tgt : Int)) (hx : jr x) (kt : x ≠ 0 → V jcl w M d tgt L st hs Q) (kf : x = 0 → V jcl w M d (pc + 3) L st hs Q) : V jcl w M d pc L (.int (ii x) :: st) hs Q :=
  V.if_ne hdg ht (fun h => kt fun z => h (by rw [z]; rfl)) (fun h => kf ((ii_eq hx (by decide)).mp h))
theorem Vi.if_lt {off : Int} {tgt : Nat} (hdg : decode M.2.2.1 pc = .ok (.ifCond .lt off, 3)) (ht : (pc : Int) + off = (tgt : Int)) (hx : jr x) (kt : x < 0 → V jcl w M d tgt L st hs Q) (kf : 0 ≤ x → V jcl w M d (pc + 3) L st hs Q) : V jcl w M d pc L (.int (ii x) :: st) hs Q :=
  V.if_lt hdg ht (fun h => kt ((ii_lt hx (by decide : jr 0)).mp h)) (fun h => kf (Int.not_lt.mp fun z => h ((ii_lt hx (by decide : jr 0)).mpr z)))
theorem Vi.if_ge {off : Int} {tgt : Nat} (hdg : decode M.2.2.1 pc = .ok (.ifCond .ge off, 3)) (ht : (pc : Int) + off = (tgt : Int)) (hx : jr x) (kt : 0 ≤ x → V jcl w M d tgt L st hs Q) (kf : x < 0 → V jcl w M d (pc + 3) L st hs Q) : V jcl w M d pc L (.int (ii x) :: st) hs Q :=
  V.if_ge hdg ht (fun h => kt ((ii_le (by decide : jr 0) hx).mp h)) (fun h => kf (Int.not_le.mp fun z => h ((ii_le (by decide : jr 0) hx).mpr z)))
theorem Vi.if_gt {off : Int} {tgt : Nat} (hdg : decode M.2.2.1 pc = .ok (.ifCond .gt off, 3)) (ht : (pc : Int) + off = (tgt : Int)) (hx : jr x) (kt : 0 < x → V jcl w M d tgt L st hs Q) (kf : x ≤ 0 → V jcl w M d (pc + 3) L st hs Q) : V jcl w M d pc L (.int (ii x) :: st) hs Q :=
  V.if_gt hdg ht (fun h => kt ((ii_lt (by decide : jr 0) hx).mp h)) (fun h => kf (Int.not_lt.mp fun z => h ((ii_lt (by decide : jr 0) hx).mpr z)))
theorem Vi.if_le {off : Int} {tgt : Nat} (hdg : decode M.2.2.1 pc = .ok (.ifCond .le off, 3)) (ht : (pc : Int) + off = (tgt : Int)) (hx : jr x) (kt : x ≤ 0 → V jcl w M d tgt L st hs Q) (kf : 0 < x → V jcl w M d (pc + 3) L st hs Q) : V jcl w M d pc L (.int (ii x) :: st) hs Q :=
  V.if_le hdg ht (fun h => kt ((ii_le hx (by decide : jr 0)).mp h)) (fun h => kf (Int.not_le.mp fun z => h ((ii_le hx (by decide : jr 0)).mpr z)))
theorem Vi.icmp_eq {off : Int} {tgt : Nat} (hdg : decode M.2.2.1 pc = .ok (.if_icmp .eq off, 3)) (ht : (pc : Int) + off = (tgt : Int)) (hx : jr x) (hy : jr y) (kt : x = y → V jcl w M d tgt L st hs Q) (kf : x ≠ y → V jcl w M d (pc + 3) L st hs Q) : V jcl w M d pc L (.int (ii y) :: .int (ii x) :: st) hs Q :=
  V.icmp_eq hdg ht (fun h => kt ((ii_eq hx hy).mp h)) (fun h => kf fun z => h ((ii_eq hx hy).mpr z))
theorem Vi.icmp_ne {off : Int} {tgt : Nat} (hdg : decode M.2.2.1 pc = .ok (.if_icmp .ne off, 3)) (ht : (pc : Int) + off = (tgt : Int)) (hx : jr x) (hy : jr y) (kt : x ≠ y → V jcl w M d tgt L st hs Q) (kf : x = y → V jcl w M d (pc + 3) L st hs Q) : V jcl w M d pc L (.int (ii y) :: .int (ii x) :: st) hs Q :=
  V.icmp_ne hdg ht (fun h => kt fun z => h ((ii_eq hx hy).mpr z)) (fun h => kf ((ii_eq hx hy).mp h))
theorem Vi.icmp_lt {off : Int} {tgt : Nat} (hdg : decode M.2.2.1 pc = .ok (.if_icmp .lt off, 3)) (ht : (pc : Int) + off = (tgt : Int)) (hx : jr x) (hy : jr y) (kt : x < y → V jcl w M d tgt L st hs Q) (kf : y ≤ x → V jcl w M d (pc + 3) L st hs Q) : V jcl w M d pc L (.int (ii y) :: .int (ii x) :: st) hs Q :=
  V.icmp_lt hdg ht (fun h => kt ((ii_lt hx hy).mp h)) (fun h => kf (Int.not_lt.mp fun z => h ((ii_lt hx hy).mpr z)))
theorem Vi.icmp_ge {off : Int} {tgt : Nat} (hdg : decode M.2.2.1 pc = .ok (.if_icmp .ge off, 3)) (ht : (pc : Int) + off = (tgt : Int)) (hx : jr x) (hy : jr y) (kt : y ≤ x → V jcl w M d tgt L st hs Q) (kf : x < y → V jcl w M d (pc + 3) L st hs Q) : V jcl w M d pc L (.int (ii y) :: .int (ii x) :: st) hs Q :=
  V.icmp_ge hdg ht (fun h => kt ((ii_le hy hx).mp h)) (fun h => kf (Int.not_le.mp fun z => h ((ii_le hy hx).mpr z)))
theorem Vi.icmp_gt {off : Int} {tgt : Nat} (hdg : decode M.2.2.1 pc = .ok (.if_icmp .gt off, 3)) (ht : (pc : Int) + off = (tgt : Int)) (hx : jr x) (hy : jr y) (kt : y < x → V jcl w M d tgt L st hs Q) (kf : x ≤ y → V jcl w M d (pc + 3) L st hs Q) : V jcl w M d pc L (.int (ii y) :: .int (ii x) :: st) hs Q :=
  V.icmp_gt hdg ht (fun h => kt ((ii_lt hy hx).mp h)) (fun h => kf (Int.not_lt.mp fun z => h ((ii_lt hy hx).mpr z)))
theorem Vi.icmp_le {off : Int} {tgt : Nat} (hdg : decode M.2.2.1 pc = .ok (.if_icmp .le off, 3)) (ht : (pc : Int) + off = (tgt : Int)) (hx : jr x) (hy : jr y) (kt : x ≤ y → V jcl w M d tgt L st hs Q) (kf : y < x → V jcl w M d (pc + 3) L st hs Q) : V jcl w M d pc L (.int (ii y) :: .int (ii x) :: st) hs Q :=
  V.icmp_le hdg ht (fun h => kt ((ii_le hx hy).mp h)) (fun h => kf (Int.not_le.mp fun z => h ((ii_le hx hy).mpr z)))
theorem Vi.ireturn (hdg : decode M.2.2.1 pc = .ok (.ireturn, 1)) (hr : M.2.2.2.2.1 = some .int) (hq : Q (.inl (some (.int (ii x)))) hs) : V jcl w M d pc L [.int (ii x)] hs Q := V.ireturn hdg hr rfl hq
theorem Vi.zreturn (hdg : decode M.2.2.1 pc = .ok (.ireturn, 1)) (hr : M.2.2.2.2.1 = some .boolean) (hx : x = 0 ∨ x = 1) (hq : Q (.inl (some (.int (ii x)))) hs) : V jcl w M d pc L [.int (ii x)] hs Q := V.ireturn hdg hr (by rcases hx with rfl | rfl <;> decide) hq
end JI
theorem V.lop {w : jw} {M : jm} {d pc : Nat} {L L' : List (Nat × Value)} {st : List Value} {hs : jh} {Q : jo → jh → Prop} (h : V jcl w M d pc L' st hs Q) (hl : jsub L L') : V jcl w M d pc L st hs Q := V.loc hl h
