/-! agreement: a new job; a job is FINISHED -/
section AJ
variable {S T C D : js}
theorem zp_23 {j x v : Int} : z_putReady (up S 23 j v) j x = z_putReady S j x := by
  funext f i
  simp only [z_putReady, up]
  by_cases h : f = 23 ∧ i = j
  · simp [h]
  · simp [h]
theorem zp_26 {j x v : Int} : z_putReady (up S 26 j v) j x = z_putReady S j x := by
  funext f i
  simp only [z_putReady, up]
  by_cases h : f = 26 ∧ i = j
  · simp [h]
  · simp [h]
theorem zp_29 {j x v : Int} : z_putReady (up S 29 j v) j x = z_putReady S j x := by
  funext f i
  simp only [z_putReady, up]
  by_cases h : f = 29 ∧ i = j
  · simp [h]
  · simp [h]
/-- the reference's new job, not yet in the row -/
def z_new (S : js) (pr p s : Int) : js := up (up (up (z_pushFrame (up (z_slots (z_begin0 S p s) (S 1 0)) 21 (S 1 0) 0) (S 1 0) pr 0 0 (-1)) 23 (S 1 0) (-1)) 26 (S 1 0) 0) 29 (S 1 0) (-1)
theorem z_new_b {pr p s : Int} : z_putReady (z_new S pr p s) (S 1 0) (-1) = z_begin S pr p s := by
  unfold z_new z_begin
  rw [zp_29, zp_26, zp_23]
theorem z_new_e {pr p s : Int} : (∀ f i, f ≠ 1 → f ≠ 16 → f ≠ 17 → f ≠ 19 → f ≠ 21 → f ≠ 22 → f ≠ 23 → f ≠ 26 → f ≠ 29 → f ≠ 31 → f ≠ 33 → f ≠ 34 → f ≠ 35 → f ≠ 36 → f ≠ 37 → z_new S pr p s f i = S f i) ∧ (∀ i, z_new S pr p s 16 i = if i = S 1 0 then p else S 16 i) ∧ (∀ i, z_new S pr p s 17 i = if i = S 1 0 then s else S 17 i) ∧ (∀ i, z_new S pr p s 19 i = if i = S 1 0 then -1 else S 19 i) ∧ (∀ i, z_new S pr p s 21 i = if i = S 1 0 then 1 else S 21 i) ∧ (∀ i, z_new S pr p s 23 i = if i = S 1 0 then -1 else S 23 i) ∧ (∀ i, z_new S pr p s 26 i = if i = S 1 0 then 0 else S 26 i) ∧ (∀ i, z_new S pr p s 29 i = if i = S 1 0 then -1 else S 29 i) ∧ (∀ i, z_new S pr p s 31 i = if i = S 1 0 then -1 else S 31 i) := by
  unfold z_new z_pushFrame z_slots z_begin0
  refine ⟨fun f i z1 z2 z3 z4 z5 z6 z7 z8 z9 z10 z11 z12 z13 z14 z15 => ?_, fun i => ?_, fun i => ?_, fun i => ?_, fun i => ?_, fun i => ?_, fun i => ?_, fun i => ?_, fun i => ?_⟩ <;> simp_all [up]
theorem z_new_f {pr p s : Int} : z_new S pr p s 1 0 = S 1 0 + 1 ∧ (∀ i, i ≠ 0 → z_new S pr p s 1 i = S 1 i) ∧ (∀ i, z_new S pr p s 22 i = if S 1 0 * 3 ≤ i ∧ i < S 1 0 * 3 + 3 then -1 else S 22 i) ∧ (∀ i, z_new S pr p s 33 i = if i = S 1 0 * 6 then pr else S 33 i) ∧ (∀ i, z_new S pr p s 34 i = if i = S 1 0 * 6 then 0 else S 34 i) ∧ (∀ i, z_new S pr p s 35 i = if i = S 1 0 * 6 then 0 else S 35 i) ∧ (∀ i, z_new S pr p s 36 i = if i = S 1 0 * 6 then 0 else S 36 i) ∧ (∀ i, z_new S pr p s 37 i = if i = S 1 0 * 6 then -1 else S 37 i) := by
  unfold z_new z_pushFrame z_slots z_begin0
  refine ⟨?_, fun i hi => ?_, fun i => ?_, fun i => ?_, fun i => ?_, fun i => ?_, fun i => ?_, fun i => ?_⟩
  · simp [up]
  · simp [up, hi]
  · simp only [up]
    simp
    by_cases h : S 1 0 * 3 ≤ i ∧ i < S 1 0 * 3 + 3
    · rw [if_pos h]
      by_cases h2 : i = S 1 0 * 3 + 2
      · simp [h2]
      · by_cases h1 : i = S 1 0 * 3 + 1
        · simp [h1]
        · have h0 : i = S 1 0 * 3 := by omega
          simp [h0]
    · rw [if_neg h, if_neg (by omega), if_neg (by omega), if_neg (by omega)]
  all_goals simp [up]
/-- the class's new job, not yet in the row, nor counted at its parent -/
def c_new (C : js) (pr p s : Int) : js := fun f i =>
  if f = 1 ∧ i = 0 then C 1 0 + 1
  else if f = 22 ∧ C 1 0 * 3 ≤ i ∧ i < C 1 0 * 3 + 3 then -1
  else if (f = 33 ∨ f = 36) ∧ C 1 0 * 6 ≤ i ∧ i < C 1 0 * 6 + 6 then pr
  else if (f = 34 ∨ f = 35) ∧ C 1 0 * 6 ≤ i ∧ i < C 1 0 * 6 + 6 then 0
  else if f = 37 ∧ C 1 0 * 6 ≤ i ∧ i < C 1 0 * 6 + 6 then -1
  else if i = C 1 0 then (if f = 16 then p else if f = 17 then s else if f = 19 ∨ f = 23 ∨ f = 50 ∨ f = 51 then -1 else if f = 21 then 1 else if f = 52 ∨ f = 54 then 2147483647 else if f = 18 ∨ f = 20 ∨ f = 25 ∨ f = 53 ∨ f = 55 ∨ f = 56 then 0 else C f i)
  else C f i
theorem c_new_o {pr p s : Int} {f : Nat} {i : Int} (h1 : f ≠ 1) (h2 : ¬ (f = 22 ∧ C 1 0 * 3 ≤ i ∧ i < C 1 0 * 3 + 3)) (h3 : ¬ ((33 ≤ f ∧ f ≤ 37) ∧ C 1 0 * 6 ≤ i ∧ i < C 1 0 * 6 + 6)) (h4 : i ≠ C 1 0) : c_new C pr p s f i = C f i := by
  unfold c_new
  rw [if_neg (by omega), if_neg h2, if_neg (by omega), if_neg (by omega), if_neg (by omega), if_neg h4]
theorem c_new_p {pr p s : Int} {f : Nat} {i : Int} (h1 : f ≠ 1) (h2 : f ≠ 22) (h3 : ¬ (33 ≤ f ∧ f ≤ 37)) (h4 : f ≠ 16 ∧ f ≠ 17 ∧ f ≠ 18 ∧ f ≠ 19 ∧ f ≠ 20 ∧ f ≠ 21 ∧ f ≠ 23 ∧ f ≠ 25) (h5 : ¬ (50 ≤ f ∧ f ≤ 56)) : c_new C pr p s f i = C f i := by
  unfold c_new
  rw [if_neg (by omega), if_neg (by omega), if_neg (by omega), if_neg (by omega), if_neg (by omega)]
  split
  · rw [if_neg (by omega), if_neg (by omega), if_neg (by omega), if_neg (by omega), if_neg (by omega), if_neg (by omega)]
  · rfl
theorem c_new_j {pr p s : Int} {f : Nat} {i : Int} (h1 : f ≠ 1) (h2 : f ≠ 22) (h3 : ¬ (33 ≤ f ∧ f ≤ 37)) : c_new C pr p s f i = if i = C 1 0 then (if f = 16 then p else if f = 17 then s else if f = 19 ∨ f = 23 ∨ f = 50 ∨ f = 51 then -1 else if f = 21 then 1 else if f = 52 ∨ f = 54 then 2147483647 else if f = 18 ∨ f = 20 ∨ f = 25 ∨ f = 53 ∨ f = 55 ∨ f = 56 then 0 else C f i) else C f i := by
  unfold c_new
  rw [if_neg (by omega), if_neg (by omega), if_neg (by omega), if_neg (by omega), if_neg (by omega)]
/-- how many: no one -/
theorem z_cn_0 {j : Int} : ∀ (n : Nat) (k : Int), (∀ i, k ≤ i → i < S 1 0 → ¬ (S 16 i = j ∧ S 25 i = 0)) → z_cn S j n k = 0
  | 0, k, _ => rfl
  | n + 1, k, h => by
    rw [z_cn]
    split
    · rename_i hk
      rw [if_neg (h k (Int.le_refl _) hk), z_cn_0 n (k + 1) (fun i z1 z2 => h i (by omega) z2)]
      omega
    · rfl
theorem z_cn_nn {j : Int} : ∀ (n : Nat) (k : Int), 0 ≤ z_cn S j n k ∧ z_cn S j n k ≤ n
  | 0, k => ⟨Int.le_refl _, Int.le_refl _⟩
  | n + 1, k => by
    have := z_cn_nn (j := j) n (k + 1)
    rw [z_cn]
    split
    · split <;> omega
    · omega
theorem z_cn_pos {j i : Int} (hi : i < S 1 0) (hc : S 16 i = j ∧ S 25 i = 0) : ∀ (n : Nat) (k : Int), k ≤ i → i < k + n → 0 < z_cn S j n k
  | 0, k, h1, h2 => by omega
  | n + 1, k, h1, h2 => by
    have h3 := z_cn_nn (S := S) (j := j) n (k + 1)
    rw [z_cn, if_pos (by omega)]
    by_cases hk : k = i
    · rw [if_pos (by rw [hk]; exact hc)]; omega
    · have := z_cn_pos hi hc n (k + 1) (by omega) (by omega)
      split <;> omega
theorem z_open_nc {j : Int} (hJ : S 1 0 ≤ 24) : z_open S j = 0 ↔ z_nextChild S j 25 0 < 0 := by
  rcases zNC (S := S) (j := j) 24 0 hJ (by omega) with ⟨e1, e2⟩ | ⟨e1, e2, e3, e4, e5⟩
  · rw [e1]
    exact ⟨fun _ => by omega, fun _ => z_cn_0 25 0 e2⟩
  · have := z_cn_pos e2 ⟨e3, e4⟩ 25 0 e1 (by omega)
    have e1' : 0 ≤ z_nextChild S j 25 0 := e1
    unfold z_open
    omega
/-- one job more -/
theorem z_cn_new {j : Int} (e1 : T 1 0 = S 1 0 + 1) (e : ∀ i, i ≠ S 1 0 → T 16 i = S 16 i ∧ T 25 i = S 25 i) (h0 : T 25 (S 1 0) = 0) : ∀ (n : Nat) (k : Int), k ≤ S 1 0 → S 1 0 < k + n → z_cn T j n k = z_cn S j n k + (if T 16 (S 1 0) = j then 1 else 0)
  | 0, k, h1, h2 => by omega
  | n + 1, k, h1, h2 => by
    rw [z_cn, z_cn, if_pos (by omega)]
    by_cases hk : k = S 1 0
    · rw [if_neg (c := k < S 1 0) (by omega), z_cn_0 n (k + 1) (fun i z1 z2 => by omega), hk, h0]
      simp
    · rw [if_pos (c := k < S 1 0) (by omega), z_cn_new e1 e h0 n (k + 1) (by omega) (by omega), (e k hk).1, (e k hk).2]
      omega
theorem zcF_0 : ∀ (n : Nat) (k : Int), S 1 0 ≤ k → zcF S n k = 0
  | 0, k, _ => rfl
  | n + 1, k, h => by rw [zcF, if_neg (by omega)]
theorem zcF_nn : ∀ (n : Nat) (k : Int), 0 ≤ zcF S n k ∧ zcF S n k ≤ n
  | 0, k => ⟨Int.le_refl _, Int.le_refl _⟩
  | n + 1, k => by
    have := zcF_nn n (k + 1)
    rw [zcF]
    split
    · split <;> omega
    · omega
theorem zcF_new (e1 : T 1 0 = S 1 0 + 1) (e : ∀ i, i ≠ S 1 0 → T 25 i = S 25 i) (h0 : T 25 (S 1 0) = 0) : ∀ (n : Nat) (k : Int), k ≤ S 1 0 → zcF T n k = zcF S n k
  | 0, k, _ => rfl
  | n + 1, k, h1 => by
    rw [zcF, zcF, if_pos (by omega)]
    by_cases hk : k = S 1 0
    · rw [if_neg (c := k < S 1 0) (by omega), zcF_0 n (k + 1) (by omega), hk, h0]
      simp
    · rw [if_pos (c := k < S 1 0) (by omega), zcF_new e1 e h0 n (k + 1) (by omega), e k hk]
/-- the class's begin -/
def c_nw (C : js) (pr p s : Int) : js := if 0 ≤ p then up (c_new C pr p s) 56 p (C 56 p + 1) else c_new C pr p s
def c_begin (C : js) (pr p s : Int) : js := c_ready (c_nw C pr p s) (C 1 0) (-1)
theorem Ag.nw (h : Ag C S) (hI : Iv S) {pr p s : Int} (hp : -1 ≤ p ∧ p < S 1 0) (hJ : S 1 0 < 24) : Ag (c_nw C pr p s) (z_new S pr p s) := by
  obtain ⟨eo, e16, e17, e19, e21, e23, e26, e29, e31⟩ := z_new_e (S := S) (pr := pr) (p := p) (s := s)
  obtain ⟨e1, e1', e22, e33, e34, e35, e36, e37⟩ := z_new_f (S := S) (pr := pr) (p := p) (s := s)
  have hC1 : C 1 0 = S 1 0 := h.a1 1 0 (by unfold cm; omega)
  have a2 := h.a2 (S 1 0) (Int.le_refl _)
  have hJ0 := hI.J
  have c0 : ∀ f i, f ≠ 56 → c_nw C pr p s f i = c_new C pr p s f i := fun f i z => by
    unfold c_nw
    split
    · exact up_f z
    · rfl
  have c56 : ∀ i, c_nw C pr p s 56 i = if i = C 1 0 then 0 else if i = p ∧ 0 ≤ p then C 56 i + 1 else C 56 i := fun i => by
    have q : c_new C pr p s 56 i = if i = C 1 0 then 0 else C 56 i := by
      rw [c_new_j (by omega) (by omega) (by omega)]
      simp
    unfold c_nw
    by_cases hp0 : 0 ≤ p
    · rw [if_pos hp0]
      by_cases hi : i = p
      · subst hi
        rw [up_s, if_neg (by omega), if_pos ⟨rfl, hp0⟩]
      · rw [up_i hi, q, if_neg (c := i = p ∧ 0 ≤ p) (fun z => hi z.1)]
    · rw [if_neg hp0, q, if_neg (c := i = p ∧ 0 ≤ p) (fun z => hp0 z.2)]
  refine ⟨fun f i hf => ?_, fun i hi => ?_, fun j z1 z2 => ?_, ⟨fun j z1 z2 => ?_, ?_⟩, fun k f z1 z2 z3 z4 => ?_, ?_, ⟨?_, fun l j hl z1 z2 => ?_, fun l j l' j' hl hl' z1 z2 z3 z4 r1 r2 => ?_⟩⟩
  · have h1 := h.a1 f i hf
    unfold cm at hf
    rw [c0 f i (by omega)]
    by_cases hf1 : f = 1
    · subst hf1
      by_cases hi : i = 0
      · subst hi
        rw [e1]
        unfold c_new
        rw [if_pos ⟨rfl, rfl⟩, hC1]
      · rw [e1' i hi, ← h1]
        unfold c_new
        rw [if_neg (by omega), if_neg (by omega), if_neg (by omega), if_neg (by omega), if_neg (by omega)]
        simp
    · by_cases hf22 : f = 22
      · subst hf22
        rw [e22]
        unfold c_new
        rw [hC1, if_neg (by omega)]
        by_cases hi : S 1 0 * 3 ≤ i ∧ i < S 1 0 * 3 + 3
        · rw [if_pos ⟨rfl, hi⟩, if_pos hi]
        · rw [if_neg (fun z => hi z.2), if_neg hi, ← h1]
          simp
      · rw [c_new_j hf1 hf22 (by omega), hC1, h1]
        have hcs : f = 16 ∨ f = 17 ∨ f = 18 ∨ f = 19 ∨ f = 20 ∨ f = 21 ∨ f = 23 ∨ f = 25 ∨ (f ≠ 16 ∧ f ≠ 17 ∧ f ≠ 18 ∧ f ≠ 19 ∧ f ≠ 20 ∧ f ≠ 21 ∧ f ≠ 23 ∧ f ≠ 25) := by omega
        rcases hcs with rfl | rfl | rfl | rfl | rfl | rfl | rfl | rfl | hcs
        · rw [e16]; simp
        · rw [e17]; simp
        · rw [eo 18 i (by omega) (by omega) (by omega) (by omega) (by omega) (by omega) (by omega) (by omega) (by omega) (by omega) (by omega) (by omega) (by omega) (by omega) (by omega)]
          split
          · rename_i hi; rw [hi, a2.1]; simp
          · rfl
        · rw [e19]; simp
        · rw [eo 20 i (by omega) (by omega) (by omega) (by omega) (by omega) (by omega) (by omega) (by omega) (by omega) (by omega) (by omega) (by omega) (by omega) (by omega) (by omega)]
          split
          · rename_i hi; rw [hi, a2.2.1]; simp
          · rfl
        · rw [e21]; simp
        · rw [e23]; simp
        · rw [eo 25 i (by omega) (by omega) (by omega) (by omega) (by omega) (by omega) (by omega) (by omega) (by omega) (by omega) (by omega) (by omega) (by omega) (by omega) (by omega)]
          split
          · rename_i hi; rw [hi, a2.2.2.2.1]; simp
          · rfl
        · rw [eo f i (by omega) (by omega) (by omega) (by omega) (by omega) (by omega) (by omega) (by omega) (by omega) (by omega) (by omega) (by omega) (by omega) (by omega) (by omega)]
          rw [if_neg (c := f = 16) (by omega), if_neg (c := f = 17) (by omega), if_neg (c := f = 19 ∨ f = 23 ∨ f = 50 ∨ f = 51) (by omega), if_neg (c := f = 21) (by omega), if_neg (c := f = 52 ∨ f = 54) (by omega), if_neg (c := f = 18 ∨ f = 20 ∨ f = 25 ∨ f = 53 ∨ f = 55 ∨ f = 56) (by omega)]
          simp
  · rw [e1] at hi
    have := h.a2 i (by omega)
    rw [eo 18 i (by omega) (by omega) (by omega) (by omega) (by omega) (by omega) (by omega) (by omega) (by omega) (by omega) (by omega) (by omega) (by omega) (by omega) (by omega), eo 20 i (by omega) (by omega) (by omega) (by omega) (by omega) (by omega) (by omega) (by omega) (by omega) (by omega) (by omega) (by omega) (by omega) (by omega) (by omega), eo 24 i (by omega) (by omega) (by omega) (by omega) (by omega) (by omega) (by omega) (by omega) (by omega) (by omega) (by omega) (by omega) (by omega) (by omega) (by omega), eo 25 i (by omega) (by omega) (by omega) (by omega) (by omega) (by omega) (by omega) (by omega) (by omega) (by omega) (by omega) (by omega) (by omega) (by omega) (by omega), eo 27 i (by omega) (by omega) (by omega) (by omega) (by omega) (by omega) (by omega) (by omega) (by omega) (by omega) (by omega) (by omega) (by omega) (by omega) (by omega)]
    exact this
  · rw [e1] at z2
    unfold AW
    rw [e26, e29, e31, eo 25 j (by omega) (by omega) (by omega) (by omega) (by omega) (by omega) (by omega) (by omega) (by omega) (by omega) (by omega) (by omega) (by omega) (by omega) (by omega), eo 27 j (by omega) (by omega) (by omega) (by omega) (by omega) (by omega) (by omega) (by omega) (by omega) (by omega) (by omega) (by omega) (by omega) (by omega) (by omega), c0 50 j (by omega), c0 51 j (by omega), c0 52 j (by omega), c0 54 j (by omega), c_new_j (f := 50) (by omega) (by omega) (by omega), c_new_j (f := 51) (by omega) (by omega) (by omega), c_new_j (f := 52) (by omega) (by omega) (by omega), c_new_j (f := 54) (by omega) (by omega) (by omega), hC1]
    by_cases hj : j = S 1 0
    · simp [hj]
    · simp only [if_neg hj]
      exact h.a3 j z1 (by omega)
  · rw [e1] at z2
    rw [c56, hC1]
    have hn := z_cn_new (S := S) (T := z_new S pr p s) (j := j) e1 (fun i hi => ⟨by rw [e16, if_neg hi], eo 25 i (by omega) (by omega) (by omega) (by omega) (by omega) (by omega) (by omega) (by omega) (by omega) (by omega) (by omega) (by omega) (by omega) (by omega) (by omega)⟩) (by rw [eo 25 _ (by omega) (by omega) (by omega) (by omega) (by omega) (by omega) (by omega) (by omega) (by omega) (by omega) (by omega) (by omega) (by omega) (by omega) (by omega)]; exact a2.2.2.2.1) 25 0 hJ0.1 (by omega)
    rw [e16, if_pos rfl] at hn
    unfold z_open
    rw [hn]
    by_cases hj : j = S 1 0
    · rw [if_pos hj, if_neg (by omega), z_cn_0 25 0 (fun i y1 y2 => by have := (hI.gd.2.1 i y1 y2).1; omega)]
      omega
    · rw [if_neg hj]
      have h3 := h.a3o.1 j z1 (by omega)
      unfold z_open at h3
      by_cases hjp : j = p
      · rw [if_pos ⟨hjp, by omega⟩, if_pos hjp.symm, h3]
      · rw [if_neg (fun z => hjp z.1), if_neg (fun z => hjp z.symm), h3]
        omega
  · rw [c0 57 0 (by omega), c_new_p (by omega) (by omega) (by omega) (by omega) (by omega), h.a3o.2]
    exact (zcF_new (S := S) (T := z_new S pr p s) e1 (fun i hi => eo 25 i (by omega) (by omega) (by omega) (by omega) (by omega) (by omega) (by omega) (by omega) (by omega) (by omega) (by omega) (by omega) (by omega) (by omega) (by omega)) (by rw [eo 25 _ (by omega) (by omega) (by omega) (by omega) (by omega) (by omega) (by omega) (by omega) (by omega) (by omega) (by omega) (by omega) (by omega) (by omega) (by omega)]; exact a2.2.2.2.1) 25 0 hJ0.1).symm
  · rw [e1] at z2
    rw [e21] at z4
    unfold AF
    rw [e33, e34, e35, e36, e37, c0 33 f (by omega), c0 34 f (by omega), c0 35 f (by omega), c0 36 f (by omega), c0 37 f (by omega)]
    by_cases hk : k = S 1 0
    · rw [if_pos hk] at z4
      have hf : f = S 1 0 * 6 := by omega
      have hb : C 1 0 * 6 ≤ f ∧ f < C 1 0 * 6 + 6 := by omega
      simp only [if_pos hf]
      unfold c_new
      simp [hb]
    · rw [if_neg hk] at z4
      have h6 := (hI.gd.2.1 k z1 (by omega)).2.2.2.1
      have hf : ¬ f = S 1 0 * 6 := by omega
      simp only [if_neg hf]
      have a := h.a4 k f z1 (by omega) z3 z4
      unfold AF at a
      have hq : ¬ (C 1 0 * 6 ≤ f ∧ f < C 1 0 * 6 + 6) := by omega
      have w : ∀ x, (x = 33 ∨ x = 34 ∨ x = 35 ∨ x = 36 ∨ x = 37) → c_new C pr p s x f = C x f := fun x hx => by
        unfold c_new
        rw [if_neg (by omega), if_neg (by omega), if_neg (fun z => hq z.2), if_neg (fun z => hq z.2), if_neg (fun z => hq z.2)]
        rw [if_neg (c := x = 16) (by omega), if_neg (c := x = 17) (by omega), if_neg (c := x = 19 ∨ x = 23 ∨ x = 50 ∨ x = 51) (by omega), if_neg (c := x = 21) (by omega), if_neg (c := x = 52 ∨ x = 54) (by omega), if_neg (c := x = 18 ∨ x = 20 ∨ x = 25 ∨ x = 53 ∨ x = 55 ∨ x = 56) (by omega)]
        simp
      rw [w 33 (by omega), w 34 (by omega), w 35 (by omega), w 36 (by omega), w 37 (by omega)]
      exact a
  · exact h.a5.cg (fun f i hf => eo f i (by omega) (by omega) (by omega) (by omega) (by omega) (by omega) (by omega) (by omega) (by omega) (by omega) (by omega) (by omega) (by omega) (by omega) (by omega)) (fun f i hf => by rw [c0 f i (by omega)]; exact c_new_p (by omega) (by omega) (by omega) (by omega) (by omega))
  · rw [c0 58 0 (by omega), c_new_p (by omega) (by omega) (by omega) (by omega) (by omega), eo 6 0 (by omega) (by omega) (by omega) (by omega) (by omega) (by omega) (by omega) (by omega) (by omega) (by omega) (by omega) (by omega) (by omega) (by omega) (by omega)]
    exact h.a7.1
  · rw [e1] at z2
    have h58 := h.a7.1
    unfold trn rnn
    rw [c0 58 0 (by omega), c_new_p (f := 58) (by omega) (by omega) (by omega) (by omega) (by omega), c0 53 j (by omega), c0 55 j (by omega), c_new_j (f := 53) (by omega) (by omega) (by omega), c_new_j (f := 55) (by omega) (by omega) (by omega), hC1, e29, e31, eo 25 j (by omega) (by omega) (by omega) (by omega) (by omega) (by omega) (by omega) (by omega) (by omega) (by omega) (by omega) (by omega) (by omega) (by omega) (by omega)]
    by_cases hj : j = S 1 0
    · simp [hj]
      rcases hl with rfl | rfl <;> (try simp) <;> omega
    · simp only [if_neg hj]
      exact h.a7.2.1 l j hl z1 (by omega)
  · rw [e1] at z2 z4
    have key : ∀ l j, (l = 0 ∨ l = 1) → rnn (z_new S pr p s) l j → j ≠ S 1 0 ∧ rnn S l j := by
      intro l j hl r
      unfold rnn at r ⊢
      rw [e29, e31, eo 25 j (by omega) (by omega) (by omega) (by omega) (by omega) (by omega) (by omega) (by omega) (by omega) (by omega) (by omega) (by omega) (by omega) (by omega) (by omega)] at r
      by_cases hj : j = S 1 0
      · exfalso
        rcases hl with rfl | rfl <;> simp [hj] at r
      · simp only [if_neg hj] at r
        exact ⟨hj, r⟩
    have k1 := key l j hl r1
    have k2 := key l' j' hl' r2
    have a := h.a7.2.2 l j l' j' hl hl' z1 (by omega) z3 (by omega) k1.2 k2.2
    have o53 : ∀ j, j ≠ S 1 0 → c_nw C pr p s 53 j = C 53 j := fun j hj => by rw [c0 53 j (by omega), c_new_j (by omega) (by omega) (by omega), hC1, if_neg hj]
    have o55 : ∀ j, j ≠ S 1 0 → c_nw C pr p s 55 j = C 55 j := fun j hj => by rw [c0 55 j (by omega), c_new_j (by omega) (by omega) (by omega), hC1, if_neg hj]
    unfold trn snc at a ⊢
    rw [o53 j k1.1, o53 j' k2.1, o55 j k1.1, o55 j' k2.1]
    simp only [eo 30 _ (show (30 : Nat) ≠ 1 by omega) (by omega) (by omega) (by omega) (by omega) (by omega) (by omega) (by omega) (by omega) (by omega) (by omega) (by omega) (by omega) (by omega) (by omega), eo 32 _ (show (32 : Nat) ≠ 1 by omega) (by omega) (by omega) (by omega) (by omega) (by omega) (by omega) (by omega) (by omega) (by omega) (by omega) (by omega) (by omega) (by omega) (by omega)]
    exact a
theorem Ag.begin (h : Ag C S) (hI : Iv S) {pr p s : Int} (hp : -1 ≤ p ∧ p < S 1 0) (hJ : S 1 0 < 24) (hq : 0 ≤ S 7 0 ∧ S 7 0 < 24) : Ag (c_begin C pr p s) (z_begin S pr p s) := by
  have hC1 : C 1 0 = S 1 0 := h.a1 1 0 (by unfold cm; omega)
  have := (h.nw hI (pr := pr) (p := p) (s := s) hp hJ).ready (j := S 1 0) (x := -1) (by rw [z_new_e.1 7 0 (by omega) (by omega) (by omega) (by omega) (by omega) (by omega) (by omega) (by omega) (by omega) (by omega) (by omega) (by omega) (by omega) (by omega) (by omega)]; exact hq)
  rw [z_new_b] at this
  unfold c_begin
  rw [hC1]
  exact this
end AJ
