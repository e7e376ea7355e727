/-! the law from its entry -/
section KR
variable {w : jw} {d : Nat} {hs hs0 : jh}
/-- the class's state at the start -/
def c0s : js := fun f _ => if f = 59 then -1 else 0
def idx0 (k : Nat) (i : Int) : Nat := if k = 1 then 0 else if k = 2 then 41 else if k = 3 then 42 else if k = 4 then 44 else if k = 5 then 43 else 4 * i.toNat + (k - 5)
def am0 (th : Nat) (ad : Nat → Nat) (k : Nat) (i : Int) : Nat := if k = 0 then th else ad (idx0 k i)
theorem Ag0 : Ag c0s z0 := by
  refine ⟨fun f i hf => ?_, fun i hi => ⟨rfl, rfl, rfl, rfl, rfl⟩, fun j z1 z2 => ?_, ⟨fun j z1 z2 => ?_, ?_⟩, fun k f z1 z2 => ?_, ⟨rfl, ⟨?_, ?_⟩, fun i z1 z2 => ?_⟩, ⟨⟨?_, ?_⟩, fun l j hl z1 z2 => ?_, fun l j l' j' hl hl' z1 z2 => ?_⟩⟩
  · unfold cm at hf
    unfold c0s z0
    rw [if_neg (by omega), if_neg (by omega)]
  · exact absurd z2 (by show ¬ j < 0; omega)
  · exact absurd z2 (by show ¬ j < 0; omega)
  · rfl
  · exact absurd z2 (by show ¬ k < 0; omega)
  · show (0 : Int) ≤ 0; omega
  · show (0 : Int) < 24; omega
  · exact absurd z2 (by show ¬ i < 0; omega)
  · show (0 : Int) ≤ 0; omega
  · show (0 : Int) ≤ 0; omega
  · exact absurd z2 (by show ¬ j < 0; omega)
  · exact absurd z2 (by show ¬ j < 0; omega)
theorem Rt0 {m : Int} (hm : m ≤ 2000000000) : Rt m z0 := by
  have n0 : ∀ k : Int, 0 ≤ k → ¬ k < z0 1 0 := fun k z1 => by show ¬ k < 0; omega
  have n7 : ∀ k : Int, 0 ≤ k → ¬ k < z0 7 0 := fun k z1 => by show ¬ k < 0; omega
  refine ⟨⟨⟨⟨by show (0 : Int) ≤ 0; omega, by show (0 : Int) ≤ 24; omega⟩, fun i z1 z2 => absurd z2 (n0 i z1), ⟨⟨by show (0 : Int) ≤ 0; omega, by show (0 : Int) ≤ 24; omega⟩, fun i z1 z2 => absurd z2 (n7 i z1), fun i k z1 z2 => absurd z2 (n7 i z1)⟩⟩, fun k z1 z2 => absurd z2 (n0 k z1), fun k f z1 z2 => absurd z2 (n0 k z1), fun k a z1 z2 => absurd z2 (n0 k z1), ⟨⟨by show (0 : Int) ≤ 0; omega, by show (0 : Int) ≤ 0; omega, by show (0 : Int) ≤ 0; omega⟩, fun k z1 z2 => absurd z2 (n0 k z1)⟩, ⟨fun i z1 z2 => absurd z2 (n7 i z1), fun k z1 z2 => absurd z2 (n0 k z1)⟩, ⟨fun p z1 z2 => ⟨by show (0 : Int) ≤ 0; omega, by show (0 : Int) ≤ 8; omega⟩, fun k z1 z2 => ⟨⟨by show (0 : Int) ≤ 0; omega, by show (0 : Int) ≤ 15; omega⟩, ⟨by show jr 0; decide, by show jr 0; decide⟩, ?_⟩⟩⟩, fun i z1 z2 => absurd z2 (n0 i z1), ?_⟩
  · show ¬ WR 0 0 0
    unfold WR
    omega
  · unfold Bd
    show (0 : Int) + m ≤ 2000000000 ∧ (0 : Int) + m ≤ 2000000000 ∧ (0 : Int) + m ≤ 2000000000
    omega
theorem cont0 {th : Nat} {ad : Nat → Nat} (h1 : hs.1 th = some (.inr (0, [.ref (ad 0), .ref (ad 41), .ref (ad 42), .ref (ad 44), .int 0, .int 0, .int 0, .int 0, .int 0, .int 0, .int 0]))) (h2 : ∀ i, i < 45 → hs.1 (ad i) = some (ctK w ad i)) : ∀ k i, vd (c0s 1 0) k i → hs.1 (am0 th ad k i) = some (cont w c0s (am0 th ad) k i) := by
  intro k i hv
  have hv : vd 0 k i := hv
  unfold vd at hv
  have hk : k = 0 ∨ k = 1 ∨ k = 2 ∨ k = 3 ∨ k = 4 ∨ k = 5 ∨ ((k = 6 ∨ k = 7 ∨ k = 8 ∨ k = 9) ∧ 0 ≤ i ∧ i < 10) := by omega
  rcases hk with rfl | rfl | rfl | rfl | rfl | rfl | ⟨hk, hi⟩
  · exact h1
  · rw [show am0 th ad 1 i = ad 0 from rfl, h2 0 (by omega)]
    simp only [ctK, ctJ, cont]
    simp
    congr 1
    funext n
    by_cases hn : n < 10
    · rw [if_pos hn, if_pos hn]
      have : am0 th ad 6 (n : Int) = ad (1 + 4 * n) := by
        unfold am0 idx0
        rw [if_neg (by omega), if_neg (by omega), if_neg (by omega), if_neg (by omega), if_neg (by omega), if_neg (by omega)]
        congr 1
        omega
      rw [this]
    · rw [if_neg hn, if_neg hn]
  · rw [show am0 th ad 2 i = ad 41 from rfl, h2 41 (by omega)]
    simp only [ctK, cont]
    simp
    congr 1 <;> (funext n; rw [if_neg (by show ¬ (n : Int) < 0; omega)])
  · rw [show am0 th ad 3 i = ad 42 from rfl, h2 42 (by omega)]
    simp only [ctK, cont, cQ]
    simp
    refine ⟨rfl, rfl, rfl⟩
  · rw [show am0 th ad 4 i = ad 44 from rfl, h2 44 (by omega)]
    simp only [ctK, cont]
    simp
    rfl
  · rw [show am0 th ad 5 i = ad 43 from rfl, h2 43 (by omega)]
    simp only [ctK, cont]
    simp
    rfl
  · obtain ⟨p, rfl⟩ : ∃ p : Nat, i = (p : Int) := ⟨i.toNat, by omega⟩
    have hp : p < 10 := by omega
    have ha : ∀ k, (k = 6 ∨ k = 7 ∨ k = 8 ∨ k = 9) → am0 th ad k (p : Int) = ad (4 * p + (k - 5)) := fun k hk => by
      unfold am0 idx0
      rw [if_neg (by omega), if_neg (by omega), if_neg (by omega), if_neg (by omega), if_neg (by omega), if_neg (by omega)]
      congr 1
    have arr : ∀ k, (k = 7 ∨ k = 8 ∨ k = 9) → hs.1 (am0 th ad k (p : Int)) = some (aI w 8 (fun _ => 0)) := fun k hk => by
      rw [ha k (by omega), h2 _ (by omega)]
      unfold ctK ctJ
      rw [if_pos (by omega), if_neg (by omega), if_neg (by omega)]
    have zf : ∀ f : Nat, f ≠ 59 → (fun n : Nat => if n < 8 then ii (c0s f ((p : Int) * 8 + n)) else 0) = fun _ => 0 := fun f hf => by
      funext n
      have : c0s f ((p : Int) * 8 + n) = 0 := by unfold c0s; rw [if_neg hf]
      rw [this]
      split <;> rfl
    rcases hk with rfl | rfl | rfl | rfl
    · rw [ha 6 (by omega), h2 _ (by omega)]
      unfold ctK ctJ
      rw [if_pos (by omega), if_neg (by omega), if_pos (by omega)]
      simp only [cont, cP]
      rw [ha 7 (by omega), ha 8 (by omega), ha 9 (by omega)]
      rfl
    · rw [arr 7 (by omega)]
      simp only [cont]
      rw [zf 12 (by decide)]
    · rw [arr 8 (by omega)]
      simp only [cont]
      rw [zf 13 (by decide)]
    · rw [arr 9 (by omega)]
      simp only [cont]
      rw [zf 14 (by decide)]
theorem l_start (hw : jWf w) (hL : jL w ≤ 2560) (hc : 2000 ≤ hs0.2.1 ∧ 20000 ≤ hs0.2.2) (hn : ∀ a, hs0.1 a = none) : V jcl w m_L_law (d + 34) 0 [(0, .ref (jb w))] [] hs0 (fun o _ => o = .inl (some (.int (ii 1)))) := by
  refine V.new (pc := 0) (ci := 0) (n := 11) (fs := dJ) d_L_law_0 ⟨_, kT_J, kt_J, rfl, in_J, tok_J, def_J, k_L_8, wk_J.1, wk_J.2⟩ (by omega) (by omega) (fun th hth => ?_)
  have f1 : (hup hs0.1 th (.inr (0, dJ)), hs0.2.1 - 1, hs0.2.2 - 11).1 th = some (.inr (0, dJ)) := hup_s ..
  have f2 : (hup hs0.1 th (.inr (0, dJ)), hs0.2.1 - 1, hs0.2.2 - 11).2.1 + 1 = hs0.2.1 ∧ (hup hs0.1 th (.inr (0, dJ)), hs0.2.1 - 1, hs0.2.2 - 11).2.2 + 11 = hs0.2.2 := ⟨by show hs0.2.1 - 1 + 1 = _; omega, by show hs0.2.2 - 11 + 11 = _; omega⟩
  generalize (hup hs0.1 th (.inr (0, dJ)), hs0.2.1 - 1, hs0.2.2 - 11) = hs1 at f1 f2 ⊢
  refine V.dup (pc := 3) d_L_law_3 (by first | rfl | exact vrf_cat _) ?_
  refine V.callI (pc := 4) d_L_law_4 Y_J_init I_J_init l_L_47 wi_J_init [] rfl rfl ⟨by repeat (first | exact trivial | refine ⟨(by first | rfl | exact vrf_cat _), ?_⟩), Nat.le_of_ble_eq_true rfl⟩ ⟨⟨rfl, trivial⟩, Nat.le_of_ble_eq_true rfl⟩ (c_Jinit (d := d + 31) hw (by omega) f1) (fun v hs ho => ?_) (fun E hs ho => by first | (simp at ho; done) | (obtain ⟨_, _, ho, _⟩ := ho; cases ho; done) | (obtain ⟨_, _, _, ho, _⟩ := ho; cases ho; done))
  obtain ⟨ad, ho, hB⟩ := ho
  cases ho
  obtain ⟨b1, b2, b3, b4, b5, b6⟩ := hB
  have ct0 := cont0 (w := w) (hs := hs) b1 (fun i hi => (b2 i hi).1)
  generalize hs = hs2 at b1 b2 b3 b4 b5 b6 ct0 ⊢
  first | refine V.astore_nR (pc := 7) d_L_law_7 (by decide) ?_ | refine V.astore_n (pc := 7) d_L_law_7 (by decide) ?_
  refine V.new (pc := 8) (ci := 6) (n := 41) (fs := dR) d_L_law_8 ⟨_, kT_R, kt_R, rfl, in_R, tok_R, def_R, k_L_48, wk_R.1, wk_R.2⟩ (by omega) (by omega) (fun mo hmo => ?_)
  have g1 : (hup hs2.1 mo (.inr (6, dR)), hs2.2.1 - 1, hs2.2.2 - 41).1 mo = some (.inr (6, dR)) := hup_s ..
  have go : ∀ a, a ≠ mo → (hup hs2.1 mo (.inr (6, dR)), hs2.2.1 - 1, hs2.2.2 - 41).1 a = hs2.1 a := fun a ha => hup_n ha
  have g2 : (hup hs2.1 mo (.inr (6, dR)), hs2.2.1 - 1, hs2.2.2 - 41).2.1 + 1 = hs2.2.1 ∧ (hup hs2.1 mo (.inr (6, dR)), hs2.2.1 - 1, hs2.2.2 - 41).2.2 + 41 = hs2.2.2 := ⟨by show hs2.2.1 - 1 + 1 = _; omega, by show hs2.2.2 - 41 + 41 = _; omega⟩
  generalize (hup hs2.1 mo (.inr (6, dR)), hs2.2.1 - 1, hs2.2.2 - 41) = hs3 at g1 go g2 ⊢
  refine V.dup (pc := 11) d_L_law_11 (by first | rfl | exact vrf_cat _) ?_
  refine V.callI (pc := 12) d_L_law_12 Y_R_init I_R_init l_L_50 wi_R_init [] rfl rfl ⟨by repeat (first | exact trivial | refine ⟨(by first | rfl | exact vrf_cat _), ?_⟩), Nat.le_of_ble_eq_true rfl⟩ ⟨⟨rfl, trivial⟩, Nat.le_of_ble_eq_true rfl⟩ (c_Rinit (d := d + 32) hw (by omega) g1) (fun v hs ho => ?_) (fun E hs ho => by first | (simp at ho; done) | (obtain ⟨_, _, ho, _⟩ := ho; cases ho; done) | (obtain ⟨_, _, _, ho, _⟩ := ho; cases ho; done))
  obtain ⟨rd, ho, u, hu, hR⟩ := ho
  cases ho
  obtain ⟨r1, r2, r3, r4, r5, r6⟩ := hR
  generalize hs = hs4 at r1 r2 r3 r4 r5 r6 ⊢
  first | refine V.astore_nR (pc := 15) d_L_law_15 (by decide) ?_ | refine V.astore_n (pc := 15) d_L_law_15 (by decide) ?_
  refine Vi.iconst (pc := 16) d_L_law_16 ?_
  refine V.newa (pc := 17) (t0 := 2) (a0 := (1, .inr (.inl (fun _ => 0)))) d_L_law_17 rfl w_a_long hw.2.2.1 rfl (by decide) (by decide) (by decide) (by omega) (by omega) (fun oa hoa => ?_)
  have k1 : (hup hs4.1 oa (.inl (jcA w 2, 1, .inr (.inl (fun _ => 0)))), hs4.2.1 - 1, hs4.2.2 - 1).1 oa = some (.inl (jcA w 2, 1, .inr (.inl (fun _ => 0)))) := hup_s ..
  have ko : ∀ a, a ≠ oa → (hup hs4.1 oa (.inl (jcA w 2, 1, .inr (.inl (fun _ => 0)))), hs4.2.1 - 1, hs4.2.2 - 1).1 a = hs4.1 a := fun a ha => hup_n ha
  have k2 : (hup hs4.1 oa (.inl (jcA w 2, 1, .inr (.inl (fun _ => 0)))), hs4.2.1 - 1, hs4.2.2 - 1).2.1 + 1 = hs4.2.1 ∧ (hup hs4.1 oa (.inl (jcA w 2, 1, .inr (.inl (fun _ => 0)))), hs4.2.1 - 1, hs4.2.2 - 1).2.2 + 1 = hs4.2.2 := ⟨by show hs4.2.1 - 1 + 1 = _; omega, by show hs4.2.2 - 1 + 1 = _; omega⟩
  generalize (hup hs4.1 oa (.inl (jcA w 2, 1, .inr (.inl (fun _ => 0)))), hs4.2.1 - 1, hs4.2.2 - 1) = hs5 at k1 ko k2 ⊢
  -- who lies where
  have am_mo : ∀ k i, vd (c0s 1 0) k i → am0 th ad k i ≠ mo := fun k i hv e => by
    have := ct0 k i hv
    rw [e, hmo] at this
    cases this
  have am3 : ∀ k i, vd (c0s 1 0) k i → hs3.1 (am0 th ad k i) = some (cont w c0s (am0 th ad) k i) := fun k i hv => by rw [go _ (am_mo k i hv)]; exact ct0 k i hv
  have am4 : ∀ k i, vd (c0s 1 0) k i → hs4.1 (am0 th ad k i) = some (cont w c0s (am0 th ad) k i) := fun k i hv => by rw [r4 _ (by rw [am3 k i hv]; simp) (am_mo k i hv)]; exact am3 k i hv
  have am_oa : ∀ k i, vd (c0s 1 0) k i → am0 th ad k i ≠ oa := fun k i hv e => by
    have := am4 k i hv
    rw [e, hoa] at this
    cases this
  have am_ra : ∀ k i, vd (c0s 1 0) k i → ∀ j, j < 30 → am0 th ad k i ≠ rd j := fun k i hv j hj e => by
    have := am3 k i hv
    rw [e, (r2 j hj).2.1] at this
    cases this
  have oa_mo : oa ≠ mo := fun e => by rw [e, r1] at hoa; cases hoa
  have oa_ra : ∀ j, j < 30 → oa ≠ rd j := fun j hj e => by rw [e, (r2 j hj).1] at hoa; cases hoa
  have inj0 : ∀ k i k' i', vd (c0s 1 0) k i → vd (c0s 1 0) k' i' → am0 th ad k i = am0 th ad k' i' → k = k' ∧ i = i' := by
    intro k i k' i' hv hv' he
    have hv : vd 0 k i := hv
    have hv' : vd 0 k' i' := hv'
    unfold vd at hv hv'
    have hix : ∀ k i, (k ≤ 5 ∧ i = 0 ∨ 6 ≤ k ∧ k ≤ 9 ∧ 0 ≤ i ∧ i < 10 ∨ 10 ≤ k ∧ k ≤ 14 ∧ 0 ≤ i ∧ i < 0 ∨ k = 15 ∧ 0 ≤ i ∧ i < 6 * 0) → k ≠ 0 → idx0 k i < 45 := by
      intro k i hv h0
      unfold idx0
      (repeat' split) <;> omega
    by_cases h0 : k = 0 <;> by_cases h0' : k' = 0
    · omega
    · unfold am0 at he
      rw [if_pos h0, if_neg h0'] at he
      exact absurd he.symm (b2 _ (hix k' i' hv' h0')).2.2
    · unfold am0 at he
      rw [if_neg h0, if_pos h0'] at he
      exact absurd he (b2 _ (hix k i hv h0)).2.2
    · unfold am0 at he
      rw [if_neg h0, if_neg h0'] at he
      have e := b3 _ _ (hix k i hv h0) (hix k' i' hv' h0') he
      clear he
      unfold idx0 at e
      (repeat' split at e) <;> omega
  have hJX : JX w th mo oa (fun f => rd (f - 11)) 0 z0 z0 (512, 3072) hs5 := by
    refine ⟨am0 th ad, c0s, z0, fun _ => 0, rfl, ⟨⟨?_, ?_⟩, fun k i hv => ?_, inj0, fun a e ha => (by cases ha), hw⟩, Ag0, fun n => by show (-1 : Int) < 0; omega, ⟨rfl, ?_, fun f f1 f2 => ?_, fun f f' f1 f2 f3 f4 he => ?_, fun a e ha => (by cases ha), hw⟩, fun _ _ _ _ => rfl, ⟨k1, rfl⟩, fun k i hv => ⟨am_mo k i hv, am_oa k i hv, fun f f1 f2 => am_ra k i hv _ (by omega)⟩, oa_mo, fun f f1 f2 => oa_ra _ (by omega)⟩
    · show 512 + 11 * (24 - 0) ≤ hs5.2.1
      omega
    · show 3072 + 59 * (24 - 0) ≤ hs5.2.2
      omega
    · rw [ko _ (am_oa k i hv)]
      exact am4 k i hv
    · rw [ko _ (fun e => oa_mo e.symm)]
      exact r1
    · rw [ko _ (fun e => oa_ra _ (by omega) e.symm), (r2 (f - 11) (by omega)).1]
      unfold ctR
      rw [show f - 11 + 11 = f by omega]
      congr 5
      funext n
      have : z0 f n = 0 := by unfold z0; rw [if_neg (by omega)]
      rw [this]
      rfl
    · have := r3 _ _ (by omega) (by omega) he
      omega
  first | refine V.astore_nR (pc := 19) d_L_law_19 (by decide) ?_ | refine V.astore_n (pc := 19) d_L_law_19 (by decide) ?_
  refine Vi.iconst (pc := 20) d_L_law_20 ?_
  refine V.istore (pc := 21) d_L_law_21 (by decide) ?_
  exact V.lop (l_loop (d := d) hL 512 0 0 z0 (512, 3072) hs5 hJX (Rt0 (by omega)) (by show 512 ≤ 512; omega) (by show 6 * 512 ≤ 3072; omega) (by omega) (by omega) (by omega)) ⟨rfl, rfl, rfl, rfl, rfl, trivial⟩
end KR
