/-! the reference: doAction -/
section RB
variable {w : jw} {d : Nat} {hs : jh} {mo : Nat} {ra : Nat → Nat} {S T : js} {g : Nat → Option va_E} {b : Nat × Nat}
abbrev PA (x : Int) : Prop := x = 1 ∨ x = 2 ∨ x = 4 ∨ x = 5 ∨ (7 < x ∧ x < 11)
abbrev NW (x : Int) : Prop := x = 3 ∨ (7 < x ∧ x < 11)
/-- what the action x a c of j does, in the frame f -/
def z_da2 (T : js) (j f x a c : Int) : js :=
  if x = 0 then z_write T a
  else if x = 1 then z_waitIn (up (up T 29 j (T 2 0 + a)) 30 j (T 6 0)) j 1 (-1)
  else if x = 2 then up (z_putReady T j (-1)) 10 0 1
  else if x = 3 then up (z_begin T a j 1) 22 (j * 3 + c) (T 1 0)
  else if x = 4 ∨ x = 5 then z_awaits T j x (T 22 (j * 3 + a))
  else if x = 6 then (if a < 0 then z_give T j 0 else if 0 ≤ T 22 (j * 3 + a) then z_give T (T 22 (j * 3 + a)) 0 else T)
  else if x = 7 then up T 8 0 a
  else if x < 11 then z_scope T j x a c
  else if x < 14 then z_frame T j x a c
  else if x = 14 then up (up T 18 j (T 18 j + a)) 34 f (T 11 (T 33 f))
  else z_write T (if T 19 j < 0 then 1 else 0)
def z_da (T : js) (j f x a c : Int) : js :=
  if PA x ∧ 0 ≤ T 19 j ∧ z_shielded T j = false then up T 8 0 0
  else if NW x ∧ T 1 0 = 24 then up T 8 0 96
  else z_da2 T j f x a c
/-- the action is counted, the frame goes on to the next -/
def z_adv (S : js) (f : Int) : js := up (up (up S 34 f (S 34 f + 1)) 9 0 (S 9 0 + 1)) 5 0 (S 5 0 + 1)
def z_doAction (S : js) (j : Int) : js := z_da (z_adv S (j * 6 + S 21 j - 1)) j (j * 6 + S 21 j - 1) (S 12 (S 33 (j * 6 + S 21 j - 1) * 8 + S 34 (j * 6 + S 21 j - 1))) (S 13 (S 33 (j * 6 + S 21 j - 1) * 8 + S 34 (j * 6 + S 21 j - 1))) (S 14 (S 33 (j * 6 + S 21 j - 1) * 8 + S 34 (j * 6 + S 21 j - 1)))
theorem Iv.at_ (h : Iv S) {f v : Int} (hv : 0 ≤ v ∧ v ≤ 8) : Iv (up S 34 f v) := by
  have e : ∀ f' i, f' ≠ 34 → up S 34 f v f' i = S f' i := fun f' i z => up_f z
  refine ⟨h.gd.cg fun f i hf => e f i (by omega), h.wt.cg fun f i hf => e f i (by omega), fun k i z1 z2 z3 z4 => ?_, h.sl.cg fun f i hf => e f i (by omega), h.tm.cg fun f i hf => e f i (by omega), h.rw.cg fun f i hf => e f i (by omega), h.pg.cg fun f i hf => e f i (by omega)⟩
  rw [e 1 0 (by decide)] at z2
  rw [e 21 k (by decide)] at z4
  have a := h.fr k i z1 z2 z3 z4
  have e34 : up S 34 f v 34 i = if i = f then v else S 34 i := by simp [up]
  unfold FJ at a ⊢
  rw [e34]
  simp only [e 33 _ (by decide), e 35 _ (by decide), e 36 _ (by decide), e 37 _ (by decide)]
  refine ⟨a.1, by split <;> omega, a.2.2⟩
theorem Ok.room {j : Int} (h : Iv S) (hr : Rn j S) : 0 ≤ S 7 0 ∧ S 7 0 < 24 := ⟨h.gd.2.2.1.1, h.gd.2.2.room h.J.2 (k := j) (by have := hr.1; have := h.J; omega) hr.2.2.1⟩
theorem r_da2 {j f x a c : Int} (hR : RepR w mo ra T g b hs) (h : Iv T) (hr : Rn j T) (hB : Bd 29 T) (hf : (0 ≤ f ∧ f < 144) ∧ 0 ≤ T 33 f ∧ T 33 f ≤ 9) (hx : 0 ≤ x ∧ x ≤ 15) (ha : jr a) (hw : ¬ WR x a c) (hn : ¬ (NW x ∧ T 1 0 = 24)) :
    V jcl w m_R_doAction (d + 4) 210 [(0, .ref mo), (1, .int (ii j)), (2, .int (ii f)), (4, .int (ii x)), (5, .int (ii a)), (6, .int (ii c))] [] hs (fun o hs' => o = .inl none ∧ RepR w mo ra (z_da2 T j f x a c) g b hs') := by
  have hJ := h.J
  have hj := hr.1
  have hrm := Ok.room h hr
  have hgj := h.gd.2.1 j hj.1 hj.2
  have h21 : 0 ≤ T 21 j ∧ T 21 j ≤ 6 := hgj.2.2.2.1
  have h19 : -1 ≤ T 19 j ∧ T 19 j ≤ 99 := hgj.2.2.1
  have h3 := h.tm.1
  have hb3 := hB.2.1
  have hsl : 0 ≤ a ∧ a < 3 → (-1 ≤ T 22 (j * 3 + a) ∧ T 22 (j * 3 + a) < T 1 0) := fun z => by
    have := h.sl j a hj.1 hj.2 z.1 z.2
    omega
  unfold WR at hw
  refine V.iload (pc := 210) d_R_doAction_210 rfl ?_
  refine Vi.if_ne (pc := 212) (tgt := 224) d_R_doAction_212 (by decide) (by first | assumption | decide | omega | (simp [up] <;> omega)) (fun c_212 => ?_) (fun c_212 => ?_)
  · refine V.iload (pc := 224) d_R_doAction_224 rfl ?_
    refine Vi.iconst (pc := 226) d_R_doAction_226 ?_
    refine Vi.icmp_ne (pc := 227) (tgt := 263) d_R_doAction_227 (by decide) (by first | assumption | decide | omega | (simp [up] <;> omega)) (by first | assumption | decide | omega | (simp [up] <;> omega)) (fun c_227 => ?_) (fun c_227 => ?_)
    · refine V.iload (pc := 263) d_R_doAction_263 rfl ?_
      refine Vi.iconst (pc := 265) d_R_doAction_265 ?_
      refine Vi.icmp_ne (pc := 266) (tgt := 283) d_R_doAction_266 (by decide) (by first | assumption | decide | omega | (simp [up] <;> omega)) (by first | assumption | decide | omega | (simp [up] <;> omega)) (fun c_266 => ?_) (fun c_266 => ?_)
      · refine V.iload (pc := 283) d_R_doAction_283 rfl ?_
        refine Vi.iconst (pc := 285) d_R_doAction_285 ?_
        refine Vi.icmp_ne (pc := 286) (tgt := 311) d_R_doAction_286 (by decide) (by first | assumption | decide | omega | (simp [up] <;> omega)) (by first | assumption | decide | omega | (simp [up] <;> omega)) (fun c_286 => ?_) (fun c_286 => ?_)
        · refine V.iload (pc := 311) d_R_doAction_311 rfl ?_
          refine Vi.iconst (pc := 313) d_R_doAction_313 ?_
          refine Vi.icmp_eq (pc := 314) (tgt := 323) d_R_doAction_314 (by decide) (by first | assumption | decide | omega | (simp [up] <;> omega)) (by first | assumption | decide | omega | (simp [up] <;> omega)) (fun c_314 => ?_) (fun c_314 => ?_)
          · first | refine V.aload_nR (pc := 323) d_R_doAction_323 rfl ?_ | refine V.aload_n (pc := 323) d_R_doAction_323 rfl ?_
            refine V.iload_n (pc := 324) d_R_doAction_324 rfl ?_
            refine V.iload (pc := 325) d_R_doAction_325 rfl ?_
            first | refine V.aload_nR (pc := 327) d_R_doAction_327 rfl ?_ | refine V.aload_n (pc := 327) d_R_doAction_327 rfl ?_
            refine Vr.get (pc := 328) d_R_doAction_328 g_R_78 hR rfl ?_
            refine V.iload_n (pc := 331) d_R_doAction_331 rfl ?_
            refine Vi.iconst (pc := 332) d_R_doAction_332 ?_
            refine Vi.imul (pc := 333) d_R_doAction_333 ?_
            refine V.iload (pc := 334) d_R_doAction_334 rfl ?_
            refine Vi.iadd (pc := 336) d_R_doAction_336 ?_
            refine Vr.ald (pc := 337) (n := 72) d_R_doAction_337 hR (by decide) rfl (by first | assumption | decide | omega | (simp [up] <;> omega)) ?_
            have hs_337 := hsl (by omega)
            refine V.callV (pc := 338) d_R_doAction_338 Y_R_awaits l_R_194 wi_R_awaits wv_R_awaits (ci := 6) rfl rfl [_, _, _] hR.o rfl rfl ⟨by repeat (first | exact trivial | refine ⟨(by first | rfl | exact vrf_cat _), ?_⟩), Nat.le_of_ble_eq_true rfl⟩ ⟨⟨rfl, (by first | rfl | exact vrf_cat _), (by first | rfl | exact vrf_cat _), (by first | rfl | exact vrf_cat _), trivial⟩, Nat.le_of_ble_eq_true rfl⟩ (r_awaits hR h (by omega) (by omega) (hsl (by omega))) (fun v hs ho => ?_) (fun E hs ho => by simp at ho)
            obtain ⟨ho, hR⟩ := ho
            cases ho
            refine V.goto (pc := 341) (tgt := 503) d_R_doAction_341 (by decide) ?_
            refine V.return_ (pc := 503) d_R_doAction_503 rfl ?_
            refine ⟨rfl, ?_⟩
            unfold z_da2
            (repeat' split) <;> first | exact hR | (exfalso; omega) | (simpa [up_f] using hR)
          · refine V.iload (pc := 317) d_R_doAction_317 rfl ?_
            refine Vi.iconst (pc := 319) d_R_doAction_319 ?_
            refine Vi.icmp_ne (pc := 320) (tgt := 344) d_R_doAction_320 (by decide) (by first | assumption | decide | omega | (simp [up] <;> omega)) (by first | assumption | decide | omega | (simp [up] <;> omega)) (fun c_320 => ?_) (fun c_320 => ?_)
            · refine V.iload (pc := 344) d_R_doAction_344 rfl ?_
              refine Vi.bipush (pc := 346) d_R_doAction_346 (by decide) ?_
              refine Vi.icmp_ne (pc := 348) (tgt := 389) d_R_doAction_348 (by decide) (by first | assumption | decide | omega | (simp [up] <;> omega)) (by first | assumption | decide | omega | (simp [up] <;> omega)) (fun c_348 => ?_) (fun c_348 => ?_)
              · refine V.iload (pc := 389) d_R_doAction_389 rfl ?_
                refine Vi.bipush (pc := 391) d_R_doAction_391 (by decide) ?_
                refine Vi.icmp_ne (pc := 393) (tgt := 405) d_R_doAction_393 (by decide) (by first | assumption | decide | omega | (simp [up] <;> omega)) (by first | assumption | decide | omega | (simp [up] <;> omega)) (fun c_393 => ?_) (fun c_393 => ?_)
                · refine V.iload (pc := 405) d_R_doAction_405 rfl ?_
                  refine Vi.bipush (pc := 407) d_R_doAction_407 (by decide) ?_
                  refine Vi.icmp_ge (pc := 409) (tgt := 426) d_R_doAction_409 (by decide) (by first | assumption | decide | omega | (simp [up] <;> omega)) (by first | assumption | decide | omega | (simp [up] <;> omega)) (fun c_409 => ?_) (fun c_409 => ?_)
                  · refine V.iload (pc := 426) d_R_doAction_426 rfl ?_
                    refine Vi.bipush (pc := 428) d_R_doAction_428 (by decide) ?_
                    refine Vi.icmp_ge (pc := 430) (tgt := 447) d_R_doAction_430 (by decide) (by first | assumption | decide | omega | (simp [up] <;> omega)) (by first | assumption | decide | omega | (simp [up] <;> omega)) (fun c_430 => ?_) (fun c_430 => ?_)
                    · refine V.iload (pc := 447) d_R_doAction_447 rfl ?_
                      refine Vi.bipush (pc := 449) d_R_doAction_449 (by decide) ?_
                      refine Vi.icmp_ne (pc := 451) (tgt := 485) d_R_doAction_451 (by decide) (by first | assumption | decide | omega | (simp [up] <;> omega)) (by first | assumption | decide | omega | (simp [up] <;> omega)) (fun c_451 => ?_) (fun c_451 => ?_)
                      · first | refine V.aload_nR (pc := 485) d_R_doAction_485 rfl ?_ | refine V.aload_n (pc := 485) d_R_doAction_485 rfl ?_
                        first | refine V.aload_nR (pc := 486) d_R_doAction_486 rfl ?_ | refine V.aload_n (pc := 486) d_R_doAction_486 rfl ?_
                        refine Vr.get (pc := 487) d_R_doAction_487 g_R_69 hR rfl ?_
                        refine V.iload_n (pc := 490) d_R_doAction_490 rfl ?_
                        refine Vr.ald (pc := 491) (n := 24) d_R_doAction_491 hR (by decide) rfl (by first | assumption | decide | omega | (simp [up] <;> omega)) ?_
                        refine Vi.if_ge (pc := 492) (tgt := 499) d_R_doAction_492 (by decide) (by first | assumption | decide | omega | (simp [up] <;> omega)) (fun c_492 => ?_) (fun c_492 => ?_)
                        · refine Vi.iconst (pc := 499) d_R_doAction_499 ?_
                          refine V.callV (pc := 500) d_R_doAction_500 Y_R_write l_R_180 wi_R_write wv_R_write (ci := 6) rfl rfl [_] hR.o rfl rfl ⟨by repeat (first | exact trivial | refine ⟨(by first | rfl | exact vrf_cat _), ?_⟩), Nat.le_of_ble_eq_true rfl⟩ ⟨⟨rfl, (by first | rfl | exact vrf_cat _), trivial⟩, Nat.le_of_ble_eq_true rfl⟩ (r_write hR (by omega)) (fun v hs ho => ?_) (fun E hs ho => by simp at ho)
                          obtain ⟨ho, hR⟩ := ho
                          cases ho
                          refine V.return_ (pc := 503) d_R_doAction_503 rfl ?_
                          refine ⟨rfl, ?_⟩
                          unfold z_da2
                          (repeat' split) <;> first | exact hR | (exfalso; omega) | (simpa [up_f] using hR)
                        · refine Vi.iconst (pc := 495) d_R_doAction_495 ?_
                          refine V.goto (pc := 496) (tgt := 500) d_R_doAction_496 (by decide) ?_
                          refine V.callV (pc := 500) d_R_doAction_500 Y_R_write l_R_180 wi_R_write wv_R_write (ci := 6) rfl rfl [_] hR.o rfl rfl ⟨by repeat (first | exact trivial | refine ⟨(by first | rfl | exact vrf_cat _), ?_⟩), Nat.le_of_ble_eq_true rfl⟩ ⟨⟨rfl, (by first | rfl | exact vrf_cat _), trivial⟩, Nat.le_of_ble_eq_true rfl⟩ (r_write hR (by omega)) (fun v hs ho => ?_) (fun E hs ho => by simp at ho)
                          obtain ⟨ho, hR⟩ := ho
                          cases ho
                          refine V.return_ (pc := 503) d_R_doAction_503 rfl ?_
                          refine ⟨rfl, ?_⟩
                          unfold z_da2
                          (repeat' split) <;> first | exact hR | (exfalso; omega) | (simpa [up_f] using hR)
                      · first | refine V.aload_nR (pc := 454) d_R_doAction_454 rfl ?_ | refine V.aload_n (pc := 454) d_R_doAction_454 rfl ?_
                        refine Vr.get (pc := 455) d_R_doAction_455 g_R_66 hR rfl ?_
                        refine V.iload_n (pc := 458) d_R_doAction_458 rfl ?_
                        refine V.dup2 (pc := 459) d_R_doAction_459 (by first | rfl | exact vrf_cat _) (by first | rfl | exact vrf_cat _) ?_
                        refine Vr.ald (pc := 460) (n := 24) d_R_doAction_460 hR (by decide) rfl (by first | assumption | decide | omega | (simp [up] <;> omega)) ?_
                        refine V.iload (pc := 461) d_R_doAction_461 rfl ?_
                        refine Vi.iadd (pc := 463) d_R_doAction_463 ?_
                        refine Vr.ast (pc := 464) (n := 24) d_R_doAction_464 hR (by decide) rfl (by first | assumption | decide | omega | (simp [up] <;> omega)) (fun hs hR => ?_)
                        first | refine V.aload_nR (pc := 465) d_R_doAction_465 rfl ?_ | refine V.aload_n (pc := 465) d_R_doAction_465 rfl ?_
                        refine Vr.get (pc := 466) d_R_doAction_466 g_R_115 hR rfl ?_
                        refine V.iload_n (pc := 469) d_R_doAction_469 rfl ?_
                        first | refine V.aload_nR (pc := 470) d_R_doAction_470 rfl ?_ | refine V.aload_n (pc := 470) d_R_doAction_470 rfl ?_
                        refine Vr.get (pc := 471) d_R_doAction_471 g_R_44 hR rfl ?_
                        first | refine V.aload_nR (pc := 474) d_R_doAction_474 rfl ?_ | refine V.aload_n (pc := 474) d_R_doAction_474 rfl ?_
                        refine Vr.get (pc := 475) d_R_doAction_475 g_R_112 hR rfl ?_
                        refine V.iload_n (pc := 478) d_R_doAction_478 rfl ?_
                        refine Vr.ald (pc := 479) (n := 144) d_R_doAction_479 hR (by decide) rfl (by first | assumption | decide | omega | (simp [up] <;> omega)) ?_
                        rw [up_f (show (33 : Nat) ≠ 18 by decide)]
                        refine Vr.ald (pc := 480) (n := 10) d_R_doAction_480 hR (by decide) rfl (by first | assumption | decide | omega | (simp [up] <;> omega)) ?_
                        rw [up_f (show (11 : Nat) ≠ 18 by decide)]
                        refine Vr.ast (pc := 481) (n := 144) d_R_doAction_481 hR (by decide) rfl (by first | assumption | decide | omega | (simp [up] <;> omega)) (fun hs hR => ?_)
                        refine V.goto (pc := 482) (tgt := 503) d_R_doAction_482 (by decide) ?_
                        refine V.return_ (pc := 503) d_R_doAction_503 rfl ?_
                        refine ⟨rfl, ?_⟩
                        unfold z_da2
                        (repeat' split) <;> first | exact hR | (exfalso; omega) | (simpa [up_f] using hR)
                    · first | refine V.aload_nR (pc := 433) d_R_doAction_433 rfl ?_ | refine V.aload_n (pc := 433) d_R_doAction_433 rfl ?_
                      refine V.iload_n (pc := 434) d_R_doAction_434 rfl ?_
                      refine V.iload (pc := 435) d_R_doAction_435 rfl ?_
                      refine V.iload (pc := 437) d_R_doAction_437 rfl ?_
                      refine V.iload (pc := 439) d_R_doAction_439 rfl ?_
                      refine V.callV (pc := 441) d_R_doAction_441 Y_R_frame l_R_201 wi_R_frame wv_R_frame (ci := 6) rfl rfl [_, _, _, _] hR.o rfl rfl ⟨by repeat (first | exact trivial | refine ⟨(by first | rfl | exact vrf_cat _), ?_⟩), Nat.le_of_ble_eq_true rfl⟩ ⟨⟨rfl, (by first | rfl | exact vrf_cat _), (by first | rfl | exact vrf_cat _), (by first | rfl | exact vrf_cat _), (by first | rfl | exact vrf_cat _), trivial⟩, Nat.le_of_ble_eq_true rfl⟩ (r_frame hR (by omega) (by omega) (by omega)) (fun v hs ho => ?_) (fun E hs ho => by simp at ho)
                      obtain ⟨ho, hR⟩ := ho
                      cases ho
                      refine V.goto (pc := 444) (tgt := 503) d_R_doAction_444 (by decide) ?_
                      refine V.return_ (pc := 503) d_R_doAction_503 rfl ?_
                      refine ⟨rfl, ?_⟩
                      unfold z_da2
                      (repeat' split) <;> first | exact hR | (exfalso; omega) | (simpa [up_f] using hR)
                  · first | refine V.aload_nR (pc := 412) d_R_doAction_412 rfl ?_ | refine V.aload_n (pc := 412) d_R_doAction_412 rfl ?_
                    refine V.iload_n (pc := 413) d_R_doAction_413 rfl ?_
                    refine V.iload (pc := 414) d_R_doAction_414 rfl ?_
                    refine V.iload (pc := 416) d_R_doAction_416 rfl ?_
                    refine V.iload (pc := 418) d_R_doAction_418 rfl ?_
                    refine V.callV (pc := 420) d_R_doAction_420 Y_R_scope l_R_197 wi_R_scope wv_R_scope (ci := 6) rfl rfl [_, _, _, _] hR.o rfl rfl ⟨by repeat (first | exact trivial | refine ⟨(by first | rfl | exact vrf_cat _), ?_⟩), Nat.le_of_ble_eq_true rfl⟩ ⟨⟨rfl, (by first | rfl | exact vrf_cat _), (by first | rfl | exact vrf_cat _), (by first | rfl | exact vrf_cat _), (by first | rfl | exact vrf_cat _), trivial⟩, Nat.le_of_ble_eq_true rfl⟩ (r_scope hR (by omega) (by omega) (by omega) (by omega)) (fun v hs ho => ?_) (fun E hs ho => by simp at ho)
                    obtain ⟨ho, hR⟩ := ho
                    cases ho
                    refine V.goto (pc := 423) (tgt := 503) d_R_doAction_423 (by decide) ?_
                    refine V.return_ (pc := 503) d_R_doAction_503 rfl ?_
                    refine ⟨rfl, ?_⟩
                    unfold z_da2
                    (repeat' split) <;> first | exact hR | (exfalso; omega) | (simpa [up_f] using hR)
                · first | refine V.aload_nR (pc := 396) d_R_doAction_396 rfl ?_ | refine V.aload_n (pc := 396) d_R_doAction_396 rfl ?_
                  refine V.iload (pc := 397) d_R_doAction_397 rfl ?_
                  refine Vr.put8 (pc := 399) d_R_doAction_399 f_R_34 hR (fun hs hR => ?_)
                  refine V.goto (pc := 402) (tgt := 503) d_R_doAction_402 (by decide) ?_
                  refine V.return_ (pc := 503) d_R_doAction_503 rfl ?_
                  refine ⟨rfl, ?_⟩
                  unfold z_da2
                  (repeat' split) <;> first | exact hR | (exfalso; omega) | (simpa [up_f] using hR)
              · refine V.iload (pc := 351) d_R_doAction_351 rfl ?_
                refine Vi.if_ge (pc := 353) (tgt := 360) d_R_doAction_353 (by decide) (by first | assumption | decide | omega | (simp [up] <;> omega)) (fun c_353 => ?_) (fun c_353 => ?_)
                · first | refine V.aload_nR (pc := 360) d_R_doAction_360 rfl ?_ | refine V.aload_n (pc := 360) d_R_doAction_360 rfl ?_
                  refine Vr.get (pc := 361) d_R_doAction_361 g_R_78 hR rfl ?_
                  refine V.iload_n (pc := 364) d_R_doAction_364 rfl ?_
                  refine Vi.iconst (pc := 365) d_R_doAction_365 ?_
                  refine Vi.imul (pc := 366) d_R_doAction_366 ?_
                  refine V.iload (pc := 367) d_R_doAction_367 rfl ?_
                  refine Vi.iadd (pc := 369) d_R_doAction_369 ?_
                  refine Vr.ald (pc := 370) (n := 72) d_R_doAction_370 hR (by decide) rfl (by first | assumption | decide | omega | (simp [up] <;> omega)) ?_
                  have hs_370 := hsl (by omega)
                  refine V.istore (pc := 371) d_R_doAction_371 (by decide) ?_
                  refine V.iload (pc := 373) d_R_doAction_373 rfl ?_
                  refine Vi.if_lt (pc := 375) (tgt := 386) d_R_doAction_375 (by decide) (by first | assumption | decide | omega | (simp [up] <;> omega)) (fun c_375 => ?_) (fun c_375 => ?_)
                  · refine V.goto (pc := 386) (tgt := 503) d_R_doAction_386 (by decide) ?_
                    refine V.return_ (pc := 503) d_R_doAction_503 rfl ?_
                    refine ⟨rfl, ?_⟩
                    unfold z_da2
                    (repeat' split) <;> first | exact hR | (exfalso; omega) | (simpa [up_f] using hR)
                  · first | refine V.aload_nR (pc := 378) d_R_doAction_378 rfl ?_ | refine V.aload_n (pc := 378) d_R_doAction_378 rfl ?_
                    refine V.iload (pc := 379) d_R_doAction_379 rfl ?_
                    refine Vi.iconst (pc := 381) d_R_doAction_381 ?_
                    refine V.callV (pc := 382) d_R_doAction_382 Y_R_give l_R_170 wi_R_give wv_R_give (ci := 6) rfl rfl [_, _] hR.o rfl rfl ⟨by repeat (first | exact trivial | refine ⟨(by first | rfl | exact vrf_cat _), ?_⟩), Nat.le_of_ble_eq_true rfl⟩ ⟨⟨rfl, (by first | rfl | exact vrf_cat _), (by first | rfl | exact vrf_cat _), trivial⟩, Nat.le_of_ble_eq_true rfl⟩ (r_give hR h.gd (by omega) (by omega)) (fun v hs ho => ?_) (fun E hs ho => by simp at ho)
                    obtain ⟨r_382, ho, hr_382, hR⟩ := ho
                    cases ho
                    refine V.pop (pc := 385) d_R_doAction_385 (by first | rfl | exact vrf_cat _) ?_
                    refine V.goto (pc := 386) (tgt := 503) d_R_doAction_386 (by decide) ?_
                    refine V.return_ (pc := 503) d_R_doAction_503 rfl ?_
                    refine ⟨rfl, ?_⟩
                    unfold z_da2
                    (repeat' split) <;> first | exact hR | (exfalso; omega) | (simpa [up_f] using hR)
                · refine V.iload_n (pc := 356) d_R_doAction_356 rfl ?_
                  refine V.goto (pc := 357) (tgt := 371) d_R_doAction_357 (by decide) ?_
                  refine V.istore (pc := 371) d_R_doAction_371 (by decide) ?_
                  refine V.iload (pc := 373) d_R_doAction_373 rfl ?_
                  refine Vi.if_lt (pc := 375) (tgt := 386) d_R_doAction_375 (by decide) (by first | assumption | decide | omega | (simp [up] <;> omega)) (fun c_375 => ?_) (fun c_375 => ?_)
                  · refine V.goto (pc := 386) (tgt := 503) d_R_doAction_386 (by decide) ?_
                    refine V.return_ (pc := 503) d_R_doAction_503 rfl ?_
                    refine ⟨rfl, ?_⟩
                    unfold z_da2
                    (repeat' split) <;> first | exact hR | (exfalso; omega) | (simpa [up_f] using hR)
                  · first | refine V.aload_nR (pc := 378) d_R_doAction_378 rfl ?_ | refine V.aload_n (pc := 378) d_R_doAction_378 rfl ?_
                    refine V.iload (pc := 379) d_R_doAction_379 rfl ?_
                    refine Vi.iconst (pc := 381) d_R_doAction_381 ?_
                    refine V.callV (pc := 382) d_R_doAction_382 Y_R_give l_R_170 wi_R_give wv_R_give (ci := 6) rfl rfl [_, _] hR.o rfl rfl ⟨by repeat (first | exact trivial | refine ⟨(by first | rfl | exact vrf_cat _), ?_⟩), Nat.le_of_ble_eq_true rfl⟩ ⟨⟨rfl, (by first | rfl | exact vrf_cat _), (by first | rfl | exact vrf_cat _), trivial⟩, Nat.le_of_ble_eq_true rfl⟩ (r_give hR h.gd (by omega) (by omega)) (fun v hs ho => ?_) (fun E hs ho => by simp at ho)
                    obtain ⟨r_382, ho, hr_382, hR⟩ := ho
                    cases ho
                    refine V.pop (pc := 385) d_R_doAction_385 (by first | rfl | exact vrf_cat _) ?_
                    refine V.goto (pc := 386) (tgt := 503) d_R_doAction_386 (by decide) ?_
                    refine V.return_ (pc := 503) d_R_doAction_503 rfl ?_
                    refine ⟨rfl, ?_⟩
                    unfold z_da2
                    (repeat' split) <;> first | exact hR | (exfalso; omega) | (simpa [up_f] using hR)
            · first | refine V.aload_nR (pc := 323) d_R_doAction_323 rfl ?_ | refine V.aload_n (pc := 323) d_R_doAction_323 rfl ?_
              refine V.iload_n (pc := 324) d_R_doAction_324 rfl ?_
              refine V.iload (pc := 325) d_R_doAction_325 rfl ?_
              first | refine V.aload_nR (pc := 327) d_R_doAction_327 rfl ?_ | refine V.aload_n (pc := 327) d_R_doAction_327 rfl ?_
              refine Vr.get (pc := 328) d_R_doAction_328 g_R_78 hR rfl ?_
              refine V.iload_n (pc := 331) d_R_doAction_331 rfl ?_
              refine Vi.iconst (pc := 332) d_R_doAction_332 ?_
              refine Vi.imul (pc := 333) d_R_doAction_333 ?_
              refine V.iload (pc := 334) d_R_doAction_334 rfl ?_
              refine Vi.iadd (pc := 336) d_R_doAction_336 ?_
              refine Vr.ald (pc := 337) (n := 72) d_R_doAction_337 hR (by decide) rfl (by first | assumption | decide | omega | (simp [up] <;> omega)) ?_
              have hs_337 := hsl (by omega)
              refine V.callV (pc := 338) d_R_doAction_338 Y_R_awaits l_R_194 wi_R_awaits wv_R_awaits (ci := 6) rfl rfl [_, _, _] hR.o rfl rfl ⟨by repeat (first | exact trivial | refine ⟨(by first | rfl | exact vrf_cat _), ?_⟩), Nat.le_of_ble_eq_true rfl⟩ ⟨⟨rfl, (by first | rfl | exact vrf_cat _), (by first | rfl | exact vrf_cat _), (by first | rfl | exact vrf_cat _), trivial⟩, Nat.le_of_ble_eq_true rfl⟩ (r_awaits hR h (by omega) (by omega) (hsl (by omega))) (fun v hs ho => ?_) (fun E hs ho => by simp at ho)
              obtain ⟨ho, hR⟩ := ho
              cases ho
              refine V.goto (pc := 341) (tgt := 503) d_R_doAction_341 (by decide) ?_
              refine V.return_ (pc := 503) d_R_doAction_503 rfl ?_
              refine ⟨rfl, ?_⟩
              unfold z_da2
              (repeat' split) <;> first | exact hR | (exfalso; omega) | (simpa [up_f] using hR)
        · first | refine V.aload_nR (pc := 289) d_R_doAction_289 rfl ?_ | refine V.aload_n (pc := 289) d_R_doAction_289 rfl ?_
          refine Vr.get (pc := 290) d_R_doAction_290 g_R_78 hR rfl ?_
          refine V.iload_n (pc := 293) d_R_doAction_293 rfl ?_
          refine Vi.iconst (pc := 294) d_R_doAction_294 ?_
          refine Vi.imul (pc := 295) d_R_doAction_295 ?_
          refine V.iload (pc := 296) d_R_doAction_296 rfl ?_
          refine Vi.iadd (pc := 298) d_R_doAction_298 ?_
          first | refine V.aload_nR (pc := 299) d_R_doAction_299 rfl ?_ | refine V.aload_n (pc := 299) d_R_doAction_299 rfl ?_
          refine V.iload (pc := 300) d_R_doAction_300 rfl ?_
          refine V.iload_n (pc := 302) d_R_doAction_302 rfl ?_
          refine Vi.iconst (pc := 303) d_R_doAction_303 ?_
          refine V.callV (pc := 304) d_R_doAction_304 Y_R_begin l_R_158 wi_R_begin wv_R_begin (ci := 6) rfl rfl [_, _, _] hR.o rfl rfl ⟨by repeat (first | exact trivial | refine ⟨(by first | rfl | exact vrf_cat _), ?_⟩), Nat.le_of_ble_eq_true rfl⟩ ⟨⟨rfl, (by first | rfl | exact vrf_cat _), (by first | rfl | exact vrf_cat _), (by first | rfl | exact vrf_cat _), trivial⟩, Nat.le_of_ble_eq_true rfl⟩ (r_begin hR (by omega) (by omega)) (fun v hs ho => ?_) (fun E hs ho => by simp at ho)
          obtain ⟨ho, hR⟩ := ho
          cases ho
          refine Vr.ast (pc := 307) (n := 72) d_R_doAction_307 hR (by decide) rfl (by first | assumption | decide | omega | (simp [up] <;> omega)) (fun hs hR => ?_)
          refine V.goto (pc := 308) (tgt := 503) d_R_doAction_308 (by decide) ?_
          refine V.return_ (pc := 503) d_R_doAction_503 rfl ?_
          refine ⟨rfl, ?_⟩
          unfold z_da2
          (repeat' split) <;> first | exact hR | (exfalso; omega) | (simpa [up_f] using hR)
      · first | refine V.aload_nR (pc := 269) d_R_doAction_269 rfl ?_ | refine V.aload_n (pc := 269) d_R_doAction_269 rfl ?_
        refine V.iload_n (pc := 270) d_R_doAction_270 rfl ?_
        refine Vi.iconst (pc := 271) d_R_doAction_271 ?_
        refine V.callV (pc := 272) d_R_doAction_272 Y_R_putReady l_R_154 wi_R_putReady wv_R_putReady (ci := 6) rfl rfl [_, _] hR.o rfl rfl ⟨by repeat (first | exact trivial | refine ⟨(by first | rfl | exact vrf_cat _), ?_⟩), Nat.le_of_ble_eq_true rfl⟩ ⟨⟨rfl, (by first | rfl | exact vrf_cat _), (by first | rfl | exact vrf_cat _), trivial⟩, Nat.le_of_ble_eq_true rfl⟩ (r_putReady hR (by omega) (by omega)) (fun v hs ho => ?_) (fun E hs ho => by simp at ho)
        obtain ⟨ho, hR⟩ := ho
        cases ho
        first | refine V.aload_nR (pc := 275) d_R_doAction_275 rfl ?_ | refine V.aload_n (pc := 275) d_R_doAction_275 rfl ?_
        refine Vi.iconst (pc := 276) d_R_doAction_276 ?_
        refine Vr.put10 (pc := 277) d_R_doAction_277 f_R_40 hR (by decide) (fun hs hR => ?_)
        refine V.goto (pc := 280) (tgt := 503) d_R_doAction_280 (by decide) ?_
        refine V.return_ (pc := 503) d_R_doAction_503 rfl ?_
        refine ⟨rfl, ?_⟩
        unfold z_da2
        (repeat' split) <;> first | exact hR | (exfalso; omega) | (simpa [up_f] using hR)
    · first | refine V.aload_nR (pc := 230) d_R_doAction_230 rfl ?_ | refine V.aload_n (pc := 230) d_R_doAction_230 rfl ?_
      refine Vr.get (pc := 231) d_R_doAction_231 g_R_100 hR rfl ?_
      refine V.iload_n (pc := 234) d_R_doAction_234 rfl ?_
      first | refine V.aload_nR (pc := 235) d_R_doAction_235 rfl ?_ | refine V.aload_n (pc := 235) d_R_doAction_235 rfl ?_
      refine Vr.get (pc := 236) d_R_doAction_236 g_R_16 hR rfl ?_
      refine V.iload (pc := 239) d_R_doAction_239 rfl ?_
      refine Vi.iadd (pc := 241) d_R_doAction_241 ?_
      refine Vr.ast (pc := 242) (n := 24) d_R_doAction_242 hR (by decide) rfl (by first | assumption | decide | omega | (simp [up] <;> omega)) (fun hs hR => ?_)
      first | refine V.aload_nR (pc := 243) d_R_doAction_243 rfl ?_ | refine V.aload_n (pc := 243) d_R_doAction_243 rfl ?_
      refine Vr.get (pc := 244) d_R_doAction_244 g_R_103 hR rfl ?_
      refine V.iload_n (pc := 247) d_R_doAction_247 rfl ?_
      first | refine V.aload_nR (pc := 248) d_R_doAction_248 rfl ?_ | refine V.aload_n (pc := 248) d_R_doAction_248 rfl ?_
      refine Vr.get (pc := 249) d_R_doAction_249 g_R_28 hR rfl ?_
      rw [up_f (show (6 : Nat) ≠ 29 by decide)]
      refine Vr.ast (pc := 252) (n := 24) d_R_doAction_252 hR (by decide) rfl (by first | assumption | decide | omega | (simp [up] <;> omega)) (fun hs hR => ?_)
      first | refine V.aload_nR (pc := 253) d_R_doAction_253 rfl ?_ | refine V.aload_n (pc := 253) d_R_doAction_253 rfl ?_
      refine V.iload_n (pc := 254) d_R_doAction_254 rfl ?_
      refine Vi.iconst (pc := 255) d_R_doAction_255 ?_
      refine Vi.iconst (pc := 256) d_R_doAction_256 ?_
      refine V.callV (pc := 257) d_R_doAction_257 Y_R_waitIn l_R_190 wi_R_waitIn wv_R_waitIn (ci := 6) rfl rfl [_, _, _] hR.o rfl rfl ⟨by repeat (first | exact trivial | refine ⟨(by first | rfl | exact vrf_cat _), ?_⟩), Nat.le_of_ble_eq_true rfl⟩ ⟨⟨rfl, (by first | rfl | exact vrf_cat _), (by first | rfl | exact vrf_cat _), (by first | rfl | exact vrf_cat _), trivial⟩, Nat.le_of_ble_eq_true rfl⟩ (r_waitIn hR (by omega)) (fun v hs ho => ?_) (fun E hs ho => by simp at ho)
      obtain ⟨ho, hR⟩ := ho
      cases ho
      refine V.goto (pc := 260) (tgt := 503) d_R_doAction_260 (by decide) ?_
      refine V.return_ (pc := 503) d_R_doAction_503 rfl ?_
      refine ⟨rfl, ?_⟩
      unfold z_da2
      (repeat' split) <;> first | exact hR | (exfalso; omega) | (simpa [up_f] using hR)
  · first | refine V.aload_nR (pc := 215) d_R_doAction_215 rfl ?_ | refine V.aload_n (pc := 215) d_R_doAction_215 rfl ?_
    refine V.iload (pc := 216) d_R_doAction_216 rfl ?_
    refine V.callV (pc := 218) d_R_doAction_218 Y_R_write l_R_180 wi_R_write wv_R_write (ci := 6) rfl rfl [_] hR.o rfl rfl ⟨by repeat (first | exact trivial | refine ⟨(by first | rfl | exact vrf_cat _), ?_⟩), Nat.le_of_ble_eq_true rfl⟩ ⟨⟨rfl, (by first | rfl | exact vrf_cat _), trivial⟩, Nat.le_of_ble_eq_true rfl⟩ (r_write hR (by omega)) (fun v hs ho => ?_) (fun E hs ho => by simp at ho)
    obtain ⟨ho, hR⟩ := ho
    cases ho
    refine V.goto (pc := 221) (tgt := 503) d_R_doAction_221 (by decide) ?_
    refine V.return_ (pc := 503) d_R_doAction_503 rfl ?_
    refine ⟨rfl, ?_⟩
    unfold z_da2
    (repeat' split) <;> first | exact hR | (exfalso; omega) | (simpa [up_f] using hR)
end RB
