/-! the reference's constructor -/
section KQ
variable {w : jw} {M : jm} {d pc : Nat} {L : List (Nat × Value)} {st : List Value} {Q : jo → jh → Prop} {hs hs0 : jh} {q n u ci : Nat} {ct : Nat → va_E} {ad : Nat → Nat} {e E : va_E}
theorem Vh.putF {idx k : Nat} {fs : List Value} {v : Value} {ty : FieldType} (hdg : decode M.2.2.1 pc = .ok (.putfield idx, 3)) (hF : jF jcl M.1 idx ci k true ty) (hM : M.2.1 = "<init>") (hB : Bl hs0 q ct ad n (.inr (ci, fs)) u hs) (hn : narrow ty v = v) (hfit : fits ty v = true) (hlen : k < fs.length) (fs' : List Value) (he : fs.set k v = fs') (kk : ∀ hs', Bl hs0 q ct ad n (.inr (ci, fs')) u hs' → V jcl w M d (pc + 3) L st hs' Q) : V jcl w M d pc L (v :: .ref q :: st) hs Q := by
  subst he
  exact Vg.putF hdg hF hM hB hn hfit hlen kk
theorem Vh.put {idx k : Nat} {fs : List Value} {v : Value} {ty : FieldType} (hdg : decode M.2.2.1 pc = .ok (.putfield idx, 3)) (hF : jF jcl M.1 idx ci k false ty) (hB : Bl hs0 q ct ad n (.inr (ci, fs)) u hs) (hn : narrow ty v = v) (hfit : fits ty v = true) (hlen : k < fs.length) (fs' : List Value) (he : fs.set k v = fs') (kk : ∀ hs', Bl hs0 q ct ad n (.inr (ci, fs')) u hs' → V jcl w M d (pc + 3) L st hs' Q) : V jcl w M d pc L (v :: .ref q :: st) hs Q := by
  subst he
  exact Vg.put hdg hF hB hn hfit hlen kk
def ctR (w : jw) : Nat → va_E := fun k => .inl (jcA w (rz (k + 11)), rlen (k + 11), .inl (fun _ => 0))
theorem Bl.nr (h : Bl hs0 q (fun k => if k = n then E else ctR w k) ad (n + 1) e u hs) (hE : E = ctR w n) : Bl hs0 q (ctR w) ad (n + 1) e u hs := by
  refine Bl.cg h (fun k hk => ?_) (fun _ _ => rfl)
  by_cases hkn : k = n
  · rw [if_pos hkn, hkn, hE]
  · rw [if_neg hkn]
/-- one array more: its address is the n-th -/
theorem Bl.nad {r : Nat} (h : Bl hs0 q ct (fun k => if k = n then r else ad k) (n + 1) e u hs) : ∃ ad' : Nat → Nat, Bl hs0 q ct ad' (n + 1) e u hs ∧ ad' n = r ∧ ∀ k, k < n → ad' k = ad k := ⟨_, h, if_pos rfl, fun k hk => if_neg (by omega)⟩
/-- the state at the start -/
def z0 : js := fun f _ => if f = 8 then -1 else 0
def dR : List Value := [.int 0, .int 0, .int 0, .int 0, .int 0, .int 0, .int 0, .int 0, .int 0, .int 0, .int 0, .null, .null, .null, .null, .null, .null, .null, .null, .null, .null, .null, .null, .null, .null, .null, .null, .null, .null, .null, .null, .null, .null, .null, .null, .null, .null, .null, .null, .null, .null]
theorem def_R : ∀ j, j < 41 → defaultValue (kt_R j) = vp_V dR j := fun j hj => by
  have : j = 0 ∨ j = 1 ∨ j = 2 ∨ j = 3 ∨ j = 4 ∨ j = 5 ∨ j = 6 ∨ j = 7 ∨ j = 8 ∨ j = 9 ∨ j = 10 ∨ j = 11 ∨ j = 12 ∨ j = 13 ∨ j = 14 ∨ j = 15 ∨ j = 16 ∨ j = 17 ∨ j = 18 ∨ j = 19 ∨ j = 20 ∨ j = 21 ∨ j = 22 ∨ j = 23 ∨ j = 24 ∨ j = 25 ∨ j = 26 ∨ j = 27 ∨ j = 28 ∨ j = 29 ∨ j = 30 ∨ j = 31 ∨ j = 32 ∨ j = 33 ∨ j = 34 ∨ j = 35 ∨ j = 36 ∨ j = 37 ∨ j = 38 ∨ j = 39 ∨ j = 40 := by omega
  rcases this with rfl | rfl | rfl | rfl | rfl | rfl | rfl | rfl | rfl | rfl | rfl | rfl | rfl | rfl | rfl | rfl | rfl | rfl | rfl | rfl | rfl | rfl | rfl | rfl | rfl | rfl | rfl | rfl | rfl | rfl | rfl | rfl | rfl | rfl | rfl | rfl | rfl | rfl | rfl | rfl | rfl <;> rfl
theorem c_Ri6 (hw : jWf w) (h0 : 30 ≤ hs0.2.1 ∧ 2000 ≤ hs0.2.2) (hB : Bl hs0 q (ctR w) ad 25 (.inr (6, (.int (ii 0) :: .int (ii 0) :: .int (ii 0) :: .int (ii 0) :: .int (ii 0) :: .int (ii 0) :: .int (ii 0) :: .int (ii 0) :: .int (ii (-1)) :: .int (ii 0) :: .int (ii 0) :: .ref (ad 0) :: .ref (ad 1) :: .ref (ad 2) :: .ref (ad 3) :: .ref (ad 4) :: .ref (ad 5) :: .ref (ad 6) :: .ref (ad 7) :: .ref (ad 8) :: .ref (ad 9) :: .ref (ad 10) :: .ref (ad 11) :: .ref (ad 12) :: .ref (ad 13) :: .ref (ad 14) :: .ref (ad 15) :: .ref (ad 16) :: .ref (ad 17) :: .ref (ad 18) :: .ref (ad 19) :: .ref (ad 20) :: .ref (ad 21) :: .ref (ad 22) :: .ref (ad 23) :: .ref (ad 24) :: .null :: .null :: .null :: .null :: .null :: []))) 1198 hs) : V jcl w m_R_init (d + 1) 262 [(0, .ref q)] [] hs (fun o hs' => ∃ ad, o = .inl none ∧ ∃ u, u ≤ 2000 ∧ Bl hs0 q (ctR w) ad 30 (.inr (6, rfs z0 (fun f => ad (f - 11)))) u hs') := by
  refine V.aload_nR (pc := 262) d_R_init_262 rfl ?_
  refine Vi.sipush (pc := 263) d_R_init_263 (by decide) ?_
  refine Vg.newi (pc := 266) (N := 144) d_R_init_266 hw (by decide) (by decide) (by decide) hB (by omega) (fun r hs hBn => ?_)
  obtain ⟨ad, hB, hr, ho⟩ := (hBn.nr rfl).nad
  clear hBn
  rw [← ho 0 (by decide), ← ho 1 (by decide), ← ho 2 (by decide), ← ho 3 (by decide), ← ho 4 (by decide), ← ho 5 (by decide), ← ho 6 (by decide), ← ho 7 (by decide), ← ho 8 (by decide), ← ho 9 (by decide), ← ho 10 (by decide), ← ho 11 (by decide), ← ho 12 (by decide), ← ho 13 (by decide), ← ho 14 (by decide), ← ho 15 (by decide), ← ho 16 (by decide), ← ho 17 (by decide), ← ho 18 (by decide), ← ho 19 (by decide), ← ho 20 (by decide), ← ho 21 (by decide), ← ho 22 (by decide), ← ho 23 (by decide), ← ho 24 (by decide)] at hB
  subst hr
  refine Vh.putF (pc := 268) d_R_init_268 f_R_121 rfl hB rfl rfl (Nat.le_of_ble_eq_true rfl) (.int (ii 0) :: .int (ii 0) :: .int (ii 0) :: .int (ii 0) :: .int (ii 0) :: .int (ii 0) :: .int (ii 0) :: .int (ii 0) :: .int (ii (-1)) :: .int (ii 0) :: .int (ii 0) :: .ref (ad 0) :: .ref (ad 1) :: .ref (ad 2) :: .ref (ad 3) :: .ref (ad 4) :: .ref (ad 5) :: .ref (ad 6) :: .ref (ad 7) :: .ref (ad 8) :: .ref (ad 9) :: .ref (ad 10) :: .ref (ad 11) :: .ref (ad 12) :: .ref (ad 13) :: .ref (ad 14) :: .ref (ad 15) :: .ref (ad 16) :: .ref (ad 17) :: .ref (ad 18) :: .ref (ad 19) :: .ref (ad 20) :: .ref (ad 21) :: .ref (ad 22) :: .ref (ad 23) :: .ref (ad 24) :: .ref (ad 25) :: .null :: .null :: .null :: .null :: []) rfl (fun hs hB => ?_)
  refine V.aload_nR (pc := 271) d_R_init_271 rfl ?_
  refine Vi.sipush (pc := 272) d_R_init_272 (by decide) ?_
  refine Vg.newi (pc := 275) (N := 144) d_R_init_275 hw (by decide) (by decide) (by decide) hB (by omega) (fun r hs hBn => ?_)
  obtain ⟨ad, hB, hr, ho⟩ := (hBn.nr rfl).nad
  clear hBn
  rw [← ho 0 (by decide), ← ho 1 (by decide), ← ho 2 (by decide), ← ho 3 (by decide), ← ho 4 (by decide), ← ho 5 (by decide), ← ho 6 (by decide), ← ho 7 (by decide), ← ho 8 (by decide), ← ho 9 (by decide), ← ho 10 (by decide), ← ho 11 (by decide), ← ho 12 (by decide), ← ho 13 (by decide), ← ho 14 (by decide), ← ho 15 (by decide), ← ho 16 (by decide), ← ho 17 (by decide), ← ho 18 (by decide), ← ho 19 (by decide), ← ho 20 (by decide), ← ho 21 (by decide), ← ho 22 (by decide), ← ho 23 (by decide), ← ho 24 (by decide), ← ho 25 (by decide)] at hB
  subst hr
  refine Vh.putF (pc := 277) d_R_init_277 f_R_124 rfl hB rfl rfl (Nat.le_of_ble_eq_true rfl) (.int (ii 0) :: .int (ii 0) :: .int (ii 0) :: .int (ii 0) :: .int (ii 0) :: .int (ii 0) :: .int (ii 0) :: .int (ii 0) :: .int (ii (-1)) :: .int (ii 0) :: .int (ii 0) :: .ref (ad 0) :: .ref (ad 1) :: .ref (ad 2) :: .ref (ad 3) :: .ref (ad 4) :: .ref (ad 5) :: .ref (ad 6) :: .ref (ad 7) :: .ref (ad 8) :: .ref (ad 9) :: .ref (ad 10) :: .ref (ad 11) :: .ref (ad 12) :: .ref (ad 13) :: .ref (ad 14) :: .ref (ad 15) :: .ref (ad 16) :: .ref (ad 17) :: .ref (ad 18) :: .ref (ad 19) :: .ref (ad 20) :: .ref (ad 21) :: .ref (ad 22) :: .ref (ad 23) :: .ref (ad 24) :: .ref (ad 25) :: .ref (ad 26) :: .null :: .null :: .null :: []) rfl (fun hs hB => ?_)
  refine V.aload_nR (pc := 280) d_R_init_280 rfl ?_
  refine Vi.bipush (pc := 281) d_R_init_281 (by decide) ?_
  refine Vg.newi (pc := 283) (N := 24) d_R_init_283 hw (by decide) (by decide) (by decide) hB (by omega) (fun r hs hBn => ?_)
  obtain ⟨ad, hB, hr, ho⟩ := (hBn.nr rfl).nad
  clear hBn
  rw [← ho 0 (by decide), ← ho 1 (by decide), ← ho 2 (by decide), ← ho 3 (by decide), ← ho 4 (by decide), ← ho 5 (by decide), ← ho 6 (by decide), ← ho 7 (by decide), ← ho 8 (by decide), ← ho 9 (by decide), ← ho 10 (by decide), ← ho 11 (by decide), ← ho 12 (by decide), ← ho 13 (by decide), ← ho 14 (by decide), ← ho 15 (by decide), ← ho 16 (by decide), ← ho 17 (by decide), ← ho 18 (by decide), ← ho 19 (by decide), ← ho 20 (by decide), ← ho 21 (by decide), ← ho 22 (by decide), ← ho 23 (by decide), ← ho 24 (by decide), ← ho 25 (by decide), ← ho 26 (by decide)] at hB
  subst hr
  refine Vh.putF (pc := 285) d_R_init_285 f_R_127 rfl hB rfl rfl (Nat.le_of_ble_eq_true rfl) (.int (ii 0) :: .int (ii 0) :: .int (ii 0) :: .int (ii 0) :: .int (ii 0) :: .int (ii 0) :: .int (ii 0) :: .int (ii 0) :: .int (ii (-1)) :: .int (ii 0) :: .int (ii 0) :: .ref (ad 0) :: .ref (ad 1) :: .ref (ad 2) :: .ref (ad 3) :: .ref (ad 4) :: .ref (ad 5) :: .ref (ad 6) :: .ref (ad 7) :: .ref (ad 8) :: .ref (ad 9) :: .ref (ad 10) :: .ref (ad 11) :: .ref (ad 12) :: .ref (ad 13) :: .ref (ad 14) :: .ref (ad 15) :: .ref (ad 16) :: .ref (ad 17) :: .ref (ad 18) :: .ref (ad 19) :: .ref (ad 20) :: .ref (ad 21) :: .ref (ad 22) :: .ref (ad 23) :: .ref (ad 24) :: .ref (ad 25) :: .ref (ad 26) :: .ref (ad 27) :: .null :: .null :: []) rfl (fun hs hB => ?_)
  refine V.aload_nR (pc := 288) d_R_init_288 rfl ?_
  refine Vi.bipush (pc := 289) d_R_init_289 (by decide) ?_
  refine Vg.newi (pc := 291) (N := 24) d_R_init_291 hw (by decide) (by decide) (by decide) hB (by omega) (fun r hs hBn => ?_)
  obtain ⟨ad, hB, hr, ho⟩ := (hBn.nr rfl).nad
  clear hBn
  rw [← ho 0 (by decide), ← ho 1 (by decide), ← ho 2 (by decide), ← ho 3 (by decide), ← ho 4 (by decide), ← ho 5 (by decide), ← ho 6 (by decide), ← ho 7 (by decide), ← ho 8 (by decide), ← ho 9 (by decide), ← ho 10 (by decide), ← ho 11 (by decide), ← ho 12 (by decide), ← ho 13 (by decide), ← ho 14 (by decide), ← ho 15 (by decide), ← ho 16 (by decide), ← ho 17 (by decide), ← ho 18 (by decide), ← ho 19 (by decide), ← ho 20 (by decide), ← ho 21 (by decide), ← ho 22 (by decide), ← ho 23 (by decide), ← ho 24 (by decide), ← ho 25 (by decide), ← ho 26 (by decide), ← ho 27 (by decide)] at hB
  subst hr
  refine Vh.putF (pc := 293) d_R_init_293 f_R_130 rfl hB rfl rfl (Nat.le_of_ble_eq_true rfl) (.int (ii 0) :: .int (ii 0) :: .int (ii 0) :: .int (ii 0) :: .int (ii 0) :: .int (ii 0) :: .int (ii 0) :: .int (ii 0) :: .int (ii (-1)) :: .int (ii 0) :: .int (ii 0) :: .ref (ad 0) :: .ref (ad 1) :: .ref (ad 2) :: .ref (ad 3) :: .ref (ad 4) :: .ref (ad 5) :: .ref (ad 6) :: .ref (ad 7) :: .ref (ad 8) :: .ref (ad 9) :: .ref (ad 10) :: .ref (ad 11) :: .ref (ad 12) :: .ref (ad 13) :: .ref (ad 14) :: .ref (ad 15) :: .ref (ad 16) :: .ref (ad 17) :: .ref (ad 18) :: .ref (ad 19) :: .ref (ad 20) :: .ref (ad 21) :: .ref (ad 22) :: .ref (ad 23) :: .ref (ad 24) :: .ref (ad 25) :: .ref (ad 26) :: .ref (ad 27) :: .ref (ad 28) :: .null :: []) rfl (fun hs hB => ?_)
  refine V.aload_nR (pc := 296) d_R_init_296 rfl ?_
  refine Vi.bipush (pc := 297) d_R_init_297 (by decide) ?_
  refine Vg.newi (pc := 299) (N := 24) d_R_init_299 hw (by decide) (by decide) (by decide) hB (by omega) (fun r hs hBn => ?_)
  obtain ⟨ad, hB, hr, ho⟩ := (hBn.nr rfl).nad
  clear hBn
  rw [← ho 0 (by decide), ← ho 1 (by decide), ← ho 2 (by decide), ← ho 3 (by decide), ← ho 4 (by decide), ← ho 5 (by decide), ← ho 6 (by decide), ← ho 7 (by decide), ← ho 8 (by decide), ← ho 9 (by decide), ← ho 10 (by decide), ← ho 11 (by decide), ← ho 12 (by decide), ← ho 13 (by decide), ← ho 14 (by decide), ← ho 15 (by decide), ← ho 16 (by decide), ← ho 17 (by decide), ← ho 18 (by decide), ← ho 19 (by decide), ← ho 20 (by decide), ← ho 21 (by decide), ← ho 22 (by decide), ← ho 23 (by decide), ← ho 24 (by decide), ← ho 25 (by decide), ← ho 26 (by decide), ← ho 27 (by decide), ← ho 28 (by decide)] at hB
  subst hr
  refine Vh.putF (pc := 301) d_R_init_301 f_R_133 rfl hB rfl rfl (Nat.le_of_ble_eq_true rfl) (.int (ii 0) :: .int (ii 0) :: .int (ii 0) :: .int (ii 0) :: .int (ii 0) :: .int (ii 0) :: .int (ii 0) :: .int (ii 0) :: .int (ii (-1)) :: .int (ii 0) :: .int (ii 0) :: .ref (ad 0) :: .ref (ad 1) :: .ref (ad 2) :: .ref (ad 3) :: .ref (ad 4) :: .ref (ad 5) :: .ref (ad 6) :: .ref (ad 7) :: .ref (ad 8) :: .ref (ad 9) :: .ref (ad 10) :: .ref (ad 11) :: .ref (ad 12) :: .ref (ad 13) :: .ref (ad 14) :: .ref (ad 15) :: .ref (ad 16) :: .ref (ad 17) :: .ref (ad 18) :: .ref (ad 19) :: .ref (ad 20) :: .ref (ad 21) :: .ref (ad 22) :: .ref (ad 23) :: .ref (ad 24) :: .ref (ad 25) :: .ref (ad 26) :: .ref (ad 27) :: .ref (ad 28) :: .ref (ad 29) :: []) rfl (fun hs hB => ?_)
  refine V.return_ (pc := 304) d_R_init_304 rfl ?_
  exact ⟨ad, rfl, 1558, by decide, hB⟩
theorem c_Ri5 (hw : jWf w) (h0 : 30 ≤ hs0.2.1 ∧ 2000 ≤ hs0.2.2) (hB : Bl hs0 q (ctR w) ad 19 (.inr (6, (.int (ii 0) :: .int (ii 0) :: .int (ii 0) :: .int (ii 0) :: .int (ii 0) :: .int (ii 0) :: .int (ii 0) :: .int (ii 0) :: .int (ii (-1)) :: .int (ii 0) :: .int (ii 0) :: .ref (ad 0) :: .ref (ad 1) :: .ref (ad 2) :: .ref (ad 3) :: .ref (ad 4) :: .ref (ad 5) :: .ref (ad 6) :: .ref (ad 7) :: .ref (ad 8) :: .ref (ad 9) :: .ref (ad 10) :: .ref (ad 11) :: .ref (ad 12) :: .ref (ad 13) :: .ref (ad 14) :: .ref (ad 15) :: .ref (ad 16) :: .ref (ad 17) :: .ref (ad 18) :: .null :: .null :: .null :: .null :: .null :: .null :: .null :: .null :: .null :: .null :: .null :: []))) 694 hs) : V jcl w m_R_init (d + 1) 211 [(0, .ref q)] [] hs (fun o hs' => ∃ ad, o = .inl none ∧ ∃ u, u ≤ 2000 ∧ Bl hs0 q (ctR w) ad 30 (.inr (6, rfs z0 (fun f => ad (f - 11)))) u hs') := by
  refine V.aload_nR (pc := 211) d_R_init_211 rfl ?_
  refine Vi.bipush (pc := 212) d_R_init_212 (by decide) ?_
  refine Vg.newi (pc := 214) (N := 24) d_R_init_214 hw (by decide) (by decide) (by decide) hB (by omega) (fun r hs hBn => ?_)
  obtain ⟨ad, hB, hr, ho⟩ := (hBn.nr rfl).nad
  clear hBn
  rw [← ho 0 (by decide), ← ho 1 (by decide), ← ho 2 (by decide), ← ho 3 (by decide), ← ho 4 (by decide), ← ho 5 (by decide), ← ho 6 (by decide), ← ho 7 (by decide), ← ho 8 (by decide), ← ho 9 (by decide), ← ho 10 (by decide), ← ho 11 (by decide), ← ho 12 (by decide), ← ho 13 (by decide), ← ho 14 (by decide), ← ho 15 (by decide), ← ho 16 (by decide), ← ho 17 (by decide), ← ho 18 (by decide)] at hB
  subst hr
  refine Vh.putF (pc := 216) d_R_init_216 f_R_103 rfl hB rfl rfl (Nat.le_of_ble_eq_true rfl) (.int (ii 0) :: .int (ii 0) :: .int (ii 0) :: .int (ii 0) :: .int (ii 0) :: .int (ii 0) :: .int (ii 0) :: .int (ii 0) :: .int (ii (-1)) :: .int (ii 0) :: .int (ii 0) :: .ref (ad 0) :: .ref (ad 1) :: .ref (ad 2) :: .ref (ad 3) :: .ref (ad 4) :: .ref (ad 5) :: .ref (ad 6) :: .ref (ad 7) :: .ref (ad 8) :: .ref (ad 9) :: .ref (ad 10) :: .ref (ad 11) :: .ref (ad 12) :: .ref (ad 13) :: .ref (ad 14) :: .ref (ad 15) :: .ref (ad 16) :: .ref (ad 17) :: .ref (ad 18) :: .ref (ad 19) :: .null :: .null :: .null :: .null :: .null :: .null :: .null :: .null :: .null :: .null :: []) rfl (fun hs hB => ?_)
  refine V.aload_nR (pc := 219) d_R_init_219 rfl ?_
  refine Vi.bipush (pc := 220) d_R_init_220 (by decide) ?_
  refine Vg.newi (pc := 222) (N := 24) d_R_init_222 hw (by decide) (by decide) (by decide) hB (by omega) (fun r hs hBn => ?_)
  obtain ⟨ad, hB, hr, ho⟩ := (hBn.nr rfl).nad
  clear hBn
  rw [← ho 0 (by decide), ← ho 1 (by decide), ← ho 2 (by decide), ← ho 3 (by decide), ← ho 4 (by decide), ← ho 5 (by decide), ← ho 6 (by decide), ← ho 7 (by decide), ← ho 8 (by decide), ← ho 9 (by decide), ← ho 10 (by decide), ← ho 11 (by decide), ← ho 12 (by decide), ← ho 13 (by decide), ← ho 14 (by decide), ← ho 15 (by decide), ← ho 16 (by decide), ← ho 17 (by decide), ← ho 18 (by decide), ← ho 19 (by decide)] at hB
  subst hr
  refine Vh.putF (pc := 224) d_R_init_224 f_R_106 rfl hB rfl rfl (Nat.le_of_ble_eq_true rfl) (.int (ii 0) :: .int (ii 0) :: .int (ii 0) :: .int (ii 0) :: .int (ii 0) :: .int (ii 0) :: .int (ii 0) :: .int (ii 0) :: .int (ii (-1)) :: .int (ii 0) :: .int (ii 0) :: .ref (ad 0) :: .ref (ad 1) :: .ref (ad 2) :: .ref (ad 3) :: .ref (ad 4) :: .ref (ad 5) :: .ref (ad 6) :: .ref (ad 7) :: .ref (ad 8) :: .ref (ad 9) :: .ref (ad 10) :: .ref (ad 11) :: .ref (ad 12) :: .ref (ad 13) :: .ref (ad 14) :: .ref (ad 15) :: .ref (ad 16) :: .ref (ad 17) :: .ref (ad 18) :: .ref (ad 19) :: .ref (ad 20) :: .null :: .null :: .null :: .null :: .null :: .null :: .null :: .null :: .null :: []) rfl (fun hs hB => ?_)
  refine V.aload_nR (pc := 227) d_R_init_227 rfl ?_
  refine Vi.bipush (pc := 228) d_R_init_228 (by decide) ?_
  refine Vg.newi (pc := 230) (N := 24) d_R_init_230 hw (by decide) (by decide) (by decide) hB (by omega) (fun r hs hBn => ?_)
  obtain ⟨ad, hB, hr, ho⟩ := (hBn.nr rfl).nad
  clear hBn
  rw [← ho 0 (by decide), ← ho 1 (by decide), ← ho 2 (by decide), ← ho 3 (by decide), ← ho 4 (by decide), ← ho 5 (by decide), ← ho 6 (by decide), ← ho 7 (by decide), ← ho 8 (by decide), ← ho 9 (by decide), ← ho 10 (by decide), ← ho 11 (by decide), ← ho 12 (by decide), ← ho 13 (by decide), ← ho 14 (by decide), ← ho 15 (by decide), ← ho 16 (by decide), ← ho 17 (by decide), ← ho 18 (by decide), ← ho 19 (by decide), ← ho 20 (by decide)] at hB
  subst hr
  refine Vh.putF (pc := 232) d_R_init_232 f_R_109 rfl hB rfl rfl (Nat.le_of_ble_eq_true rfl) (.int (ii 0) :: .int (ii 0) :: .int (ii 0) :: .int (ii 0) :: .int (ii 0) :: .int (ii 0) :: .int (ii 0) :: .int (ii 0) :: .int (ii (-1)) :: .int (ii 0) :: .int (ii 0) :: .ref (ad 0) :: .ref (ad 1) :: .ref (ad 2) :: .ref (ad 3) :: .ref (ad 4) :: .ref (ad 5) :: .ref (ad 6) :: .ref (ad 7) :: .ref (ad 8) :: .ref (ad 9) :: .ref (ad 10) :: .ref (ad 11) :: .ref (ad 12) :: .ref (ad 13) :: .ref (ad 14) :: .ref (ad 15) :: .ref (ad 16) :: .ref (ad 17) :: .ref (ad 18) :: .ref (ad 19) :: .ref (ad 20) :: .ref (ad 21) :: .null :: .null :: .null :: .null :: .null :: .null :: .null :: .null :: []) rfl (fun hs hB => ?_)
  refine V.aload_nR (pc := 235) d_R_init_235 rfl ?_
  refine Vi.sipush (pc := 236) d_R_init_236 (by decide) ?_
  refine Vg.newi (pc := 239) (N := 144) d_R_init_239 hw (by decide) (by decide) (by decide) hB (by omega) (fun r hs hBn => ?_)
  obtain ⟨ad, hB, hr, ho⟩ := (hBn.nr rfl).nad
  clear hBn
  rw [← ho 0 (by decide), ← ho 1 (by decide), ← ho 2 (by decide), ← ho 3 (by decide), ← ho 4 (by decide), ← ho 5 (by decide), ← ho 6 (by decide), ← ho 7 (by decide), ← ho 8 (by decide), ← ho 9 (by decide), ← ho 10 (by decide), ← ho 11 (by decide), ← ho 12 (by decide), ← ho 13 (by decide), ← ho 14 (by decide), ← ho 15 (by decide), ← ho 16 (by decide), ← ho 17 (by decide), ← ho 18 (by decide), ← ho 19 (by decide), ← ho 20 (by decide), ← ho 21 (by decide)] at hB
  subst hr
  refine Vh.putF (pc := 241) d_R_init_241 f_R_112 rfl hB rfl rfl (Nat.le_of_ble_eq_true rfl) (.int (ii 0) :: .int (ii 0) :: .int (ii 0) :: .int (ii 0) :: .int (ii 0) :: .int (ii 0) :: .int (ii 0) :: .int (ii 0) :: .int (ii (-1)) :: .int (ii 0) :: .int (ii 0) :: .ref (ad 0) :: .ref (ad 1) :: .ref (ad 2) :: .ref (ad 3) :: .ref (ad 4) :: .ref (ad 5) :: .ref (ad 6) :: .ref (ad 7) :: .ref (ad 8) :: .ref (ad 9) :: .ref (ad 10) :: .ref (ad 11) :: .ref (ad 12) :: .ref (ad 13) :: .ref (ad 14) :: .ref (ad 15) :: .ref (ad 16) :: .ref (ad 17) :: .ref (ad 18) :: .ref (ad 19) :: .ref (ad 20) :: .ref (ad 21) :: .ref (ad 22) :: .null :: .null :: .null :: .null :: .null :: .null :: .null :: []) rfl (fun hs hB => ?_)
  refine V.aload_nR (pc := 244) d_R_init_244 rfl ?_
  refine Vi.sipush (pc := 245) d_R_init_245 (by decide) ?_
  refine Vg.newi (pc := 248) (N := 144) d_R_init_248 hw (by decide) (by decide) (by decide) hB (by omega) (fun r hs hBn => ?_)
  obtain ⟨ad, hB, hr, ho⟩ := (hBn.nr rfl).nad
  clear hBn
  rw [← ho 0 (by decide), ← ho 1 (by decide), ← ho 2 (by decide), ← ho 3 (by decide), ← ho 4 (by decide), ← ho 5 (by decide), ← ho 6 (by decide), ← ho 7 (by decide), ← ho 8 (by decide), ← ho 9 (by decide), ← ho 10 (by decide), ← ho 11 (by decide), ← ho 12 (by decide), ← ho 13 (by decide), ← ho 14 (by decide), ← ho 15 (by decide), ← ho 16 (by decide), ← ho 17 (by decide), ← ho 18 (by decide), ← ho 19 (by decide), ← ho 20 (by decide), ← ho 21 (by decide), ← ho 22 (by decide)] at hB
  subst hr
  refine Vh.putF (pc := 250) d_R_init_250 f_R_115 rfl hB rfl rfl (Nat.le_of_ble_eq_true rfl) (.int (ii 0) :: .int (ii 0) :: .int (ii 0) :: .int (ii 0) :: .int (ii 0) :: .int (ii 0) :: .int (ii 0) :: .int (ii 0) :: .int (ii (-1)) :: .int (ii 0) :: .int (ii 0) :: .ref (ad 0) :: .ref (ad 1) :: .ref (ad 2) :: .ref (ad 3) :: .ref (ad 4) :: .ref (ad 5) :: .ref (ad 6) :: .ref (ad 7) :: .ref (ad 8) :: .ref (ad 9) :: .ref (ad 10) :: .ref (ad 11) :: .ref (ad 12) :: .ref (ad 13) :: .ref (ad 14) :: .ref (ad 15) :: .ref (ad 16) :: .ref (ad 17) :: .ref (ad 18) :: .ref (ad 19) :: .ref (ad 20) :: .ref (ad 21) :: .ref (ad 22) :: .ref (ad 23) :: .null :: .null :: .null :: .null :: .null :: .null :: []) rfl (fun hs hB => ?_)
  refine V.aload_nR (pc := 253) d_R_init_253 rfl ?_
  refine Vi.sipush (pc := 254) d_R_init_254 (by decide) ?_
  refine Vg.newi (pc := 257) (N := 144) d_R_init_257 hw (by decide) (by decide) (by decide) hB (by omega) (fun r hs hBn => ?_)
  obtain ⟨ad, hB, hr, ho⟩ := (hBn.nr rfl).nad
  clear hBn
  rw [← ho 0 (by decide), ← ho 1 (by decide), ← ho 2 (by decide), ← ho 3 (by decide), ← ho 4 (by decide), ← ho 5 (by decide), ← ho 6 (by decide), ← ho 7 (by decide), ← ho 8 (by decide), ← ho 9 (by decide), ← ho 10 (by decide), ← ho 11 (by decide), ← ho 12 (by decide), ← ho 13 (by decide), ← ho 14 (by decide), ← ho 15 (by decide), ← ho 16 (by decide), ← ho 17 (by decide), ← ho 18 (by decide), ← ho 19 (by decide), ← ho 20 (by decide), ← ho 21 (by decide), ← ho 22 (by decide), ← ho 23 (by decide)] at hB
  subst hr
  refine Vh.putF (pc := 259) d_R_init_259 f_R_118 rfl hB rfl rfl (Nat.le_of_ble_eq_true rfl) (.int (ii 0) :: .int (ii 0) :: .int (ii 0) :: .int (ii 0) :: .int (ii 0) :: .int (ii 0) :: .int (ii 0) :: .int (ii 0) :: .int (ii (-1)) :: .int (ii 0) :: .int (ii 0) :: .ref (ad 0) :: .ref (ad 1) :: .ref (ad 2) :: .ref (ad 3) :: .ref (ad 4) :: .ref (ad 5) :: .ref (ad 6) :: .ref (ad 7) :: .ref (ad 8) :: .ref (ad 9) :: .ref (ad 10) :: .ref (ad 11) :: .ref (ad 12) :: .ref (ad 13) :: .ref (ad 14) :: .ref (ad 15) :: .ref (ad 16) :: .ref (ad 17) :: .ref (ad 18) :: .ref (ad 19) :: .ref (ad 20) :: .ref (ad 21) :: .ref (ad 22) :: .ref (ad 23) :: .ref (ad 24) :: .null :: .null :: .null :: .null :: .null :: []) rfl (fun hs hB => ?_)
  exact V.lop (c_Ri6 hw h0 hB) ⟨rfl, trivial⟩
theorem c_Ri4 (hw : jWf w) (h0 : 30 ≤ hs0.2.1 ∧ 2000 ≤ hs0.2.2) (hB : Bl hs0 q (ctR w) ad 13 (.inr (6, (.int (ii 0) :: .int (ii 0) :: .int (ii 0) :: .int (ii 0) :: .int (ii 0) :: .int (ii 0) :: .int (ii 0) :: .int (ii 0) :: .int (ii (-1)) :: .int (ii 0) :: .int (ii 0) :: .ref (ad 0) :: .ref (ad 1) :: .ref (ad 2) :: .ref (ad 3) :: .ref (ad 4) :: .ref (ad 5) :: .ref (ad 6) :: .ref (ad 7) :: .ref (ad 8) :: .ref (ad 9) :: .ref (ad 10) :: .ref (ad 11) :: .ref (ad 12) :: .null :: .null :: .null :: .null :: .null :: .null :: .null :: .null :: .null :: .null :: .null :: .null :: .null :: .null :: .null :: .null :: .null :: []))) 550 hs) : V jcl w m_R_init (d + 1) 163 [(0, .ref q)] [] hs (fun o hs' => ∃ ad, o = .inl none ∧ ∃ u, u ≤ 2000 ∧ Bl hs0 q (ctR w) ad 30 (.inr (6, rfs z0 (fun f => ad (f - 11)))) u hs') := by
  refine V.aload_nR (pc := 163) d_R_init_163 rfl ?_
  refine Vi.bipush (pc := 164) d_R_init_164 (by decide) ?_
  refine Vg.newz (pc := 166) (N := 24) d_R_init_166 hw (by decide) (by decide) (by decide) hB (by omega) (fun r hs hBn => ?_)
  obtain ⟨ad, hB, hr, ho⟩ := (hBn.nr rfl).nad
  clear hBn
  rw [← ho 0 (by decide), ← ho 1 (by decide), ← ho 2 (by decide), ← ho 3 (by decide), ← ho 4 (by decide), ← ho 5 (by decide), ← ho 6 (by decide), ← ho 7 (by decide), ← ho 8 (by decide), ← ho 9 (by decide), ← ho 10 (by decide), ← ho 11 (by decide), ← ho 12 (by decide)] at hB
  subst hr
  refine Vh.putF (pc := 168) d_R_init_168 f_R_84 rfl hB rfl rfl (Nat.le_of_ble_eq_true rfl) (.int (ii 0) :: .int (ii 0) :: .int (ii 0) :: .int (ii 0) :: .int (ii 0) :: .int (ii 0) :: .int (ii 0) :: .int (ii 0) :: .int (ii (-1)) :: .int (ii 0) :: .int (ii 0) :: .ref (ad 0) :: .ref (ad 1) :: .ref (ad 2) :: .ref (ad 3) :: .ref (ad 4) :: .ref (ad 5) :: .ref (ad 6) :: .ref (ad 7) :: .ref (ad 8) :: .ref (ad 9) :: .ref (ad 10) :: .ref (ad 11) :: .ref (ad 12) :: .ref (ad 13) :: .null :: .null :: .null :: .null :: .null :: .null :: .null :: .null :: .null :: .null :: .null :: .null :: .null :: .null :: .null :: .null :: []) rfl (fun hs hB => ?_)
  refine V.aload_nR (pc := 171) d_R_init_171 rfl ?_
  refine Vi.bipush (pc := 172) d_R_init_172 (by decide) ?_
  refine Vg.newz (pc := 174) (N := 24) d_R_init_174 hw (by decide) (by decide) (by decide) hB (by omega) (fun r hs hBn => ?_)
  obtain ⟨ad, hB, hr, ho⟩ := (hBn.nr rfl).nad
  clear hBn
  rw [← ho 0 (by decide), ← ho 1 (by decide), ← ho 2 (by decide), ← ho 3 (by decide), ← ho 4 (by decide), ← ho 5 (by decide), ← ho 6 (by decide), ← ho 7 (by decide), ← ho 8 (by decide), ← ho 9 (by decide), ← ho 10 (by decide), ← ho 11 (by decide), ← ho 12 (by decide), ← ho 13 (by decide)] at hB
  subst hr
  refine Vh.putF (pc := 176) d_R_init_176 f_R_88 rfl hB rfl rfl (Nat.le_of_ble_eq_true rfl) (.int (ii 0) :: .int (ii 0) :: .int (ii 0) :: .int (ii 0) :: .int (ii 0) :: .int (ii 0) :: .int (ii 0) :: .int (ii 0) :: .int (ii (-1)) :: .int (ii 0) :: .int (ii 0) :: .ref (ad 0) :: .ref (ad 1) :: .ref (ad 2) :: .ref (ad 3) :: .ref (ad 4) :: .ref (ad 5) :: .ref (ad 6) :: .ref (ad 7) :: .ref (ad 8) :: .ref (ad 9) :: .ref (ad 10) :: .ref (ad 11) :: .ref (ad 12) :: .ref (ad 13) :: .ref (ad 14) :: .null :: .null :: .null :: .null :: .null :: .null :: .null :: .null :: .null :: .null :: .null :: .null :: .null :: .null :: .null :: []) rfl (fun hs hB => ?_)
  refine V.aload_nR (pc := 179) d_R_init_179 rfl ?_
  refine Vi.bipush (pc := 180) d_R_init_180 (by decide) ?_
  refine Vg.newi (pc := 182) (N := 24) d_R_init_182 hw (by decide) (by decide) (by decide) hB (by omega) (fun r hs hBn => ?_)
  obtain ⟨ad, hB, hr, ho⟩ := (hBn.nr rfl).nad
  clear hBn
  rw [← ho 0 (by decide), ← ho 1 (by decide), ← ho 2 (by decide), ← ho 3 (by decide), ← ho 4 (by decide), ← ho 5 (by decide), ← ho 6 (by decide), ← ho 7 (by decide), ← ho 8 (by decide), ← ho 9 (by decide), ← ho 10 (by decide), ← ho 11 (by decide), ← ho 12 (by decide), ← ho 13 (by decide), ← ho 14 (by decide)] at hB
  subst hr
  refine Vh.putF (pc := 184) d_R_init_184 f_R_91 rfl hB rfl rfl (Nat.le_of_ble_eq_true rfl) (.int (ii 0) :: .int (ii 0) :: .int (ii 0) :: .int (ii 0) :: .int (ii 0) :: .int (ii 0) :: .int (ii 0) :: .int (ii 0) :: .int (ii (-1)) :: .int (ii 0) :: .int (ii 0) :: .ref (ad 0) :: .ref (ad 1) :: .ref (ad 2) :: .ref (ad 3) :: .ref (ad 4) :: .ref (ad 5) :: .ref (ad 6) :: .ref (ad 7) :: .ref (ad 8) :: .ref (ad 9) :: .ref (ad 10) :: .ref (ad 11) :: .ref (ad 12) :: .ref (ad 13) :: .ref (ad 14) :: .ref (ad 15) :: .null :: .null :: .null :: .null :: .null :: .null :: .null :: .null :: .null :: .null :: .null :: .null :: .null :: .null :: []) rfl (fun hs hB => ?_)
  refine V.aload_nR (pc := 187) d_R_init_187 rfl ?_
  refine Vi.bipush (pc := 188) d_R_init_188 (by decide) ?_
  refine Vg.newi (pc := 190) (N := 24) d_R_init_190 hw (by decide) (by decide) (by decide) hB (by omega) (fun r hs hBn => ?_)
  obtain ⟨ad, hB, hr, ho⟩ := (hBn.nr rfl).nad
  clear hBn
  rw [← ho 0 (by decide), ← ho 1 (by decide), ← ho 2 (by decide), ← ho 3 (by decide), ← ho 4 (by decide), ← ho 5 (by decide), ← ho 6 (by decide), ← ho 7 (by decide), ← ho 8 (by decide), ← ho 9 (by decide), ← ho 10 (by decide), ← ho 11 (by decide), ← ho 12 (by decide), ← ho 13 (by decide), ← ho 14 (by decide), ← ho 15 (by decide)] at hB
  subst hr
  refine Vh.putF (pc := 192) d_R_init_192 f_R_94 rfl hB rfl rfl (Nat.le_of_ble_eq_true rfl) (.int (ii 0) :: .int (ii 0) :: .int (ii 0) :: .int (ii 0) :: .int (ii 0) :: .int (ii 0) :: .int (ii 0) :: .int (ii 0) :: .int (ii (-1)) :: .int (ii 0) :: .int (ii 0) :: .ref (ad 0) :: .ref (ad 1) :: .ref (ad 2) :: .ref (ad 3) :: .ref (ad 4) :: .ref (ad 5) :: .ref (ad 6) :: .ref (ad 7) :: .ref (ad 8) :: .ref (ad 9) :: .ref (ad 10) :: .ref (ad 11) :: .ref (ad 12) :: .ref (ad 13) :: .ref (ad 14) :: .ref (ad 15) :: .ref (ad 16) :: .null :: .null :: .null :: .null :: .null :: .null :: .null :: .null :: .null :: .null :: .null :: .null :: .null :: []) rfl (fun hs hB => ?_)
  refine V.aload_nR (pc := 195) d_R_init_195 rfl ?_
  refine Vi.bipush (pc := 196) d_R_init_196 (by decide) ?_
  refine Vg.newi (pc := 198) (N := 24) d_R_init_198 hw (by decide) (by decide) (by decide) hB (by omega) (fun r hs hBn => ?_)
  obtain ⟨ad, hB, hr, ho⟩ := (hBn.nr rfl).nad
  clear hBn
  rw [← ho 0 (by decide), ← ho 1 (by decide), ← ho 2 (by decide), ← ho 3 (by decide), ← ho 4 (by decide), ← ho 5 (by decide), ← ho 6 (by decide), ← ho 7 (by decide), ← ho 8 (by decide), ← ho 9 (by decide), ← ho 10 (by decide), ← ho 11 (by decide), ← ho 12 (by decide), ← ho 13 (by decide), ← ho 14 (by decide), ← ho 15 (by decide), ← ho 16 (by decide)] at hB
  subst hr
  refine Vh.putF (pc := 200) d_R_init_200 f_R_97 rfl hB rfl rfl (Nat.le_of_ble_eq_true rfl) (.int (ii 0) :: .int (ii 0) :: .int (ii 0) :: .int (ii 0) :: .int (ii 0) :: .int (ii 0) :: .int (ii 0) :: .int (ii 0) :: .int (ii (-1)) :: .int (ii 0) :: .int (ii 0) :: .ref (ad 0) :: .ref (ad 1) :: .ref (ad 2) :: .ref (ad 3) :: .ref (ad 4) :: .ref (ad 5) :: .ref (ad 6) :: .ref (ad 7) :: .ref (ad 8) :: .ref (ad 9) :: .ref (ad 10) :: .ref (ad 11) :: .ref (ad 12) :: .ref (ad 13) :: .ref (ad 14) :: .ref (ad 15) :: .ref (ad 16) :: .ref (ad 17) :: .null :: .null :: .null :: .null :: .null :: .null :: .null :: .null :: .null :: .null :: .null :: .null :: []) rfl (fun hs hB => ?_)
  refine V.aload_nR (pc := 203) d_R_init_203 rfl ?_
  refine Vi.bipush (pc := 204) d_R_init_204 (by decide) ?_
  refine Vg.newi (pc := 206) (N := 24) d_R_init_206 hw (by decide) (by decide) (by decide) hB (by omega) (fun r hs hBn => ?_)
  obtain ⟨ad, hB, hr, ho⟩ := (hBn.nr rfl).nad
  clear hBn
  rw [← ho 0 (by decide), ← ho 1 (by decide), ← ho 2 (by decide), ← ho 3 (by decide), ← ho 4 (by decide), ← ho 5 (by decide), ← ho 6 (by decide), ← ho 7 (by decide), ← ho 8 (by decide), ← ho 9 (by decide), ← ho 10 (by decide), ← ho 11 (by decide), ← ho 12 (by decide), ← ho 13 (by decide), ← ho 14 (by decide), ← ho 15 (by decide), ← ho 16 (by decide), ← ho 17 (by decide)] at hB
  subst hr
  refine Vh.putF (pc := 208) d_R_init_208 f_R_100 rfl hB rfl rfl (Nat.le_of_ble_eq_true rfl) (.int (ii 0) :: .int (ii 0) :: .int (ii 0) :: .int (ii 0) :: .int (ii 0) :: .int (ii 0) :: .int (ii 0) :: .int (ii 0) :: .int (ii (-1)) :: .int (ii 0) :: .int (ii 0) :: .ref (ad 0) :: .ref (ad 1) :: .ref (ad 2) :: .ref (ad 3) :: .ref (ad 4) :: .ref (ad 5) :: .ref (ad 6) :: .ref (ad 7) :: .ref (ad 8) :: .ref (ad 9) :: .ref (ad 10) :: .ref (ad 11) :: .ref (ad 12) :: .ref (ad 13) :: .ref (ad 14) :: .ref (ad 15) :: .ref (ad 16) :: .ref (ad 17) :: .ref (ad 18) :: .null :: .null :: .null :: .null :: .null :: .null :: .null :: .null :: .null :: .null :: .null :: []) rfl (fun hs hB => ?_)
  exact V.lop (c_Ri5 hw h0 hB) ⟨rfl, trivial⟩
theorem c_Ri3 (hw : jWf w) (h0 : 30 ≤ hs0.2.1 ∧ 2000 ≤ hs0.2.2) (hB : Bl hs0 q (ctR w) ad 7 (.inr (6, (.int (ii 0) :: .int (ii 0) :: .int (ii 0) :: .int (ii 0) :: .int (ii 0) :: .int (ii 0) :: .int (ii 0) :: .int (ii 0) :: .int (ii (-1)) :: .int (ii 0) :: .int (ii 0) :: .ref (ad 0) :: .ref (ad 1) :: .ref (ad 2) :: .ref (ad 3) :: .ref (ad 4) :: .ref (ad 5) :: .ref (ad 6) :: .null :: .null :: .null :: .null :: .null :: .null :: .null :: .null :: .null :: .null :: .null :: .null :: .null :: .null :: .null :: .null :: .null :: .null :: .null :: .null :: .null :: .null :: .null :: []))) 358 hs) : V jcl w m_R_init (d + 1) 115 [(0, .ref q)] [] hs (fun o hs' => ∃ ad, o = .inl none ∧ ∃ u, u ≤ 2000 ∧ Bl hs0 q (ctR w) ad 30 (.inr (6, rfs z0 (fun f => ad (f - 11)))) u hs') := by
  refine V.aload_nR (pc := 115) d_R_init_115 rfl ?_
  refine Vi.bipush (pc := 116) d_R_init_116 (by decide) ?_
  refine Vg.newi (pc := 118) (N := 24) d_R_init_118 hw (by decide) (by decide) (by decide) hB (by omega) (fun r hs hBn => ?_)
  obtain ⟨ad, hB, hr, ho⟩ := (hBn.nr rfl).nad
  clear hBn
  rw [← ho 0 (by decide), ← ho 1 (by decide), ← ho 2 (by decide), ← ho 3 (by decide), ← ho 4 (by decide), ← ho 5 (by decide), ← ho 6 (by decide)] at hB
  subst hr
  refine Vh.putF (pc := 120) d_R_init_120 f_R_66 rfl hB rfl rfl (Nat.le_of_ble_eq_true rfl) (.int (ii 0) :: .int (ii 0) :: .int (ii 0) :: .int (ii 0) :: .int (ii 0) :: .int (ii 0) :: .int (ii 0) :: .int (ii 0) :: .int (ii (-1)) :: .int (ii 0) :: .int (ii 0) :: .ref (ad 0) :: .ref (ad 1) :: .ref (ad 2) :: .ref (ad 3) :: .ref (ad 4) :: .ref (ad 5) :: .ref (ad 6) :: .ref (ad 7) :: .null :: .null :: .null :: .null :: .null :: .null :: .null :: .null :: .null :: .null :: .null :: .null :: .null :: .null :: .null :: .null :: .null :: .null :: .null :: .null :: .null :: .null :: []) rfl (fun hs hB => ?_)
  refine V.aload_nR (pc := 123) d_R_init_123 rfl ?_
  refine Vi.bipush (pc := 124) d_R_init_124 (by decide) ?_
  refine Vg.newi (pc := 126) (N := 24) d_R_init_126 hw (by decide) (by decide) (by decide) hB (by omega) (fun r hs hBn => ?_)
  obtain ⟨ad, hB, hr, ho⟩ := (hBn.nr rfl).nad
  clear hBn
  rw [← ho 0 (by decide), ← ho 1 (by decide), ← ho 2 (by decide), ← ho 3 (by decide), ← ho 4 (by decide), ← ho 5 (by decide), ← ho 6 (by decide), ← ho 7 (by decide)] at hB
  subst hr
  refine Vh.putF (pc := 128) d_R_init_128 f_R_69 rfl hB rfl rfl (Nat.le_of_ble_eq_true rfl) (.int (ii 0) :: .int (ii 0) :: .int (ii 0) :: .int (ii 0) :: .int (ii 0) :: .int (ii 0) :: .int (ii 0) :: .int (ii 0) :: .int (ii (-1)) :: .int (ii 0) :: .int (ii 0) :: .ref (ad 0) :: .ref (ad 1) :: .ref (ad 2) :: .ref (ad 3) :: .ref (ad 4) :: .ref (ad 5) :: .ref (ad 6) :: .ref (ad 7) :: .ref (ad 8) :: .null :: .null :: .null :: .null :: .null :: .null :: .null :: .null :: .null :: .null :: .null :: .null :: .null :: .null :: .null :: .null :: .null :: .null :: .null :: .null :: .null :: []) rfl (fun hs hB => ?_)
  refine V.aload_nR (pc := 131) d_R_init_131 rfl ?_
  refine Vi.bipush (pc := 132) d_R_init_132 (by decide) ?_
  refine Vg.newi (pc := 134) (N := 24) d_R_init_134 hw (by decide) (by decide) (by decide) hB (by omega) (fun r hs hBn => ?_)
  obtain ⟨ad, hB, hr, ho⟩ := (hBn.nr rfl).nad
  clear hBn
  rw [← ho 0 (by decide), ← ho 1 (by decide), ← ho 2 (by decide), ← ho 3 (by decide), ← ho 4 (by decide), ← ho 5 (by decide), ← ho 6 (by decide), ← ho 7 (by decide), ← ho 8 (by decide)] at hB
  subst hr
  refine Vh.putF (pc := 136) d_R_init_136 f_R_72 rfl hB rfl rfl (Nat.le_of_ble_eq_true rfl) (.int (ii 0) :: .int (ii 0) :: .int (ii 0) :: .int (ii 0) :: .int (ii 0) :: .int (ii 0) :: .int (ii 0) :: .int (ii 0) :: .int (ii (-1)) :: .int (ii 0) :: .int (ii 0) :: .ref (ad 0) :: .ref (ad 1) :: .ref (ad 2) :: .ref (ad 3) :: .ref (ad 4) :: .ref (ad 5) :: .ref (ad 6) :: .ref (ad 7) :: .ref (ad 8) :: .ref (ad 9) :: .null :: .null :: .null :: .null :: .null :: .null :: .null :: .null :: .null :: .null :: .null :: .null :: .null :: .null :: .null :: .null :: .null :: .null :: .null :: .null :: []) rfl (fun hs hB => ?_)
  refine V.aload_nR (pc := 139) d_R_init_139 rfl ?_
  refine Vi.bipush (pc := 140) d_R_init_140 (by decide) ?_
  refine Vg.newi (pc := 142) (N := 24) d_R_init_142 hw (by decide) (by decide) (by decide) hB (by omega) (fun r hs hBn => ?_)
  obtain ⟨ad, hB, hr, ho⟩ := (hBn.nr rfl).nad
  clear hBn
  rw [← ho 0 (by decide), ← ho 1 (by decide), ← ho 2 (by decide), ← ho 3 (by decide), ← ho 4 (by decide), ← ho 5 (by decide), ← ho 6 (by decide), ← ho 7 (by decide), ← ho 8 (by decide), ← ho 9 (by decide)] at hB
  subst hr
  refine Vh.putF (pc := 144) d_R_init_144 f_R_75 rfl hB rfl rfl (Nat.le_of_ble_eq_true rfl) (.int (ii 0) :: .int (ii 0) :: .int (ii 0) :: .int (ii 0) :: .int (ii 0) :: .int (ii 0) :: .int (ii 0) :: .int (ii 0) :: .int (ii (-1)) :: .int (ii 0) :: .int (ii 0) :: .ref (ad 0) :: .ref (ad 1) :: .ref (ad 2) :: .ref (ad 3) :: .ref (ad 4) :: .ref (ad 5) :: .ref (ad 6) :: .ref (ad 7) :: .ref (ad 8) :: .ref (ad 9) :: .ref (ad 10) :: .null :: .null :: .null :: .null :: .null :: .null :: .null :: .null :: .null :: .null :: .null :: .null :: .null :: .null :: .null :: .null :: .null :: .null :: .null :: []) rfl (fun hs hB => ?_)
  refine V.aload_nR (pc := 147) d_R_init_147 rfl ?_
  refine Vi.bipush (pc := 148) d_R_init_148 (by decide) ?_
  refine Vg.newi (pc := 150) (N := 72) d_R_init_150 hw (by decide) (by decide) (by decide) hB (by omega) (fun r hs hBn => ?_)
  obtain ⟨ad, hB, hr, ho⟩ := (hBn.nr rfl).nad
  clear hBn
  rw [← ho 0 (by decide), ← ho 1 (by decide), ← ho 2 (by decide), ← ho 3 (by decide), ← ho 4 (by decide), ← ho 5 (by decide), ← ho 6 (by decide), ← ho 7 (by decide), ← ho 8 (by decide), ← ho 9 (by decide), ← ho 10 (by decide)] at hB
  subst hr
  refine Vh.putF (pc := 152) d_R_init_152 f_R_78 rfl hB rfl rfl (Nat.le_of_ble_eq_true rfl) (.int (ii 0) :: .int (ii 0) :: .int (ii 0) :: .int (ii 0) :: .int (ii 0) :: .int (ii 0) :: .int (ii 0) :: .int (ii 0) :: .int (ii (-1)) :: .int (ii 0) :: .int (ii 0) :: .ref (ad 0) :: .ref (ad 1) :: .ref (ad 2) :: .ref (ad 3) :: .ref (ad 4) :: .ref (ad 5) :: .ref (ad 6) :: .ref (ad 7) :: .ref (ad 8) :: .ref (ad 9) :: .ref (ad 10) :: .ref (ad 11) :: .null :: .null :: .null :: .null :: .null :: .null :: .null :: .null :: .null :: .null :: .null :: .null :: .null :: .null :: .null :: .null :: .null :: .null :: []) rfl (fun hs hB => ?_)
  refine V.aload_nR (pc := 155) d_R_init_155 rfl ?_
  refine Vi.bipush (pc := 156) d_R_init_156 (by decide) ?_
  refine Vg.newi (pc := 158) (N := 24) d_R_init_158 hw (by decide) (by decide) (by decide) hB (by omega) (fun r hs hBn => ?_)
  obtain ⟨ad, hB, hr, ho⟩ := (hBn.nr rfl).nad
  clear hBn
  rw [← ho 0 (by decide), ← ho 1 (by decide), ← ho 2 (by decide), ← ho 3 (by decide), ← ho 4 (by decide), ← ho 5 (by decide), ← ho 6 (by decide), ← ho 7 (by decide), ← ho 8 (by decide), ← ho 9 (by decide), ← ho 10 (by decide), ← ho 11 (by decide)] at hB
  subst hr
  refine Vh.putF (pc := 160) d_R_init_160 f_R_81 rfl hB rfl rfl (Nat.le_of_ble_eq_true rfl) (.int (ii 0) :: .int (ii 0) :: .int (ii 0) :: .int (ii 0) :: .int (ii 0) :: .int (ii 0) :: .int (ii 0) :: .int (ii 0) :: .int (ii (-1)) :: .int (ii 0) :: .int (ii 0) :: .ref (ad 0) :: .ref (ad 1) :: .ref (ad 2) :: .ref (ad 3) :: .ref (ad 4) :: .ref (ad 5) :: .ref (ad 6) :: .ref (ad 7) :: .ref (ad 8) :: .ref (ad 9) :: .ref (ad 10) :: .ref (ad 11) :: .ref (ad 12) :: .null :: .null :: .null :: .null :: .null :: .null :: .null :: .null :: .null :: .null :: .null :: .null :: .null :: .null :: .null :: .null :: .null :: []) rfl (fun hs hB => ?_)
  exact V.lop (c_Ri4 hw h0 hB) ⟨rfl, trivial⟩
theorem c_Ri2 (hw : jWf w) (h0 : 30 ≤ hs0.2.1 ∧ 2000 ≤ hs0.2.2) (hB : Bl hs0 q (ctR w) ad 1 (.inr (6, (.int (ii 0) :: .int (ii 0) :: .int (ii 0) :: .int (ii 0) :: .int (ii 0) :: .int (ii 0) :: .int (ii 0) :: .int (ii 0) :: .int (ii (-1)) :: .int (ii 0) :: .int (ii 0) :: .ref (ad 0) :: .null :: .null :: .null :: .null :: .null :: .null :: .null :: .null :: .null :: .null :: .null :: .null :: .null :: .null :: .null :: .null :: .null :: .null :: .null :: .null :: .null :: .null :: .null :: .null :: .null :: .null :: .null :: .null :: .null :: []))) 10 hs) : V jcl w m_R_init (d + 1) 67 [(0, .ref q)] [] hs (fun o hs' => ∃ ad, o = .inl none ∧ ∃ u, u ≤ 2000 ∧ Bl hs0 q (ctR w) ad 30 (.inr (6, rfs z0 (fun f => ad (f - 11)))) u hs') := by
  refine V.aload_nR (pc := 67) d_R_init_67 rfl ?_
  refine Vi.bipush (pc := 68) d_R_init_68 (by decide) ?_
  refine Vg.newi (pc := 70) (N := 80) d_R_init_70 hw (by decide) (by decide) (by decide) hB (by omega) (fun r hs hBn => ?_)
  obtain ⟨ad, hB, hr, ho⟩ := (hBn.nr rfl).nad
  clear hBn
  rw [← ho 0 (by decide)] at hB
  subst hr
  refine Vh.putF (pc := 72) d_R_init_72 f_R_48 rfl hB rfl rfl (Nat.le_of_ble_eq_true rfl) (.int (ii 0) :: .int (ii 0) :: .int (ii 0) :: .int (ii 0) :: .int (ii 0) :: .int (ii 0) :: .int (ii 0) :: .int (ii 0) :: .int (ii (-1)) :: .int (ii 0) :: .int (ii 0) :: .ref (ad 0) :: .ref (ad 1) :: .null :: .null :: .null :: .null :: .null :: .null :: .null :: .null :: .null :: .null :: .null :: .null :: .null :: .null :: .null :: .null :: .null :: .null :: .null :: .null :: .null :: .null :: .null :: .null :: .null :: .null :: .null :: .null :: []) rfl (fun hs hB => ?_)
  refine V.aload_nR (pc := 75) d_R_init_75 rfl ?_
  refine Vi.bipush (pc := 76) d_R_init_76 (by decide) ?_
  refine Vg.newi (pc := 78) (N := 80) d_R_init_78 hw (by decide) (by decide) (by decide) hB (by omega) (fun r hs hBn => ?_)
  obtain ⟨ad, hB, hr, ho⟩ := (hBn.nr rfl).nad
  clear hBn
  rw [← ho 0 (by decide), ← ho 1 (by decide)] at hB
  subst hr
  refine Vh.putF (pc := 80) d_R_init_80 f_R_51 rfl hB rfl rfl (Nat.le_of_ble_eq_true rfl) (.int (ii 0) :: .int (ii 0) :: .int (ii 0) :: .int (ii 0) :: .int (ii 0) :: .int (ii 0) :: .int (ii 0) :: .int (ii 0) :: .int (ii (-1)) :: .int (ii 0) :: .int (ii 0) :: .ref (ad 0) :: .ref (ad 1) :: .ref (ad 2) :: .null :: .null :: .null :: .null :: .null :: .null :: .null :: .null :: .null :: .null :: .null :: .null :: .null :: .null :: .null :: .null :: .null :: .null :: .null :: .null :: .null :: .null :: .null :: .null :: .null :: .null :: .null :: []) rfl (fun hs hB => ?_)
  refine V.aload_nR (pc := 83) d_R_init_83 rfl ?_
  refine Vi.bipush (pc := 84) d_R_init_84 (by decide) ?_
  refine Vg.newi (pc := 86) (N := 80) d_R_init_86 hw (by decide) (by decide) (by decide) hB (by omega) (fun r hs hBn => ?_)
  obtain ⟨ad, hB, hr, ho⟩ := (hBn.nr rfl).nad
  clear hBn
  rw [← ho 0 (by decide), ← ho 1 (by decide), ← ho 2 (by decide)] at hB
  subst hr
  refine Vh.putF (pc := 88) d_R_init_88 f_R_54 rfl hB rfl rfl (Nat.le_of_ble_eq_true rfl) (.int (ii 0) :: .int (ii 0) :: .int (ii 0) :: .int (ii 0) :: .int (ii 0) :: .int (ii 0) :: .int (ii 0) :: .int (ii 0) :: .int (ii (-1)) :: .int (ii 0) :: .int (ii 0) :: .ref (ad 0) :: .ref (ad 1) :: .ref (ad 2) :: .ref (ad 3) :: .null :: .null :: .null :: .null :: .null :: .null :: .null :: .null :: .null :: .null :: .null :: .null :: .null :: .null :: .null :: .null :: .null :: .null :: .null :: .null :: .null :: .null :: .null :: .null :: .null :: .null :: []) rfl (fun hs hB => ?_)
  refine V.aload_nR (pc := 91) d_R_init_91 rfl ?_
  refine Vi.bipush (pc := 92) d_R_init_92 (by decide) ?_
  refine Vg.newi (pc := 94) (N := 60) d_R_init_94 hw (by decide) (by decide) (by decide) hB (by omega) (fun r hs hBn => ?_)
  obtain ⟨ad, hB, hr, ho⟩ := (hBn.nr rfl).nad
  clear hBn
  rw [← ho 0 (by decide), ← ho 1 (by decide), ← ho 2 (by decide), ← ho 3 (by decide)] at hB
  subst hr
  refine Vh.putF (pc := 96) d_R_init_96 f_R_57 rfl hB rfl rfl (Nat.le_of_ble_eq_true rfl) (.int (ii 0) :: .int (ii 0) :: .int (ii 0) :: .int (ii 0) :: .int (ii 0) :: .int (ii 0) :: .int (ii 0) :: .int (ii 0) :: .int (ii (-1)) :: .int (ii 0) :: .int (ii 0) :: .ref (ad 0) :: .ref (ad 1) :: .ref (ad 2) :: .ref (ad 3) :: .ref (ad 4) :: .null :: .null :: .null :: .null :: .null :: .null :: .null :: .null :: .null :: .null :: .null :: .null :: .null :: .null :: .null :: .null :: .null :: .null :: .null :: .null :: .null :: .null :: .null :: .null :: .null :: []) rfl (fun hs hB => ?_)
  refine V.aload_nR (pc := 99) d_R_init_99 rfl ?_
  refine Vi.bipush (pc := 100) d_R_init_100 (by decide) ?_
  refine Vg.newi (pc := 102) (N := 24) d_R_init_102 hw (by decide) (by decide) (by decide) hB (by omega) (fun r hs hBn => ?_)
  obtain ⟨ad, hB, hr, ho⟩ := (hBn.nr rfl).nad
  clear hBn
  rw [← ho 0 (by decide), ← ho 1 (by decide), ← ho 2 (by decide), ← ho 3 (by decide), ← ho 4 (by decide)] at hB
  subst hr
  refine Vh.putF (pc := 104) d_R_init_104 f_R_60 rfl hB rfl rfl (Nat.le_of_ble_eq_true rfl) (.int (ii 0) :: .int (ii 0) :: .int (ii 0) :: .int (ii 0) :: .int (ii 0) :: .int (ii 0) :: .int (ii 0) :: .int (ii 0) :: .int (ii (-1)) :: .int (ii 0) :: .int (ii 0) :: .ref (ad 0) :: .ref (ad 1) :: .ref (ad 2) :: .ref (ad 3) :: .ref (ad 4) :: .ref (ad 5) :: .null :: .null :: .null :: .null :: .null :: .null :: .null :: .null :: .null :: .null :: .null :: .null :: .null :: .null :: .null :: .null :: .null :: .null :: .null :: .null :: .null :: .null :: .null :: .null :: []) rfl (fun hs hB => ?_)
  refine V.aload_nR (pc := 107) d_R_init_107 rfl ?_
  refine Vi.bipush (pc := 108) d_R_init_108 (by decide) ?_
  refine Vg.newi (pc := 110) (N := 24) d_R_init_110 hw (by decide) (by decide) (by decide) hB (by omega) (fun r hs hBn => ?_)
  obtain ⟨ad, hB, hr, ho⟩ := (hBn.nr rfl).nad
  clear hBn
  rw [← ho 0 (by decide), ← ho 1 (by decide), ← ho 2 (by decide), ← ho 3 (by decide), ← ho 4 (by decide), ← ho 5 (by decide)] at hB
  subst hr
  refine Vh.putF (pc := 112) d_R_init_112 f_R_63 rfl hB rfl rfl (Nat.le_of_ble_eq_true rfl) (.int (ii 0) :: .int (ii 0) :: .int (ii 0) :: .int (ii 0) :: .int (ii 0) :: .int (ii 0) :: .int (ii 0) :: .int (ii 0) :: .int (ii (-1)) :: .int (ii 0) :: .int (ii 0) :: .ref (ad 0) :: .ref (ad 1) :: .ref (ad 2) :: .ref (ad 3) :: .ref (ad 4) :: .ref (ad 5) :: .ref (ad 6) :: .null :: .null :: .null :: .null :: .null :: .null :: .null :: .null :: .null :: .null :: .null :: .null :: .null :: .null :: .null :: .null :: .null :: .null :: .null :: .null :: .null :: .null :: .null :: []) rfl (fun hs hB => ?_)
  exact V.lop (c_Ri3 hw h0 hB) ⟨rfl, trivial⟩
theorem c_Ri1 (hw : jWf w) (h0 : 30 ≤ hs0.2.1 ∧ 2000 ≤ hs0.2.2) (hB : Bl hs0 q (ctR w) ad 0 (.inr (6, (.int (ii 0) :: .int (ii 0) :: .int (ii 0) :: .int (ii 0) :: .int (ii 0) :: .int (ii 0) :: .int 0 :: .int 0 :: .int 0 :: .int 0 :: .int 0 :: .null :: .null :: .null :: .null :: .null :: .null :: .null :: .null :: .null :: .null :: .null :: .null :: .null :: .null :: .null :: .null :: .null :: .null :: .null :: .null :: .null :: .null :: .null :: .null :: .null :: .null :: .null :: .null :: .null :: .null :: []))) 0 hs) : V jcl w m_R_init (d + 1) 34 [(0, .ref q)] [] hs (fun o hs' => ∃ ad, o = .inl none ∧ ∃ u, u ≤ 2000 ∧ Bl hs0 q (ctR w) ad 30 (.inr (6, rfs z0 (fun f => ad (f - 11)))) u hs') := by
  refine V.aload_nR (pc := 34) d_R_init_34 rfl ?_
  refine Vi.iconst (pc := 35) d_R_init_35 ?_
  refine Vh.put (pc := 36) d_R_init_36 f_R_28 hB rfl rfl (Nat.le_of_ble_eq_true rfl) (.int (ii 0) :: .int (ii 0) :: .int (ii 0) :: .int (ii 0) :: .int (ii 0) :: .int (ii 0) :: .int (ii 0) :: .int 0 :: .int 0 :: .int 0 :: .int 0 :: .null :: .null :: .null :: .null :: .null :: .null :: .null :: .null :: .null :: .null :: .null :: .null :: .null :: .null :: .null :: .null :: .null :: .null :: .null :: .null :: .null :: .null :: .null :: .null :: .null :: .null :: .null :: .null :: .null :: .null :: []) rfl (fun hs hB => ?_)
  refine V.aload_nR (pc := 39) d_R_init_39 rfl ?_
  refine Vi.iconst (pc := 40) d_R_init_40 ?_
  refine Vh.put (pc := 41) d_R_init_41 f_R_31 hB rfl rfl (Nat.le_of_ble_eq_true rfl) (.int (ii 0) :: .int (ii 0) :: .int (ii 0) :: .int (ii 0) :: .int (ii 0) :: .int (ii 0) :: .int (ii 0) :: .int (ii 0) :: .int 0 :: .int 0 :: .int 0 :: .null :: .null :: .null :: .null :: .null :: .null :: .null :: .null :: .null :: .null :: .null :: .null :: .null :: .null :: .null :: .null :: .null :: .null :: .null :: .null :: .null :: .null :: .null :: .null :: .null :: .null :: .null :: .null :: .null :: .null :: []) rfl (fun hs hB => ?_)
  refine V.aload_nR (pc := 44) d_R_init_44 rfl ?_
  refine Vi.iconst (pc := 45) d_R_init_45 ?_
  refine Vh.put (pc := 46) d_R_init_46 f_R_34 hB rfl rfl (Nat.le_of_ble_eq_true rfl) (.int (ii 0) :: .int (ii 0) :: .int (ii 0) :: .int (ii 0) :: .int (ii 0) :: .int (ii 0) :: .int (ii 0) :: .int (ii 0) :: .int (ii (-1)) :: .int 0 :: .int 0 :: .null :: .null :: .null :: .null :: .null :: .null :: .null :: .null :: .null :: .null :: .null :: .null :: .null :: .null :: .null :: .null :: .null :: .null :: .null :: .null :: .null :: .null :: .null :: .null :: .null :: .null :: .null :: .null :: .null :: .null :: []) rfl (fun hs hB => ?_)
  refine V.aload_nR (pc := 49) d_R_init_49 rfl ?_
  refine Vi.iconst (pc := 50) d_R_init_50 ?_
  refine Vh.put (pc := 51) d_R_init_51 f_R_37 hB rfl rfl (Nat.le_of_ble_eq_true rfl) (.int (ii 0) :: .int (ii 0) :: .int (ii 0) :: .int (ii 0) :: .int (ii 0) :: .int (ii 0) :: .int (ii 0) :: .int (ii 0) :: .int (ii (-1)) :: .int (ii 0) :: .int 0 :: .null :: .null :: .null :: .null :: .null :: .null :: .null :: .null :: .null :: .null :: .null :: .null :: .null :: .null :: .null :: .null :: .null :: .null :: .null :: .null :: .null :: .null :: .null :: .null :: .null :: .null :: .null :: .null :: .null :: .null :: []) rfl (fun hs hB => ?_)
  refine V.aload_nR (pc := 54) d_R_init_54 rfl ?_
  refine Vi.iconst (pc := 55) d_R_init_55 ?_
  refine Vh.put (pc := 56) d_R_init_56 f_R_40 hB rfl rfl (Nat.le_of_ble_eq_true rfl) (.int (ii 0) :: .int (ii 0) :: .int (ii 0) :: .int (ii 0) :: .int (ii 0) :: .int (ii 0) :: .int (ii 0) :: .int (ii 0) :: .int (ii (-1)) :: .int (ii 0) :: .int (ii 0) :: .null :: .null :: .null :: .null :: .null :: .null :: .null :: .null :: .null :: .null :: .null :: .null :: .null :: .null :: .null :: .null :: .null :: .null :: .null :: .null :: .null :: .null :: .null :: .null :: .null :: .null :: .null :: .null :: .null :: .null :: []) rfl (fun hs hB => ?_)
  refine V.aload_nR (pc := 59) d_R_init_59 rfl ?_
  refine Vi.bipush (pc := 60) d_R_init_60 (by decide) ?_
  refine Vg.newi (pc := 62) (N := 10) d_R_init_62 hw (by decide) (by decide) (by decide) hB (by omega) (fun r hs hBn => ?_)
  obtain ⟨ad, hB, hr, ho⟩ := (hBn.nr rfl).nad
  clear hBn
  subst hr
  refine Vh.putF (pc := 64) d_R_init_64 f_R_44 rfl hB rfl rfl (Nat.le_of_ble_eq_true rfl) (.int (ii 0) :: .int (ii 0) :: .int (ii 0) :: .int (ii 0) :: .int (ii 0) :: .int (ii 0) :: .int (ii 0) :: .int (ii 0) :: .int (ii (-1)) :: .int (ii 0) :: .int (ii 0) :: .ref (ad 0) :: .null :: .null :: .null :: .null :: .null :: .null :: .null :: .null :: .null :: .null :: .null :: .null :: .null :: .null :: .null :: .null :: .null :: .null :: .null :: .null :: .null :: .null :: .null :: .null :: .null :: .null :: .null :: .null :: .null :: []) rfl (fun hs hB => ?_)
  exact V.lop (c_Ri2 hw h0 hB) ⟨rfl, trivial⟩
theorem c_Ri0 (hw : jWf w) (h0 : 30 ≤ hs0.2.1 ∧ 2000 ≤ hs0.2.2) (hB : Bl hs0 q (ctR w) ad 0 (.inr (6, (.int 0 :: .int 0 :: .int 0 :: .int 0 :: .int 0 :: .int 0 :: .int 0 :: .int 0 :: .int 0 :: .int 0 :: .int 0 :: .null :: .null :: .null :: .null :: .null :: .null :: .null :: .null :: .null :: .null :: .null :: .null :: .null :: .null :: .null :: .null :: .null :: .null :: .null :: .null :: .null :: .null :: .null :: .null :: .null :: .null :: .null :: .null :: .null :: .null :: []))) 0 hs) : V jcl w m_R_init (d + 1) 0 [(0, .ref q)] [] hs (fun o hs' => ∃ ad, o = .inl none ∧ ∃ u, u ≤ 2000 ∧ Bl hs0 q (ctR w) ad 30 (.inr (6, rfs z0 (fun f => ad (f - 11)))) u hs') := by
  refine V.aload_nR (pc := 0) d_R_init_0 rfl ?_
  refine V.objInit (pc := 1) d_R_init_1 l_R_1 w_oi.1 w_oi.2 (Nat.le_of_ble_eq_true rfl) (by omega) ?_
  refine V.aload_nR (pc := 4) d_R_init_4 rfl ?_
  refine Vi.iconst (pc := 5) d_R_init_5 ?_
  refine Vh.put (pc := 6) d_R_init_6 f_R_7 hB rfl rfl (Nat.le_of_ble_eq_true rfl) (.int (ii 0) :: .int 0 :: .int 0 :: .int 0 :: .int 0 :: .int 0 :: .int 0 :: .int 0 :: .int 0 :: .int 0 :: .int 0 :: .null :: .null :: .null :: .null :: .null :: .null :: .null :: .null :: .null :: .null :: .null :: .null :: .null :: .null :: .null :: .null :: .null :: .null :: .null :: .null :: .null :: .null :: .null :: .null :: .null :: .null :: .null :: .null :: .null :: .null :: []) rfl (fun hs hB => ?_)
  refine V.aload_nR (pc := 9) d_R_init_9 rfl ?_
  refine Vi.iconst (pc := 10) d_R_init_10 ?_
  refine Vh.put (pc := 11) d_R_init_11 f_R_13 hB rfl rfl (Nat.le_of_ble_eq_true rfl) (.int (ii 0) :: .int (ii 0) :: .int 0 :: .int 0 :: .int 0 :: .int 0 :: .int 0 :: .int 0 :: .int 0 :: .int 0 :: .int 0 :: .null :: .null :: .null :: .null :: .null :: .null :: .null :: .null :: .null :: .null :: .null :: .null :: .null :: .null :: .null :: .null :: .null :: .null :: .null :: .null :: .null :: .null :: .null :: .null :: .null :: .null :: .null :: .null :: .null :: .null :: []) rfl (fun hs hB => ?_)
  refine V.aload_nR (pc := 14) d_R_init_14 rfl ?_
  refine Vi.iconst (pc := 15) d_R_init_15 ?_
  refine Vh.put (pc := 16) d_R_init_16 f_R_16 hB rfl rfl (Nat.le_of_ble_eq_true rfl) (.int (ii 0) :: .int (ii 0) :: .int (ii 0) :: .int 0 :: .int 0 :: .int 0 :: .int 0 :: .int 0 :: .int 0 :: .int 0 :: .int 0 :: .null :: .null :: .null :: .null :: .null :: .null :: .null :: .null :: .null :: .null :: .null :: .null :: .null :: .null :: .null :: .null :: .null :: .null :: .null :: .null :: .null :: .null :: .null :: .null :: .null :: .null :: .null :: .null :: .null :: .null :: []) rfl (fun hs hB => ?_)
  refine V.aload_nR (pc := 19) d_R_init_19 rfl ?_
  refine Vi.iconst (pc := 20) d_R_init_20 ?_
  refine Vh.put (pc := 21) d_R_init_21 f_R_19 hB rfl rfl (Nat.le_of_ble_eq_true rfl) (.int (ii 0) :: .int (ii 0) :: .int (ii 0) :: .int (ii 0) :: .int 0 :: .int 0 :: .int 0 :: .int 0 :: .int 0 :: .int 0 :: .int 0 :: .null :: .null :: .null :: .null :: .null :: .null :: .null :: .null :: .null :: .null :: .null :: .null :: .null :: .null :: .null :: .null :: .null :: .null :: .null :: .null :: .null :: .null :: .null :: .null :: .null :: .null :: .null :: .null :: .null :: .null :: []) rfl (fun hs hB => ?_)
  refine V.aload_nR (pc := 24) d_R_init_24 rfl ?_
  refine Vi.iconst (pc := 25) d_R_init_25 ?_
  refine Vh.put (pc := 26) d_R_init_26 f_R_22 hB rfl rfl (Nat.le_of_ble_eq_true rfl) (.int (ii 0) :: .int (ii 0) :: .int (ii 0) :: .int (ii 0) :: .int (ii 0) :: .int 0 :: .int 0 :: .int 0 :: .int 0 :: .int 0 :: .int 0 :: .null :: .null :: .null :: .null :: .null :: .null :: .null :: .null :: .null :: .null :: .null :: .null :: .null :: .null :: .null :: .null :: .null :: .null :: .null :: .null :: .null :: .null :: .null :: .null :: .null :: .null :: .null :: .null :: .null :: .null :: []) rfl (fun hs hB => ?_)
  refine V.aload_nR (pc := 29) d_R_init_29 rfl ?_
  refine Vi.iconst (pc := 30) d_R_init_30 ?_
  refine Vh.put (pc := 31) d_R_init_31 f_R_25 hB rfl rfl (Nat.le_of_ble_eq_true rfl) (.int (ii 0) :: .int (ii 0) :: .int (ii 0) :: .int (ii 0) :: .int (ii 0) :: .int (ii 0) :: .int 0 :: .int 0 :: .int 0 :: .int 0 :: .int 0 :: .null :: .null :: .null :: .null :: .null :: .null :: .null :: .null :: .null :: .null :: .null :: .null :: .null :: .null :: .null :: .null :: .null :: .null :: .null :: .null :: .null :: .null :: .null :: .null :: .null :: .null :: .null :: .null :: .null :: .null :: []) rfl (fun hs hB => ?_)
  exact V.lop (c_Ri1 hw h0 hB) ⟨rfl, trivial⟩
theorem c_Rinit (hw : jWf w) (h0 : 30 ≤ hs0.2.1 ∧ 2000 ≤ hs0.2.2) (hq : hs0.1 q = some (.inr (6, dR))) : V jcl w m_R_init (d + 1) 0 [(0, .ref q)] [] hs0 (fun o hs' => ∃ ad, o = .inl none ∧ ∃ u, u ≤ 2000 ∧ Bl hs0 q (ctR w) ad 30 (.inr (6, rfs z0 (fun f => ad (f - 11)))) u hs') :=
  c_Ri0 (ad := fun _ => 0) hw h0 (Bl.zero hq)
end KQ
