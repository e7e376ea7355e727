/-! perform -/
section KJ
variable {w : jw} {d : Nat} {hs : jh} {am : Nat → Int → Nat} {C S T U : js} {g : Nat → Option va_E} {b : Nat × Nat} {j m f x a c : Int}
theorem c_canWait (hx : jr x) : V jcl w m_A_canWait d 0 [(0, .int (ii x))] [] hs (fun o hs' => ∃ r : Int, o = .inl (some (.int (ii r))) ∧ (r = 1 ∧ PA x ∨ r = 0 ∧ ¬ PA x) ∧ hs' = hs) := by
  refine V.iload_n (pc := 0) d_A_canWait_0 rfl ?_
  refine Vi.tsw (pc := 1) (tgt := 58) d_A_canWait_1 (by first | assumption | omega | (simp [up, up_f] <;> omega)) (by decide) (fun s_1 => ?_) (fun n_1 s_1 z_1 => ?_)
  · refine Vi.iconst (pc := 58) d_A_canWait_58 ?_
    refine Vi.zreturn (pc := 59) d_A_canWait_59 rfl (by omega) ?_
    exact ⟨_, rfl, by omega, rfl⟩
  · have z_1 : n_1 < 10 := z_1
    have q_1 : n_1 = 0 ∨ n_1 = 1 ∨ n_1 = 2 ∨ n_1 = 3 ∨ n_1 = 4 ∨ n_1 = 5 ∨ n_1 = 6 ∨ n_1 = 7 ∨ n_1 = 8 ∨ n_1 = 9 := by omega
    rcases q_1 with rfl | rfl | rfl | rfl | rfl | rfl | rfl | rfl | rfl | rfl
    · refine Vi.atpc (pc := 56) (by rfl) ?_
      simp at s_1
      refine Vi.iconst (pc := 56) d_A_canWait_56 ?_
      refine Vi.zreturn (pc := 57) d_A_canWait_57 rfl (by omega) ?_
      exact ⟨_, rfl, by omega, rfl⟩
    · refine Vi.atpc (pc := 56) (by rfl) ?_
      simp at s_1
      refine Vi.iconst (pc := 56) d_A_canWait_56 ?_
      refine Vi.zreturn (pc := 57) d_A_canWait_57 rfl (by omega) ?_
      exact ⟨_, rfl, by omega, rfl⟩
    · refine Vi.atpc (pc := 58) (by rfl) ?_
      simp at s_1
      refine Vi.iconst (pc := 58) d_A_canWait_58 ?_
      refine Vi.zreturn (pc := 59) d_A_canWait_59 rfl (by omega) ?_
      exact ⟨_, rfl, by omega, rfl⟩
    · refine Vi.atpc (pc := 56) (by rfl) ?_
      simp at s_1
      refine Vi.iconst (pc := 56) d_A_canWait_56 ?_
      refine Vi.zreturn (pc := 57) d_A_canWait_57 rfl (by omega) ?_
      exact ⟨_, rfl, by omega, rfl⟩
    · refine Vi.atpc (pc := 56) (by rfl) ?_
      simp at s_1
      refine Vi.iconst (pc := 56) d_A_canWait_56 ?_
      refine Vi.zreturn (pc := 57) d_A_canWait_57 rfl (by omega) ?_
      exact ⟨_, rfl, by omega, rfl⟩
    · refine Vi.atpc (pc := 58) (by rfl) ?_
      simp at s_1
      refine Vi.iconst (pc := 58) d_A_canWait_58 ?_
      refine Vi.zreturn (pc := 59) d_A_canWait_59 rfl (by omega) ?_
      exact ⟨_, rfl, by omega, rfl⟩
    · refine Vi.atpc (pc := 58) (by rfl) ?_
      simp at s_1
      refine Vi.iconst (pc := 58) d_A_canWait_58 ?_
      refine Vi.zreturn (pc := 59) d_A_canWait_59 rfl (by omega) ?_
      exact ⟨_, rfl, by omega, rfl⟩
    · refine Vi.atpc (pc := 56) (by rfl) ?_
      simp at s_1
      refine Vi.iconst (pc := 56) d_A_canWait_56 ?_
      refine Vi.zreturn (pc := 57) d_A_canWait_57 rfl (by omega) ?_
      exact ⟨_, rfl, by omega, rfl⟩
    · refine Vi.atpc (pc := 56) (by rfl) ?_
      simp at s_1
      refine Vi.iconst (pc := 56) d_A_canWait_56 ?_
      refine Vi.zreturn (pc := 57) d_A_canWait_57 rfl (by omega) ?_
      exact ⟨_, rfl, by omega, rfl⟩
    · refine Vi.atpc (pc := 56) (by rfl) ?_
      simp at s_1
      refine Vi.iconst (pc := 56) d_A_canWait_56 ?_
      refine Vi.zreturn (pc := 57) d_A_canWait_57 rfl (by omega) ?_
      exact ⟨_, rfl, by omega, rfl⟩
theorem WR_f (hw : ¬ WR x a c) : (x = 1 ∨ x = 10 → 1 ≤ a ∧ a ≤ 50) ∧ (x = 3 ∨ x = 8 ∨ x = 9 ∨ (10 < x ∧ x < 14) → 0 ≤ a ∧ a ≤ 9) ∧ (x = 4 ∨ x = 5 → 0 ≤ a ∧ a < 3) ∧ (x = 6 → -1 ≤ a ∧ a ≤ 2) ∧ (x = 7 → 0 ≤ a ∧ a ≤ 99) ∧ (9 < x ∧ x < 13 → 0 ≤ c ∧ c ≤ 9) ∧ (x = 3 → 0 ≤ c ∧ c ≤ 2) := by
  unfold WR at hw
  refine ⟨fun z => ?_, fun z => ?_, fun z => ?_, fun z => ?_, fun z => ?_, fun z => ?_, fun z => ?_⟩ <;> omega
theorem k_pf2 (hm : 0 ≤ m) (hP : PR w am T g b hs) (hK : Kk j (m + 1) T) (h8 : T 8 0 = -1) (hf : f = j * 6 + T 21 j - 1) (hx : 0 ≤ x ∧ x ≤ 15) (ha : jr a) (hw : ¬ WR x a c) :
    V jcl w m_J_perform (d + 30) 83 [(0, .ref (am 0 0)), (1, .ref (am 10 j)), (2, .ref (am 15 f)), (3, .ref (am 6 (T 33 f))), (5, .int (ii x)), (6, .int (ii a)), (7, .int (ii c))] [] hs (Pz w am g b j m T (if NW x ∧ T 1 0 = 24 then up T 8 0 96 else z_da2 T j f x a c)) := by
  have hP' := hP
  obtain ⟨C, hC, hA, h6⟩ := hP
  have hC1 := hA.j1
  have hI := hK.1
  have hJ := hI.J
  have hj := hK.2.1.1
  have hrm := Ok.room hI hK.2.1
  have h0 := hK.2.2.2.2.1
  have hfr := hK.fr
  have hFJ := hfr.2
  rw [← hf] at hFJ
  unfold FJ at hFJ
  have hsz := hI.pg.1 (T 33 f) (by omega) (by omega)
  have h11 : C 11 (T 33 f) = T 11 (T 33 f) := hA.a1 11 _ (by unfold cm; omega)
  have h18 : C 18 j = T 18 j := hA.a1 18 j (by unfold cm; omega)
  have h19 : C 19 j = T 19 j := hA.a1 19 j (by unfold cm; omega)
  have hg19 : -1 ≤ T 19 j ∧ T 19 j ≤ 99 := (hI.gd.2.1 j hj.1 hj.2).2.2.1
  have h22 : ∀ i, C 22 i = T 22 i := fun i => hA.a1 22 i (by unfold cm; omega)
  have hsl : 0 ≤ a ∧ a < 3 → T 22 (j * 3 + a) = -1 ∨ (0 ≤ T 22 (j * 3 + a) ∧ T 22 (j * 3 + a) < T 1 0) ∧ T 16 (T 22 (j * 3 + a)) = j ∧ T 17 (T 22 (j * 3 + a)) = 1 := fun z => by
    rcases hI.sl j a hj.1 hj.2 z.1 z.2 with y | y
    · exact Or.inl y
    · exact Or.inr ⟨⟨by omega, y.2.1⟩, y.2.2⟩
  have h3 := hI.tm.1
  have hb3 : T 3 0 < 2000000000 := by have := hK.2.2.2.1; unfold Bd at this; omega
  have hrf : 0 ≤ f ∧ f < 6 * C 1 0 := by omega
  have hfp : 0 ≤ T 33 f ∧ T 33 f < 10 := by omega
  have p164 : V jcl w m_J_perform (d + 30) 164 [(0, .ref (am 0 0)), (6, .int (ii a))] [] hs (Pz w am g b j m T (z_write T a)) := by
    first | refine V.aload_nR (pc := 164) d_J_perform_164 rfl ?_ | refine V.aload_n (pc := 164) d_J_perform_164 rfl ?_
    refine V.iload (pc := 165) d_J_perform_165 rfl ?_
    refine V.callV (pc := 167) d_J_perform_167 Y_J_note l_J_219 wi_J_note wv_J_note (ci := 0) rfl rfl [_] hC.oJ rfl rfl ⟨by repeat (first | exact trivial | refine ⟨(by first | rfl | exact vrf_cat _), ?_⟩), Nat.le_of_ble_eq_true rfl⟩ ⟨⟨rfl, (by first | rfl | exact vrf_cat _), trivial⟩, Nat.le_of_ble_eq_true rfl⟩ (k_note hP' (by omega)) (fun v hs ho => ?_) (fun E hs ho => by first | (simp at ho; done) | (obtain ⟨_, _, ho, _⟩ := ho; cases ho))
    obtain ⟨ho, hP2⟩ := ho
    cases ho
    refine Vi.iconst (pc := 170) d_J_perform_170 ?_
    refine Vi.ireturn (pc := 171) d_J_perform_171 rfl ?_
    refine ⟨-1, am, rfl, ⟨rfl, rfl⟩, hP2, pq_write hK h8, ?_⟩
    rw [if_neg (by omega)]
    exact Tq.write.w
  have p172 : 1 ≤ a ∧ a ≤ 50 → V jcl w m_J_perform (d + 30) 172 [(0, .ref (am 0 0)), (1, .ref (am 10 j)), (6, .int (ii a))] [] hs (Pz w am g b j m T (z_waitIn (up (up T 29 j (T 2 0 + a)) 30 j (T 6 0)) j 1 (-1))) := by
    intro ha1
    have hA2 := hA.delay hI (j := j) (a := a) hj hK.2.1.2.1 (by omega)
    have o1 : up C 50 j 1 1 0 = C 1 0 := up_f (by decide)
    have hj5 : 0 ≤ j ∧ j < up C 50 j 1 1 0 := by omega
    first | refine V.aload_nR (pc := 172) d_J_perform_172 rfl ?_ | refine V.aload_n (pc := 172) d_J_perform_172 rfl ?_
    refine Vi.iconst (pc := 173) d_J_perform_173 ?_
    refine Vc.put_B13 (pc := 174) d_J_perform_174 f_J_158 hC (by first | assumption | omega | (simp [up, up_f] <;> omega)) (fun hs hC => ?_)
    first | refine V.aload_nR (pc := 177) d_J_perform_177 rfl ?_ | refine V.aload_n (pc := 177) d_J_perform_177 rfl ?_
    first | refine V.aload_nR (pc := 178) d_J_perform_178 rfl ?_ | refine V.aload_n (pc := 178) d_J_perform_178 rfl ?_
    refine Vc.get_B (pc := 179) d_J_perform_179 g_J_164 hC (by first | assumption | omega | (simp [up, up_f] <;> omega)) rfl ?_
    refine V.iload (pc := 182) d_J_perform_182 rfl ?_
    refine V.callV (pc := 184) d_J_perform_184 Y_J_beginTimer l_J_258 wi_J_beginTimer wv_J_beginTimer (ci := 0) rfl rfl [_, _] hC.oJ rfl rfl ⟨by repeat (first | exact trivial | refine ⟨(by first | rfl | exact vrf_cat _), ?_⟩), Nat.le_of_ble_eq_true rfl⟩ ⟨⟨rfl, (by first | rfl | exact vrf_cat _), (by first | rfl | exact vrf_cat _), trivial⟩, Nat.le_of_ble_eq_true rfl⟩ (c_beginTimer hC ⟨Or.inl rfl, hj5⟩) (fun v hs ho => ?_) (fun E hs ho => by first | (simp at ho; done) | (obtain ⟨_, _, ho, _⟩ := ho; cases ho))
    obtain ⟨ho, hC⟩ := ho
    cases ho
    refine Vi.bipush (pc := 187) d_J_perform_187 (by decide) ?_
    refine Vi.ireturn (pc := 189) d_J_perform_189 rfl ?_
    refine ⟨-2, am, rfl, ⟨rfl, rfl⟩, ⟨_, hC, hA2, h6.cg fun f i hf => by rcases hf with rfl | rfl <;> simp [c_timer, tdu, ttu, up]⟩, pq_delay hK ha1, ?_⟩
    rw [if_pos rfl]
    exact Tw.delay hj.1
  have p190 : V jcl w m_J_perform (d + 30) 190 [(0, .ref (am 0 0)), (1, .ref (am 10 j))] [] hs (Pz w am g b j m T (up (z_putReady T j (-1)) 10 0 1)) := by
    first | refine V.aload_nR (pc := 190) d_J_perform_190 rfl ?_ | refine V.aload_n (pc := 190) d_J_perform_190 rfl ?_
    first | refine V.aload_nR (pc := 191) d_J_perform_191 rfl ?_ | refine V.aload_n (pc := 191) d_J_perform_191 rfl ?_
    refine Vi.iconst (pc := 192) d_J_perform_192 ?_
    refine V.callV (pc := 193) d_J_perform_193 Y_J_makeReady l_J_154 wi_J_makeReady wv_J_makeReady (ci := 0) rfl rfl [_, _] hC.oJ rfl rfl ⟨by repeat (first | exact trivial | refine ⟨(by first | rfl | exact vrf_cat _), ?_⟩), Nat.le_of_ble_eq_true rfl⟩ ⟨⟨rfl, (by first | rfl | exact vrf_cat _), (by first | rfl | exact vrf_cat _), trivial⟩, Nat.le_of_ble_eq_true rfl⟩ (k_ready hP' hj hrm) (fun v hs ho => ?_) (fun E hs ho => by first | (simp at ho; done) | (obtain ⟨_, _, ho, _⟩ := ho; cases ho))
    obtain ⟨ho, hP2⟩ := ho
    cases ho
    refine Vi.bipush (pc := 196) d_J_perform_196 (by decide) ?_
    refine Vi.ireturn (pc := 198) d_J_perform_198 rfl ?_
    refine ⟨-2, am, rfl, ⟨rfl, rfl⟩, hP2.so (by omega), pq_yield hK, ?_⟩
    rw [if_pos rfl]
    exact ((Tq.ready.tr (Tq.cg fun f i hf => up_f (by omega))).w).le (by omega)
  have p199 : (0 ≤ a ∧ a ≤ 9) ∧ 0 ≤ c ∧ c ≤ 2 → V jcl w m_J_perform (d + 30) 199 [(0, .ref (am 0 0)), (1, .ref (am 10 j)), (6, .int (ii a)), (7, .int (ii c))] [] hs (Pz w am g b j m T (if T 1 0 = 24 then up T 8 0 96 else up (z_begin T a j 1) 22 (j * 3 + c) (T 1 0))) := by
    intro hac
    first | refine V.aload_nR (pc := 199) d_J_perform_199 rfl ?_ | refine V.aload_n (pc := 199) d_J_perform_199 rfl ?_
    first | refine V.aload_nR (pc := 200) d_J_perform_200 rfl ?_ | refine V.aload_n (pc := 200) d_J_perform_200 rfl ?_
    first | refine V.aload_nR (pc := 201) d_J_perform_201 rfl ?_ | refine V.aload_n (pc := 201) d_J_perform_201 rfl ?_
    refine Vc.get_J (pc := 202) d_J_perform_202 g_J_11 hC rfl ?_
    refine V.iload (pc := 205) d_J_perform_205 rfl ?_
    refine Vc.ald_programs (pc := 207) d_J_perform_207 hC  (by first | assumption | omega | (simp [up, up_f] <;> omega)) ?_
    refine V.iload (pc := 208) d_J_perform_208 rfl ?_
    refine V.callV (pc := 210) d_J_perform_210 Y_J_launch l_J_262 wi_J_launch wv_J_launch (ci := 0) rfl rfl [_, _, _] hC.oJ rfl rfl ⟨by repeat (first | exact trivial | refine ⟨(by first | rfl | exact vrf_cat _), ?_⟩), Nat.le_of_ble_eq_true rfl⟩ ⟨⟨rfl, (by first | rfl | exact vrf_cat _), (by first | rfl | exact vrf_cat _), (by first | rfl | exact vrf_cat _), trivial⟩, Nat.le_of_ble_eq_true rfl⟩ (k_launch (d := d + 25) hP' hK h8 hac.1 hac.2) (fun v hs ho => ?_) (fun E hs ho => by first | (simp at ho; done) | (obtain ⟨_, _, ho, _⟩ := ho; cases ho))
    obtain ⟨r, am', ho, z⟩ := ho
    cases ho
    refine Vi.ireturn (pc := 213) d_J_perform_213 rfl ?_
    exact ⟨r, am', rfl, z⟩
  have p214 : (x = 4 ∨ x = 5) → (0 ≤ a ∧ a < 3) → V jcl w m_J_perform (d + 30) 214 [(0, .ref (am 0 0)), (1, .ref (am 10 j)), (5, .int (ii x)), (6, .int (ii a))] [] hs (Pz w am g b j m T (z_awaits T j x (T 22 (j * 3 + a)))) := by
    intro hx4 ha3
    first | refine V.aload_nR (pc := 214) d_J_perform_214 rfl ?_ | refine V.aload_n (pc := 214) d_J_perform_214 rfl ?_
    refine V.iload (pc := 215) d_J_perform_215 rfl ?_
    first | refine V.aload_nR (pc := 217) d_J_perform_217 rfl ?_ | refine V.aload_n (pc := 217) d_J_perform_217 rfl ?_
    refine Vc.get_B (pc := 218) d_J_perform_218 g_J_123 hC (by first | assumption | omega | (simp [up, up_f] <;> omega)) rfl ?_
    refine V.iload (pc := 221) d_J_perform_221 rfl ?_
    refine Vc.ald_slots (pc := 223) d_J_perform_223 hC (by first | assumption | omega | (simp [up, up_f] <;> omega)) (by first | assumption | omega | (simp [up, up_f] <;> omega)) ?_
    rw [h22]
    refine V.callS (pc := 224) d_J_perform_224 Y_J_waitForSlot l_J_266 ws_J_waitForSlot wn_J_waitForSlot [_, _, _] rfl rfl ⟨by repeat (first | exact trivial | refine ⟨(by first | rfl | exact vrf_cat _), ?_⟩), Nat.le_of_ble_eq_true rfl⟩ ⟨⟨(by first | rfl | exact vrf_cat _), (by first | rfl | exact vrf_cat _), (by first | rfl | exact vrf_cat _), trivial⟩, Nat.le_of_ble_eq_true rfl⟩ (k_slot (d := d + 28) hP' hK h8 hx4 (hsl ha3)) (fun v hs ho => ?_) (fun E hs ho => by first | (simp at ho; done) | (obtain ⟨_, _, ho, _⟩ := ho; cases ho))
    obtain ⟨r, am', ho, z⟩ := ho
    cases ho
    refine Vi.ireturn (pc := 227) d_J_perform_227 rfl ?_
    exact ⟨r, am', rfl, z⟩
  have p228 : -1 ≤ a ∧ a ≤ 2 → V jcl w m_J_perform (d + 30) 228 [(0, .ref (am 0 0)), (1, .ref (am 10 j)), (6, .int (ii a))] [] hs (Pz w am g b j m T (if a < 0 then z_give T j 0 else if 0 ≤ T 22 (j * 3 + a) then z_give T (T 22 (j * 3 + a)) 0 else T)) := by
    intro ha1
    first | refine V.aload_nR (pc := 228) d_J_perform_228 rfl ?_ | refine V.aload_n (pc := 228) d_J_perform_228 rfl ?_
    first | refine V.aload_nR (pc := 229) d_J_perform_229 rfl ?_ | refine V.aload_n (pc := 229) d_J_perform_229 rfl ?_
    refine V.iload (pc := 230) d_J_perform_230 rfl ?_
    refine V.callV (pc := 232) d_J_perform_232 Y_J_cancelFrom l_J_270 wi_J_cancelFrom wv_J_cancelFrom (ci := 0) rfl rfl [_, _] hC.oJ rfl rfl ⟨by repeat (first | exact trivial | refine ⟨(by first | rfl | exact vrf_cat _), ?_⟩), Nat.le_of_ble_eq_true rfl⟩ ⟨⟨rfl, (by first | rfl | exact vrf_cat _), (by first | rfl | exact vrf_cat _), trivial⟩, Nat.le_of_ble_eq_true rfl⟩ (k_cancelFrom (d := d + 2) hP' hI hj ha1) (fun v hs ho => ?_) (fun E hs ho => by first | (simp at ho; done) | (obtain ⟨_, _, ho, _⟩ := ho; cases ho))
    obtain ⟨ho, hP2⟩ := ho
    cases ho
    refine Vi.iconst (pc := 235) d_J_perform_235 ?_
    refine Vi.ireturn (pc := 236) d_J_perform_236 rfl ?_
    refine ⟨-1, am, rfl, ⟨rfl, rfl⟩, hP2, ?_, ?_⟩
    · split
      · exact pq_give hK h8 hj
      · split
        · have := hsl (by omega)
          exact pq_give hK h8 (by omega)
        · exact pq_same hK h8
    · rw [if_neg (by omega)]
      split
      · exact (Tq.give hj).w
      · split
        · have := hsl (by omega)
          exact (Tq.give (by omega)).w
        · exact Tq.rf.w
  have p237 : 0 ≤ a ∧ a ≤ 99 → V jcl w m_J_perform (d + 30) 237 [(6, .int (ii a))] [] hs (Pz w am g b j m T (up T 8 0 a)) := by
    intro ha1
    refine V.iload (pc := 237) d_J_perform_237 rfl ?_
    refine Vi.ireturn (pc := 239) d_J_perform_239 rfl ?_
    refine ⟨a, am, rfl, ⟨rfl, rfl⟩, hP'.so (by omega), pq_throw hK ha1, ?_⟩
    rw [if_neg (by omega)]
    exact (Tq.cg fun f i hf => up_f (by omega)).w
  have p240 : x = 8 → (0 ≤ a ∧ a ≤ 9) → V jcl w m_J_perform (d + 30) 240 [(0, .ref (am 0 0)), (1, .ref (am 10 j)), (5, .int (ii x)), (6, .int (ii a))] [] hs (Pz w am g b j m T (if T 1 0 = 24 then up T 8 0 96 else z_scope T j x a c)) := by
    intro hx8 ha1
    have e : (2 : Int) = x - 6 := by omega
    first | refine V.aload_nR (pc := 240) d_J_perform_240 rfl ?_ | refine V.aload_n (pc := 240) d_J_perform_240 rfl ?_
    first | refine V.aload_nR (pc := 241) d_J_perform_241 rfl ?_ | refine V.aload_n (pc := 241) d_J_perform_241 rfl ?_
    refine V.iload (pc := 242) d_J_perform_242 rfl ?_
    refine Vi.iconst (pc := 244) d_J_perform_244 ?_
    first | refine V.aload_nR (pc := 245) d_J_perform_245 rfl ?_ | refine V.aload_n (pc := 245) d_J_perform_245 rfl ?_
    refine Vc.get_J (pc := 246) d_J_perform_246 g_J_11 hC rfl ?_
    refine V.iload (pc := 249) d_J_perform_249 rfl ?_
    refine Vc.ald_programs (pc := 251) d_J_perform_251 hC  (by first | assumption | omega | (simp [up, up_f] <;> omega)) ?_
    refine Vc.ldcw (pc := 252) (n := 2147483647) d_J_perform_252 n_J_273 (by decide) ?_
    rw [e]
    refine V.callV (pc := 255) d_J_perform_255 Y_J_waitForNew l_J_274 wi_J_waitForNew wv_J_waitForNew (ci := 0) rfl rfl [_, _, _, _, _] hC.oJ rfl rfl ⟨by repeat (first | exact trivial | refine ⟨(by first | rfl | exact vrf_cat _), ?_⟩), Nat.le_of_ble_eq_true rfl⟩ ⟨⟨rfl, (by first | rfl | exact vrf_cat _), (by first | rfl | exact vrf_cat _), (by first | rfl | exact vrf_cat _), (by first | rfl | exact vrf_cat _), (by first | rfl | exact vrf_cat _), trivial⟩, Nat.le_of_ble_eq_true rfl⟩ (k_wnew (d := d + 25) (a := a) (c := c) hP' hK (by omega) (by omega)) (fun v hs ho => ?_) (fun E hs ho => by first | (simp at ho; done) | (obtain ⟨_, _, ho, _⟩ := ho; cases ho))
    obtain ⟨r, am', ho, z⟩ := ho
    cases ho
    refine Vi.ireturn (pc := 258) d_J_perform_258 rfl ?_
    exact ⟨r, am', rfl, z⟩
  have p259 : x = 9 → (0 ≤ a ∧ a ≤ 9) → V jcl w m_J_perform (d + 30) 259 [(0, .ref (am 0 0)), (1, .ref (am 10 j)), (5, .int (ii x)), (6, .int (ii a))] [] hs (Pz w am g b j m T (if T 1 0 = 24 then up T 8 0 96 else z_scope T j x a c)) := by
    intro hx8 ha1
    have e : (3 : Int) = x - 6 := by omega
    first | refine V.aload_nR (pc := 259) d_J_perform_259 rfl ?_ | refine V.aload_n (pc := 259) d_J_perform_259 rfl ?_
    first | refine V.aload_nR (pc := 260) d_J_perform_260 rfl ?_ | refine V.aload_n (pc := 260) d_J_perform_260 rfl ?_
    refine V.iload (pc := 261) d_J_perform_261 rfl ?_
    refine Vi.iconst (pc := 263) d_J_perform_263 ?_
    first | refine V.aload_nR (pc := 264) d_J_perform_264 rfl ?_ | refine V.aload_n (pc := 264) d_J_perform_264 rfl ?_
    refine Vc.get_J (pc := 265) d_J_perform_265 g_J_11 hC rfl ?_
    refine V.iload (pc := 268) d_J_perform_268 rfl ?_
    refine Vc.ald_programs (pc := 270) d_J_perform_270 hC  (by first | assumption | omega | (simp [up, up_f] <;> omega)) ?_
    refine Vc.ldcw (pc := 271) (n := 2147483647) d_J_perform_271 n_J_273 (by decide) ?_
    rw [e]
    refine V.callV (pc := 274) d_J_perform_274 Y_J_waitForNew l_J_274 wi_J_waitForNew wv_J_waitForNew (ci := 0) rfl rfl [_, _, _, _, _] hC.oJ rfl rfl ⟨by repeat (first | exact trivial | refine ⟨(by first | rfl | exact vrf_cat _), ?_⟩), Nat.le_of_ble_eq_true rfl⟩ ⟨⟨rfl, (by first | rfl | exact vrf_cat _), (by first | rfl | exact vrf_cat _), (by first | rfl | exact vrf_cat _), (by first | rfl | exact vrf_cat _), (by first | rfl | exact vrf_cat _), trivial⟩, Nat.le_of_ble_eq_true rfl⟩ (k_wnew (d := d + 25) (a := a) (c := c) hP' hK (by omega) (by omega)) (fun v hs ho => ?_) (fun E hs ho => by first | (simp at ho; done) | (obtain ⟨_, _, ho, _⟩ := ho; cases ho))
    obtain ⟨r, am', ho, z⟩ := ho
    cases ho
    refine Vi.ireturn (pc := 277) d_J_perform_277 rfl ?_
    exact ⟨r, am', rfl, z⟩
  have p278 : x = 10 → (1 ≤ a ∧ a ≤ 50) → (0 ≤ c ∧ c ≤ 9) → V jcl w m_J_perform (d + 30) 278 [(0, .ref (am 0 0)), (1, .ref (am 10 j)), (5, .int (ii x)), (6, .int (ii a)), (7, .int (ii c))] [] hs (Pz w am g b j m T (if T 1 0 = 24 then up T 8 0 96 else z_scope T j x a c)) := by
    intro hx8 ha1 hc1
    have e : (4 : Int) = x - 6 := by omega
    first | refine V.aload_nR (pc := 278) d_J_perform_278 rfl ?_ | refine V.aload_n (pc := 278) d_J_perform_278 rfl ?_
    first | refine V.aload_nR (pc := 279) d_J_perform_279 rfl ?_ | refine V.aload_n (pc := 279) d_J_perform_279 rfl ?_
    refine V.iload (pc := 280) d_J_perform_280 rfl ?_
    refine Vi.iconst (pc := 282) d_J_perform_282 ?_
    first | refine V.aload_nR (pc := 283) d_J_perform_283 rfl ?_ | refine V.aload_n (pc := 283) d_J_perform_283 rfl ?_
    refine Vc.get_J (pc := 284) d_J_perform_284 g_J_11 hC rfl ?_
    refine V.iload (pc := 287) d_J_perform_287 rfl ?_
    refine Vc.ald_programs (pc := 289) d_J_perform_289 hC  (by first | assumption | omega | (simp [up, up_f] <;> omega)) ?_
    refine V.iload (pc := 290) d_J_perform_290 rfl ?_
    rw [e]
    refine V.callV (pc := 292) d_J_perform_292 Y_J_waitForNew l_J_274 wi_J_waitForNew wv_J_waitForNew (ci := 0) rfl rfl [_, _, _, _, _] hC.oJ rfl rfl ⟨by repeat (first | exact trivial | refine ⟨(by first | rfl | exact vrf_cat _), ?_⟩), Nat.le_of_ble_eq_true rfl⟩ ⟨⟨rfl, (by first | rfl | exact vrf_cat _), (by first | rfl | exact vrf_cat _), (by first | rfl | exact vrf_cat _), (by first | rfl | exact vrf_cat _), (by first | rfl | exact vrf_cat _), trivial⟩, Nat.le_of_ble_eq_true rfl⟩ (k_wnew (d := d + 25) (a := a) (c := c) hP' hK (by omega) (by omega)) (fun v hs ho => ?_) (fun E hs ho => by first | (simp at ho; done) | (obtain ⟨_, _, ho, _⟩ := ho; cases ho))
    obtain ⟨r, am', ho, z⟩ := ho
    cases ho
    refine Vi.ireturn (pc := 295) d_J_perform_295 rfl ?_
    exact ⟨r, am', rfl, z⟩
  have p296 : (0 ≤ a ∧ a ≤ 9) → (0 ≤ c ∧ c ≤ 9) → V jcl w m_J_perform (d + 30) 296 [(0, .ref (am 0 0)), (1, .ref (am 10 j)), (6, .int (ii a)), (7, .int (ii c))] [] hs (Pz w am g b j m T (if T 21 j = 6 then up T 8 0 97 else z_pushFrame T j a 1 c (-1))) := by
    intro ha1 hc1
    first | refine V.aload_nR (pc := 296) d_J_perform_296 rfl ?_ | refine V.aload_n (pc := 296) d_J_perform_296 rfl ?_
    refine Vi.iconst (pc := 297) d_J_perform_297 ?_
    first | refine V.aload_nR (pc := 298) d_J_perform_298 rfl ?_ | refine V.aload_n (pc := 298) d_J_perform_298 rfl ?_
    refine Vc.get_J (pc := 299) d_J_perform_299 g_J_11 hC rfl ?_
    refine V.iload (pc := 302) d_J_perform_302 rfl ?_
    refine Vc.ald_programs (pc := 304) d_J_perform_304 hC  (by first | assumption | omega | (simp [up, up_f] <;> omega)) ?_
    first | refine V.aload_nR (pc := 305) d_J_perform_305 rfl ?_ | refine V.aload_n (pc := 305) d_J_perform_305 rfl ?_
    refine Vc.get_J (pc := 306) d_J_perform_306 g_J_11 hC rfl ?_
    refine V.iload (pc := 309) d_J_perform_309 rfl ?_
    refine Vc.ald_programs (pc := 311) d_J_perform_311 hC  (by first | assumption | omega | (simp [up, up_f] <;> omega)) ?_
    refine V.callS (pc := 312) d_J_perform_312 Y_J_enterFrame l_J_278 ws_J_enterFrame wn_J_enterFrame [_, _, _, _] rfl rfl ⟨by repeat (first | exact trivial | refine ⟨(by first | rfl | exact vrf_cat _), ?_⟩), Nat.le_of_ble_eq_true rfl⟩ ⟨⟨(by first | rfl | exact vrf_cat _), (by first | rfl | exact vrf_cat _), (by first | rfl | exact vrf_cat _), (by first | rfl | exact vrf_cat _), trivial⟩, Nat.le_of_ble_eq_true rfl⟩ (k_enter (d := d + 28) (q' := c) hP' hK h8 ha1 (by omega) (fun _ => ⟨rfl, hc1⟩)) (fun v hs ho => ?_) (fun E hs ho => by first | (simp at ho; done) | (obtain ⟨_, _, ho, _⟩ := ho; cases ho))
    obtain ⟨r, am', ho, z⟩ := ho
    cases ho
    refine Vi.ireturn (pc := 315) d_J_perform_315 rfl ?_
    exact ⟨r, am', rfl, z⟩
  have p316 : (0 ≤ a ∧ a ≤ 9) → (0 ≤ c ∧ c ≤ 9) → V jcl w m_J_perform (d + 30) 316 [(0, .ref (am 0 0)), (1, .ref (am 10 j)), (6, .int (ii a)), (7, .int (ii c))] [] hs (Pz w am g b j m T (if T 21 j = 6 then up T 8 0 97 else z_pushFrame T j a 2 c (-1))) := by
    intro ha1 hc1
    first | refine V.aload_nR (pc := 316) d_J_perform_316 rfl ?_ | refine V.aload_n (pc := 316) d_J_perform_316 rfl ?_
    refine Vi.iconst (pc := 317) d_J_perform_317 ?_
    first | refine V.aload_nR (pc := 318) d_J_perform_318 rfl ?_ | refine V.aload_n (pc := 318) d_J_perform_318 rfl ?_
    refine Vc.get_J (pc := 319) d_J_perform_319 g_J_11 hC rfl ?_
    refine V.iload (pc := 322) d_J_perform_322 rfl ?_
    refine Vc.ald_programs (pc := 324) d_J_perform_324 hC  (by first | assumption | omega | (simp [up, up_f] <;> omega)) ?_
    first | refine V.aload_nR (pc := 325) d_J_perform_325 rfl ?_ | refine V.aload_n (pc := 325) d_J_perform_325 rfl ?_
    refine Vc.get_J (pc := 326) d_J_perform_326 g_J_11 hC rfl ?_
    refine V.iload (pc := 329) d_J_perform_329 rfl ?_
    refine Vc.ald_programs (pc := 331) d_J_perform_331 hC  (by first | assumption | omega | (simp [up, up_f] <;> omega)) ?_
    refine V.callS (pc := 332) d_J_perform_332 Y_J_enterFrame l_J_278 ws_J_enterFrame wn_J_enterFrame [_, _, _, _] rfl rfl ⟨by repeat (first | exact trivial | refine ⟨(by first | rfl | exact vrf_cat _), ?_⟩), Nat.le_of_ble_eq_true rfl⟩ ⟨⟨(by first | rfl | exact vrf_cat _), (by first | rfl | exact vrf_cat _), (by first | rfl | exact vrf_cat _), (by first | rfl | exact vrf_cat _), trivial⟩, Nat.le_of_ble_eq_true rfl⟩ (k_enter (d := d + 28) (q' := c) hP' hK h8 ha1 (by omega) (fun _ => ⟨rfl, hc1⟩)) (fun v hs ho => ?_) (fun E hs ho => by first | (simp at ho; done) | (obtain ⟨_, _, ho, _⟩ := ho; cases ho))
    obtain ⟨r, am', ho, z⟩ := ho
    cases ho
    refine Vi.ireturn (pc := 335) d_J_perform_335 rfl ?_
    exact ⟨r, am', rfl, z⟩
  have p336 : (0 ≤ a ∧ a ≤ 9) → V jcl w m_J_perform (d + 30) 336 [(0, .ref (am 0 0)), (1, .ref (am 10 j)), (6, .int (ii a))] [] hs (Pz w am g b j m T (if T 21 j = 6 then up T 8 0 97 else z_pushFrame T j a 4 c (-1))) := by
    intro ha1
    first | refine V.aload_nR (pc := 336) d_J_perform_336 rfl ?_ | refine V.aload_n (pc := 336) d_J_perform_336 rfl ?_
    refine Vi.iconst (pc := 337) d_J_perform_337 ?_
    first | refine V.aload_nR (pc := 338) d_J_perform_338 rfl ?_ | refine V.aload_n (pc := 338) d_J_perform_338 rfl ?_
    refine Vc.get_J (pc := 339) d_J_perform_339 g_J_11 hC rfl ?_
    refine V.iload (pc := 342) d_J_perform_342 rfl ?_
    refine Vc.ald_programs (pc := 344) d_J_perform_344 hC  (by first | assumption | omega | (simp [up, up_f] <;> omega)) ?_
    first | refine V.aload_nR (pc := 345) d_J_perform_345 rfl ?_ | refine V.aload_n (pc := 345) d_J_perform_345 rfl ?_
    refine Vc.get_J (pc := 346) d_J_perform_346 g_J_11 hC rfl ?_
    refine V.iload (pc := 349) d_J_perform_349 rfl ?_
    refine Vc.ald_programs (pc := 351) d_J_perform_351 hC  (by first | assumption | omega | (simp [up, up_f] <;> omega)) ?_
    refine V.callS (pc := 352) d_J_perform_352 Y_J_enterFrame l_J_278 ws_J_enterFrame wn_J_enterFrame [_, _, _, _] rfl rfl ⟨by repeat (first | exact trivial | refine ⟨(by first | rfl | exact vrf_cat _), ?_⟩), Nat.le_of_ble_eq_true rfl⟩ ⟨⟨(by first | rfl | exact vrf_cat _), (by first | rfl | exact vrf_cat _), (by first | rfl | exact vrf_cat _), (by first | rfl | exact vrf_cat _), trivial⟩, Nat.le_of_ble_eq_true rfl⟩ (k_enter (d := d + 28) (q' := c) hP' hK h8 ha1 (by omega) (fun z => by omega)) (fun v hs ho => ?_) (fun E hs ho => by first | (simp at ho; done) | (obtain ⟨_, _, ho, _⟩ := ho; cases ho))
    obtain ⟨r, am', ho, z⟩ := ho
    cases ho
    refine Vi.ireturn (pc := 355) d_J_perform_355 rfl ?_
    exact ⟨r, am', rfl, z⟩
  have p356 : V jcl w m_J_perform (d + 30) 356 [(0, .ref (am 0 0)), (1, .ref (am 10 j)), (2, .ref (am 15 f)), (3, .ref (am 6 (T 33 f))), (6, .int (ii a))] [] hs (Pz w am g b j m T (up (up T 18 j (T 18 j + a)) 34 f (T 11 (T 33 f)))) := by
    have hA2 : Ag (up (up C 18 j (C 18 j + a)) 34 f (C 11 (T 33 f))) (up (up T 18 j (T 18 j + a)) 34 f (T 11 (T 33 f))) := by
      rw [h18, h11]
      exact (hA.cm2 (f := 18) (by omega) hj).at_
    have o11 : up C 18 j (C 18 j + a) 11 (T 33 f) = C 11 (T 33 f) := up_f (by decide)
    have o1 : up C 18 j (C 18 j + a) 1 0 = C 1 0 := up_f (by decide)
    first | refine V.aload_nR (pc := 356) d_J_perform_356 rfl ?_ | refine V.aload_n (pc := 356) d_J_perform_356 rfl ?_
    refine V.dup (pc := 357) d_J_perform_357 (by first | rfl | exact vrf_cat _) ?_
    refine Vc.get_B (pc := 358) d_J_perform_358 g_J_103 hC (by first | assumption | omega | (simp [up, up_f] <;> omega)) rfl ?_
    refine V.iload (pc := 361) d_J_perform_361 rfl ?_
    refine Vi.iadd (pc := 363) d_J_perform_363 ?_
    refine Vc.put_B8 (pc := 364) d_J_perform_364 f_J_103 hC (by first | assumption | omega | (simp [up, up_f] <;> omega)) (fun hs hC => ?_)
    first | refine V.aload_nR (pc := 367) d_J_perform_367 rfl ?_ | refine V.aload_n (pc := 367) d_J_perform_367 rfl ?_
    first | refine V.aload_nR (pc := 368) d_J_perform_368 rfl ?_ | refine V.aload_n (pc := 368) d_J_perform_368 rfl ?_
    refine Vc.get_P (pc := 369) d_J_perform_369 g_J_46 hC (by first | assumption | omega | (simp [up, up_f] <;> omega)) rfl ?_
    rw [o11]
    refine Vc.put_F2 (pc := 372) d_J_perform_372 f_J_195 hC (by first | assumption | omega | (simp [up, up_f] <;> omega)) (fun hs hC => ?_)
    refine Vi.iconst (pc := 375) d_J_perform_375 ?_
    refine Vi.ireturn (pc := 376) d_J_perform_376 rfl ?_
    refine ⟨-1, am, rfl, ⟨rfl, rfl⟩, ⟨_, hC, hA2, h6.cg fun f i hf => by rw [up_f (by omega), up_f (by omega)]⟩, pq_return hK h8 hsz, ?_⟩
    rw [if_neg (by omega)]
    exact (Tq.cg fun f i hf => by rw [up_f (by omega), up_f (by omega)]).w
  have p377 : V jcl w m_J_perform (d + 30) 377 [(0, .ref (am 0 0)), (1, .ref (am 10 j))] [] hs (Pz w am g b j m T (z_write T (if T 19 j < 0 then 1 else 0))) := by
    have fin : ∀ (hs : jh) (v : Int), v = (if T 19 j < 0 then 1 else 0) → PR w am (z_write T v) g b hs → Pz w am g b j m T (z_write T (if T 19 j < 0 then 1 else 0)) (.inl (some (.int (ii (-1))))) hs := fun hs v hv hP2 => by
      rw [hv] at hP2
      refine ⟨-1, am, rfl, ⟨rfl, rfl⟩, hP2, pq_write hK h8, ?_⟩
      rw [if_neg (by omega)]
      exact Tq.write.w
    first | refine V.aload_nR (pc := 377) d_J_perform_377 rfl ?_ | refine V.aload_n (pc := 377) d_J_perform_377 rfl ?_
    first | refine V.aload_nR (pc := 378) d_J_perform_378 rfl ?_ | refine V.aload_n (pc := 378) d_J_perform_378 rfl ?_
    refine Vc.get_B (pc := 379) d_J_perform_379 g_J_75 hC (by first | assumption | omega | (simp [up, up_f] <;> omega)) rfl ?_
    rw [h19]
    refine Vi.iconst (pc := 382) d_J_perform_382 ?_
    refine Vi.icmp_ne (pc := 383) (tgt := 390) d_J_perform_383 (by decide) (by omega) (by decide) (fun c_383 => ?_) (fun c_383 => ?_)
    · refine Vi.iconst (pc := 390) d_J_perform_390 ?_
      refine V.callV (pc := 391) d_J_perform_391 Y_J_note l_J_219 wi_J_note wv_J_note (ci := 0) rfl rfl [_] hC.oJ rfl rfl ⟨by repeat (first | exact trivial | refine ⟨(by first | rfl | exact vrf_cat _), ?_⟩), Nat.le_of_ble_eq_true rfl⟩ ⟨⟨rfl, (by first | rfl | exact vrf_cat _), trivial⟩, Nat.le_of_ble_eq_true rfl⟩ (k_note hP' (by omega)) (fun v hs ho => ?_) (fun E hs ho => by first | (simp at ho; done) | (obtain ⟨_, _, ho, _⟩ := ho; cases ho))
      obtain ⟨ho, hP2⟩ := ho
      cases ho
      refine Vi.iconst (pc := 394) d_J_perform_394 ?_
      refine Vi.ireturn (pc := 395) d_J_perform_395 rfl ?_
      exact fin _ 0 (by rw [if_neg (by omega)]) hP2
    · refine Vi.iconst (pc := 386) d_J_perform_386 ?_
      refine V.goto (pc := 387) (tgt := 391) d_J_perform_387 (by decide) ?_
      refine V.callV (pc := 391) d_J_perform_391 Y_J_note l_J_219 wi_J_note wv_J_note (ci := 0) rfl rfl [_] hC.oJ rfl rfl ⟨by repeat (first | exact trivial | refine ⟨(by first | rfl | exact vrf_cat _), ?_⟩), Nat.le_of_ble_eq_true rfl⟩ ⟨⟨rfl, (by first | rfl | exact vrf_cat _), trivial⟩, Nat.le_of_ble_eq_true rfl⟩ (k_note hP' (by omega)) (fun v hs ho => ?_) (fun E hs ho => by first | (simp at ho; done) | (obtain ⟨_, _, ho, _⟩ := ho; cases ho))
      obtain ⟨ho, hP2⟩ := ho
      cases ho
      refine Vi.iconst (pc := 394) d_J_perform_394 ?_
      refine Vi.ireturn (pc := 395) d_J_perform_395 rfl ?_
      exact fin _ 1 (by rw [if_pos (by omega)]) hP2
  refine V.iload (pc := 83) d_J_perform_83 rfl ?_
  refine Vi.tsw (pc := 85) (tgt := 396) d_J_perform_85 (by first | assumption | omega | (simp [up, up_f] <;> omega)) (by decide) (fun s_85 => ?_) (fun n_85 s_85 z_85 => ?_)
  · omega
  · have z_85 : n_85 < 16 := z_85
    have q_85 : n_85 = 0 ∨ n_85 = 1 ∨ n_85 = 2 ∨ n_85 = 3 ∨ n_85 = 4 ∨ n_85 = 5 ∨ n_85 = 6 ∨ n_85 = 7 ∨ n_85 = 8 ∨ n_85 = 9 ∨ n_85 = 10 ∨ n_85 = 11 ∨ n_85 = 12 ∨ n_85 = 13 ∨ n_85 = 14 ∨ n_85 = 15 := by omega
    rcases q_85 with rfl | rfl | rfl | rfl | rfl | rfl | rfl | rfl | rfl | rfl | rfl | rfl | rfl | rfl | rfl | rfl
    · refine Vi.atpc (pc := 164) (by rfl) ?_
      simp at s_85
      subst s_85
      rw [if_neg (by omega)]
      exact V.lop p164 ⟨rfl, rfl, trivial⟩
    · refine Vi.atpc (pc := 172) (by rfl) ?_
      simp at s_85
      subst s_85
      rw [if_neg (by omega)]
      exact V.lop (p172 ((WR_f hw).1 (by omega))) ⟨rfl, rfl, rfl, trivial⟩
    · refine Vi.atpc (pc := 190) (by rfl) ?_
      simp at s_85
      subst s_85
      rw [if_neg (by omega)]
      exact V.lop p190 ⟨rfl, rfl, trivial⟩
    · refine Vi.atpc (pc := 199) (by rfl) ?_
      simp at s_85
      subst s_85
      have e9 : (if NW 3 ∧ T 1 0 = 24 then up T 8 0 96 else z_da2 T j f 3 a c) = (if T 1 0 = 24 then up T 8 0 96 else up (z_begin T a j 1) 22 (j * 3 + c) (T 1 0)) := (by simp [NW, z_da2])
      rw [e9]
      exact V.lop (p199 ⟨(WR_f hw).2.1 (by omega), (WR_f hw).2.2.2.2.2.2 rfl⟩) ⟨rfl, rfl, rfl, rfl, trivial⟩
    · refine Vi.atpc (pc := 214) (by rfl) ?_
      simp at s_85
      have e9 : (if NW x ∧ T 1 0 = 24 then up T 8 0 96 else z_da2 T j f x a c) = z_awaits T j x (T 22 (j * 3 + a)) := (by rw [if_neg (by omega)]; unfold z_da2; simp [s_85])
      rw [e9]
      exact V.lop (p214 (by omega) ((WR_f hw).2.2.1 (by omega))) ⟨rfl, rfl, rfl, rfl, trivial⟩
    · refine Vi.atpc (pc := 214) (by rfl) ?_
      simp at s_85
      have e9 : (if NW x ∧ T 1 0 = 24 then up T 8 0 96 else z_da2 T j f x a c) = z_awaits T j x (T 22 (j * 3 + a)) := (by rw [if_neg (by omega)]; unfold z_da2; simp [s_85])
      rw [e9]
      exact V.lop (p214 (by omega) ((WR_f hw).2.2.1 (by omega))) ⟨rfl, rfl, rfl, rfl, trivial⟩
    · refine Vi.atpc (pc := 228) (by rfl) ?_
      simp at s_85
      subst s_85
      rw [if_neg (by omega)]
      exact V.lop (p228 ((WR_f hw).2.2.2.1 rfl)) ⟨rfl, rfl, rfl, trivial⟩
    · refine Vi.atpc (pc := 237) (by rfl) ?_
      simp at s_85
      subst s_85
      rw [if_neg (by omega)]
      exact V.lop (p237 ((WR_f hw).2.2.2.2.1 rfl)) ⟨rfl, trivial⟩
    · refine Vi.atpc (pc := 240) (by rfl) ?_
      simp at s_85
      have e9 : (if NW x ∧ T 1 0 = 24 then up T 8 0 96 else z_da2 T j f x a c) = (if T 1 0 = 24 then up T 8 0 96 else z_scope T j x a c) := (by unfold z_da2; simp [NW, s_85])
      rw [e9]
      exact V.lop (p240 s_85 ((WR_f hw).2.1 (by omega))) ⟨rfl, rfl, rfl, rfl, trivial⟩
    · refine Vi.atpc (pc := 259) (by rfl) ?_
      simp at s_85
      have e9 : (if NW x ∧ T 1 0 = 24 then up T 8 0 96 else z_da2 T j f x a c) = (if T 1 0 = 24 then up T 8 0 96 else z_scope T j x a c) := (by unfold z_da2; simp [NW, s_85])
      rw [e9]
      exact V.lop (p259 s_85 ((WR_f hw).2.1 (by omega))) ⟨rfl, rfl, rfl, rfl, trivial⟩
    · refine Vi.atpc (pc := 278) (by rfl) ?_
      simp at s_85
      have e9 : (if NW x ∧ T 1 0 = 24 then up T 8 0 96 else z_da2 T j f x a c) = (if T 1 0 = 24 then up T 8 0 96 else z_scope T j x a c) := (by unfold z_da2; simp [NW, s_85])
      rw [e9]
      exact V.lop (p278 s_85 ((WR_f hw).1 (by omega)) ((WR_f hw).2.2.2.2.2.1 (by omega))) ⟨rfl, rfl, rfl, rfl, rfl, trivial⟩
    · refine Vi.atpc (pc := 296) (by rfl) ?_
      simp at s_85
      have e9 : (if NW x ∧ T 1 0 = 24 then up T 8 0 96 else z_da2 T j f x a c) = (if T 21 j = 6 then up T 8 0 97 else z_pushFrame T j a 1 c (-1)) := (by rw [if_neg (by omega)]; unfold z_da2 z_frame; simp [s_85])
      rw [e9]
      exact V.lop (p296 ((WR_f hw).2.1 (by omega)) ((WR_f hw).2.2.2.2.2.1 (by omega))) ⟨rfl, rfl, rfl, rfl, trivial⟩
    · refine Vi.atpc (pc := 316) (by rfl) ?_
      simp at s_85
      have e9 : (if NW x ∧ T 1 0 = 24 then up T 8 0 96 else z_da2 T j f x a c) = (if T 21 j = 6 then up T 8 0 97 else z_pushFrame T j a 2 c (-1)) := (by rw [if_neg (by omega)]; unfold z_da2 z_frame; simp [s_85])
      rw [e9]
      exact V.lop (p316 ((WR_f hw).2.1 (by omega)) ((WR_f hw).2.2.2.2.2.1 (by omega))) ⟨rfl, rfl, rfl, rfl, trivial⟩
    · refine Vi.atpc (pc := 336) (by rfl) ?_
      simp at s_85
      have e9 : (if NW x ∧ T 1 0 = 24 then up T 8 0 96 else z_da2 T j f x a c) = (if T 21 j = 6 then up T 8 0 97 else z_pushFrame T j a 4 c (-1)) := (by rw [if_neg (by omega)]; unfold z_da2 z_frame; simp [s_85])
      rw [e9]
      exact V.lop (p336 ((WR_f hw).2.1 (by omega))) ⟨rfl, rfl, rfl, trivial⟩
    · refine Vi.atpc (pc := 356) (by rfl) ?_
      simp at s_85
      have e9 : (if NW x ∧ T 1 0 = 24 then up T 8 0 96 else z_da2 T j f x a c) = up (up T 18 j (T 18 j + a)) 34 f (T 11 (T 33 f)) := (by rw [if_neg (by omega)]; unfold z_da2; simp [s_85])
      rw [e9]
      exact V.lop p356 ⟨rfl, rfl, rfl, rfl, rfl, trivial⟩
    · refine Vi.atpc (pc := 377) (by rfl) ?_
      simp at s_85
      have e9 : (if NW x ∧ T 1 0 = 24 then up T 8 0 96 else z_da2 T j f x a c) = z_write T (if T 19 j < 0 then 1 else 0) := (by rw [if_neg (by omega)]; unfold z_da2; simp [s_85])
      rw [e9]
      exact V.lop p377 ⟨rfl, rfl, trivial⟩
theorem k_perform (hm : 0 ≤ m) (hP : PR w am S g b hs) (hK : Kk j (m + 1) S) (h8 : S 8 0 = -1) (hat : At j S) (h9 : S 9 0 < 60) : V jcl w m_J_perform (d + 30) 0 [(0, .ref (am 0 0)), (1, .ref (am 10 j)), (2, .ref (am 15 (j * 6 + (S 21 j - 1))))] [] hs (fun o hs' => ∃ (r : Int) (am' : Nat → Int → Nat), o = .inl (some (.int (ii r))) ∧ (am' 0 0 = am 0 0 ∧ am' 10 j = am 10 j) ∧ PR w am' (z_doAction S j) g b hs' ∧ Pq j m (S 9 0 + 1) (z_doAction S j) r ∧ Tw (if r = -2 then 1 else 0) S (z_doAction S j)) := by
  obtain ⟨C, hC, hA, h6⟩ := hP
  have hC1 := hA.j1
  have hI := hK.1
  have hJ := hI.J
  have hj := hK.2.1.1
  have h0 := hK.2.2.2.2.1
  have hfr := hK.fr
  have hFJ := hfr.2
  unfold FJ at hFJ
  rw [show j * 6 + (S 21 j - 1) = j * 6 + S 21 j - 1 by omega]
  obtain ⟨f, hf⟩ : ∃ f, f = j * 6 + S 21 j - 1 := ⟨_, rfl⟩
  rw [← hf] at hFJ ⊢
  have hF := hA.a4 j f hj.1 hj.2 (by omega) (by omega)
  unfold At at hat
  rw [← hf] at hat
  have hsz := hI.pg.1 (S 33 f) (by omega) (by omega)
  have hk : 0 ≤ S 33 f * 8 + S 34 f ∧ S 33 f * 8 + S 34 f < 80 := by omega
  have hpg := hI.pg.2 _ hk.1 hk.2
  have h33 := hF.1
  have h34 := hF.2.1
  have c12 : C 12 (S 33 f * 8 + S 34 f) = S 12 (S 33 f * 8 + S 34 f) := hA.a1 12 _ (by unfold cm; omega)
  have c13 : C 13 (S 33 f * 8 + S 34 f) = S 13 (S 33 f * 8 + S 34 f) := hA.a1 13 _ (by unfold cm; omega)
  have c14 : C 14 (S 33 f * 8 + S 34 f) = S 14 (S 33 f * 8 + S 34 f) := hA.a1 14 _ (by unfold cm; omega)
  have c5 : C 5 0 = S 5 0 := hA.a1 5 0 (by unfold cm; omega)
  have hrf : 0 ≤ f ∧ f < 6 * C 1 0 := by omega
  have hfp : 0 ≤ S 33 f ∧ S 33 f < 10 := by omega
  have hf8 : 0 ≤ S 34 f ∧ S 34 f < 8 := by omega
  have AD := hK.adv (f := f) hf8 h9
  have hA2 : Ag (up (up C 34 f (S 34 f + 1)) 5 0 (S 5 0 + 1)) (z_adv S f) := ((hA.at_ (f := f) (v := S 34 f + 1)).so (f := 9) (i := 0) (v := S 9 0 + 1) (by omega)).cm1 (by omega)
  have hda : z_doAction S j = z_da (z_adv S f) j f (S 12 (S 33 f * 8 + S 34 f)) (S 13 (S 33 f * 8 + S 34 f)) (S 14 (S 33 f * 8 + S 34 f)) := by rw [hf]; rfl
  have e33 : z_adv S f 33 f = S 33 f := z_adv_e.1 33 f (by decide) (by decide) (by decide)
  have e21 : z_adv S f 21 j = S 21 j := z_adv_e.1 21 j (by decide) (by decide) (by decide)
  have e1 : z_adv S f 1 0 = S 1 0 := z_adv_e.1 1 0 (by decide) (by decide) (by decide)
  have hT0 : Tq S (z_adv S f) := Tq.cg fun g i hg => z_adv_e.1 g i (by omega) (by omega) (by omega)
  rw [hda]
  generalize S 12 (S 33 f * 8 + S 34 f) = x at hpg c12
  generalize S 13 (S 33 f * 8 + S 34 f) = a at hpg c13
  generalize S 14 (S 33 f * 8 + S 34 f) = c at hpg c14
  have fin : ∀ (o : jo) (hs : jh), Pz w am g b j m (z_adv S f) (z_da (z_adv S f) j f x a c) o hs → ∃ (r : Int) (am' : Nat → Int → Nat), o = .inl (some (.int (ii r))) ∧ (am' 0 0 = am 0 0 ∧ am' 10 j = am 10 j) ∧ PR w am' (z_da (z_adv S f) j f x a c) g b hs ∧ Pq j m (S 9 0 + 1) (z_da (z_adv S f) j f x a c) r ∧ Tw (if r = -2 then 1 else 0) S (z_da (z_adv S f) j f x a c) := by
    intro o hs ⟨r, am', q1, q2, q3, q4, q5⟩
    rw [AD.2.2] at q4
    exact ⟨r, am', q1, q2, q3, q4, (hT0.w.tr q5).le (by omega)⟩
  first | refine V.aload_nR (pc := 0) d_J_perform_0 rfl ?_ | refine V.aload_n (pc := 0) d_J_perform_0 rfl ?_
  refine Vc.get_F (pc := 1) d_J_perform_1 g_J_200 hC (by first | assumption | omega | (simp [up, up_f] <;> omega)) rfl ?_
  rw [h33]
  first | refine V.astore_nR (pc := 4) d_J_perform_4 (by decide) ?_ | refine V.astore_n (pc := 4) d_J_perform_4 (by decide) ?_
  first | refine V.aload_nR (pc := 5) d_J_perform_5 rfl ?_ | refine V.aload_n (pc := 5) d_J_perform_5 rfl ?_
  refine Vc.get_F (pc := 6) d_J_perform_6 g_J_195 hC (by first | assumption | omega | (simp [up, up_f] <;> omega)) rfl ?_
  rw [h34]
  refine V.istore (pc := 9) d_J_perform_9 (by decide) ?_
  first | refine V.aload_nR (pc := 11) d_J_perform_11 rfl ?_ | refine V.aload_n (pc := 11) d_J_perform_11 rfl ?_
  refine Vc.get_P (pc := 12) d_J_perform_12 g_J_243 hC (by first | assumption | omega | (simp [up, up_f] <;> omega)) rfl ?_
  refine V.iload (pc := 15) d_J_perform_15 rfl ?_
  refine Vc.ald_kinds (pc := 17) d_J_perform_17 hC (by first | assumption | omega | (simp [up, up_f] <;> omega)) (by first | assumption | omega | (simp [up, up_f] <;> omega)) ?_
  rw [c12]
  refine V.istore (pc := 18) d_J_perform_18 (by decide) ?_
  first | refine V.aload_nR (pc := 20) d_J_perform_20 rfl ?_ | refine V.aload_n (pc := 20) d_J_perform_20 rfl ?_
  refine Vc.get_P (pc := 21) d_J_perform_21 g_J_246 hC (by first | assumption | omega | (simp [up, up_f] <;> omega)) rfl ?_
  refine V.iload (pc := 24) d_J_perform_24 rfl ?_
  refine Vc.ald_as (pc := 26) d_J_perform_26 hC (by first | assumption | omega | (simp [up, up_f] <;> omega)) (by first | assumption | omega | (simp [up, up_f] <;> omega)) ?_
  rw [c13]
  refine V.istore (pc := 27) d_J_perform_27 (by decide) ?_
  first | refine V.aload_nR (pc := 29) d_J_perform_29 rfl ?_ | refine V.aload_n (pc := 29) d_J_perform_29 rfl ?_
  refine Vc.get_P (pc := 30) d_J_perform_30 g_J_249 hC (by first | assumption | omega | (simp [up, up_f] <;> omega)) rfl ?_
  refine V.iload (pc := 33) d_J_perform_33 rfl ?_
  refine Vc.ald_bs (pc := 35) d_J_perform_35 hC (by first | assumption | omega | (simp [up, up_f] <;> omega)) (by first | assumption | omega | (simp [up, up_f] <;> omega)) ?_
  rw [c14]
  refine V.istore (pc := 36) d_J_perform_36 (by decide) ?_
  first | refine V.aload_nR (pc := 38) d_J_perform_38 rfl ?_ | refine V.aload_n (pc := 38) d_J_perform_38 rfl ?_
  refine V.dup (pc := 39) d_J_perform_39 (by first | rfl | exact vrf_cat _) ?_
  refine Vc.get_F (pc := 40) d_J_perform_40 g_J_195 hC (by first | assumption | omega | (simp [up, up_f] <;> omega)) rfl ?_
  rw [h34]
  refine Vi.iconst (pc := 43) d_J_perform_43 ?_
  refine Vi.iadd (pc := 44) d_J_perform_44 ?_
  refine Vc.put_F2 (pc := 45) d_J_perform_45 f_J_195 hC (by first | assumption | omega | (simp [up, up_f] <;> omega)) (fun hs hC => ?_)
  have o5 : up C 34 f (S 34 f + 1) 5 0 = S 5 0 := by rw [up_f (by decide)]; exact c5
  first | refine V.aload_nR (pc := 48) d_J_perform_48 rfl ?_ | refine V.aload_n (pc := 48) d_J_perform_48 rfl ?_
  refine V.dup (pc := 49) d_J_perform_49 (by first | rfl | exact vrf_cat _) ?_
  refine Vc.get_J (pc := 50) d_J_perform_50 g_J_148 hC rfl ?_
  rw [o5]
  refine Vi.iconst (pc := 53) d_J_perform_53 ?_
  refine Vi.iadd (pc := 54) d_J_perform_54 ?_
  refine Vc.put_J9 (pc := 55) d_J_perform_55 f_J_148 hC (fun hs hC => ?_)
  have hP1 : PR w am (z_adv S f) g b hs := ⟨_, hC, hA2, h6.cg fun f i hf => by rw [up_f (by omega), up_f (by omega)]⟩
  have hK1 := AD.1
  have h81 : z_adv S f 8 0 = -1 := by rw [AD.2.1]; exact h8
  rw [← e33]
  generalize z_adv S f = T at hP1 hK1 h81 e21 e1 fin
  have hP' := hP1
  obtain ⟨D, hC, hA3, h63⟩ := hP1
  have hD1 := hA3.j1
  have d19 : D 19 j = T 19 j := hA3.a1 19 j (by unfold cm; omega)
  have d21 : D 21 j = T 21 j := hA3.a1 21 j (by unfold cm; omega)
  have hg := hK1.1.gd.2.1 j hj.1 (by omega)
  have hg19 : -1 ≤ T 19 j ∧ T 19 j ≤ 99 := hg.2.2.1
  have hg21 : 0 ≤ T 21 j ∧ T 21 j ≤ 6 := hg.2.2.2.1
  have hg35 := hg.2.2.2.2.2.2.2
  have hr35 : ∀ i, j * 6 ≤ i → i < j * 6 + D 21 j → jr (D 35 i) := fun i z1 z2 => by
    have := (hA3.a4 j i hj.1 (by omega) z1 (by omega)).2.2.1
    have := hg35 i z1 (by omega)
    omega
  have hsh := hA3.sh (j := j) ⟨hj.1, by omega⟩
  have hzb : zb (z_shielded D j) = 0 ↔ z_shielded T j = false := by rw [hsh]; cases z_shielded T j <;> simp [zb]
  have hzb2 : zb (z_shielded D j) = 0 ∨ zb (z_shielded D j) = 1 := by cases z_shielded D j <;> simp [zb]
  clear hg hg35
  have go : ¬ (PA x ∧ 0 ≤ T 19 j ∧ z_shielded T j = false) → V jcl w m_J_perform (d + 30) 83 [(0, .ref (am 0 0)), (1, .ref (am 10 j)), (2, .ref (am 15 f)), (3, .ref (am 6 (T 33 f))), (5, .int (ii x)), (6, .int (ii a)), (7, .int (ii c))] [] hs (fun o hs' => ∃ (r : Int) (am' : Nat → Int → Nat), o = .inl (some (.int (ii r))) ∧ (am' 0 0 = am 0 0 ∧ am' 10 j = am 10 j) ∧ PR w am' (z_da T j f x a c) g b hs' ∧ Pq j m (S 9 0 + 1) (z_da T j f x a c) r ∧ Tw (if r = -2 then 1 else 0) S (z_da T j f x a c)) := by
    intro hn
    have e : z_da T j f x a c = if NW x ∧ T 1 0 = 24 then up T 8 0 96 else z_da2 T j f x a c := by unfold z_da; rw [if_neg hn]
    refine (k_pf2 (d := d) hm hP' hK1 h81 (by omega) hpg.1 hpg.2.1.1 hpg.2.2).post (fun o hs' ho => fin o hs' ?_)
    rw [e]
    exact ho
  have hpx : jr x := by omega
  refine V.iload (pc := 58) d_J_perform_58 rfl ?_
  refine V.callS (pc := 60) d_J_perform_60 Y_A_canWait l_J_252 ws_A_canWait wn_A_canWait [_] rfl rfl ⟨by repeat (first | exact trivial | refine ⟨(by first | rfl | exact vrf_cat _), ?_⟩), Nat.le_of_ble_eq_true rfl⟩ ⟨⟨(by first | rfl | exact vrf_cat _), trivial⟩, Nat.le_of_ble_eq_true rfl⟩ (c_canWait hpx) (fun v hs ho => ?_) (fun E hs ho => by first | (simp at ho; done) | (obtain ⟨_, _, ho, _⟩ := ho; cases ho))
  obtain ⟨r_60, ho, hr_60, rfl⟩ := ho
  cases ho
  refine Vi.if_eq (pc := 63) (tgt := 83) d_J_perform_63 (by decide) (by omega) (fun c_63 => ?_) (fun c_63 => ?_)
  · exact V.lop (go (fun z => by omega)) ⟨rfl, rfl, rfl, rfl, rfl, rfl, rfl, trivial⟩
  · first | refine V.aload_nR (pc := 66) d_J_perform_66 rfl ?_ | refine V.aload_n (pc := 66) d_J_perform_66 rfl ?_
    refine Vc.get_B (pc := 67) d_J_perform_67 g_J_75 hC (by first | assumption | omega | (simp [up, up_f] <;> omega)) rfl ?_
    rw [d19]
    refine Vi.iconst (pc := 70) d_J_perform_70 ?_
    refine Vi.icmp_eq (pc := 71) (tgt := 83) d_J_perform_71 (by decide) (by omega) (by decide) (fun c_71 => ?_) (fun c_71 => ?_)
    · exact V.lop (go (fun z => by omega)) ⟨rfl, rfl, rfl, rfl, rfl, rfl, rfl, trivial⟩
    · first | refine V.aload_nR (pc := 74) d_J_perform_74 rfl ?_ | refine V.aload_n (pc := 74) d_J_perform_74 rfl ?_
      refine V.callV (pc := 75) d_J_perform_75 Y_B_isShielded l_J_255 wi_B_isShielded wv_B_isShielded (ci := 3) rfl rfl [] (hC.oB (by first | assumption | omega | (simp [up, up_f] <;> omega))) rfl rfl ⟨by repeat (first | exact trivial | refine ⟨(by first | rfl | exact vrf_cat _), ?_⟩), Nat.le_of_ble_eq_true rfl⟩ ⟨⟨rfl, trivial⟩, Nat.le_of_ble_eq_true rfl⟩ (c_isShielded hC (by omega) (by omega) hr35) (fun v hs ho => ?_) (fun E hs ho => by first | (simp at ho; done) | (obtain ⟨_, _, ho, _⟩ := ho; cases ho))
      obtain ⟨ho, rfl⟩ := ho
      cases ho
      refine Vi.if_ne (pc := 78) (tgt := 83) d_J_perform_78 (by decide) (by omega) (fun c_78 => ?_) (fun c_78 => ?_)
      · exact V.lop (go (fun z => by have := hzb.2 z.2.2; omega)) ⟨rfl, rfl, rfl, rfl, rfl, rfl, rfl, trivial⟩
      · have e : z_da T j f x a c = up T 8 0 0 := by
          unfold z_da
          rw [if_pos ⟨by omega, by omega, hzb.1 (by omega)⟩]
        refine Vi.iconst (pc := 81) d_J_perform_81 ?_
        refine Vi.ireturn (pc := 82) d_J_perform_82 rfl ?_
        refine fin _ _ ?_
        rw [e]
        refine ⟨0, am, rfl, ⟨rfl, rfl⟩, hP'.so (by omega), pq_throw hK1 (by omega), ?_⟩
        rw [if_neg (by omega)]
        exact (Tq.cg fun f i hf => up_f (by omega)).w
end KJ
