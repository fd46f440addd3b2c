section C36
variable {D : va_G} {d : Nat} {ty : zT} {sz : Nat} {h : zH} {Q : zQ}
set_option maxHeartbeats 4000000 in
set_option maxRecDepth 100000 in
theorem c_m_rec261 {m : Int} (hM : isMT ty m) {i b to zone step row cost : Int} {kr : List Row} {it : IT} (hRB : RB h m i b to kr it) (hB : mB h m []) (hz : 0 ≤ zone ∧ zone ≤ 9) (hok : kOKp (vH kr it) 0 10 zone step) (hr : 0 ≤ row ∧ row < 3120) (hv : h (m + 4) row = cost) (hc : (vH kr it) 2 step = cost) (hex : exL 90 zone kr) (hs1 : srv1 kr it.2.2.2.2.2 10) (hq : ∀ g, FrP m h g → mB g m (kPl0 (vH kr it) 0 10 zone step) → zX D mX7_reckon (d + 3) 0 0 394 [(14, lV (sumP (kPl0 (vH kr it) 0 10 zone step))), (8, iV to), (7, iV b), (0, rV m)] [] ty sz g Q) : zX D mX7_reckon (d + 3) 0 0 261 [(13, iV row), (12, iV step), (8, iV to), (7, iV b), (3, iV zone), (1, iV i), (0, rV m)] [] ty sz h Q := by
  have hM0 := hM
  obtain ⟨m9, m0, a1, a2, a3, a4, a5, a6, a7, a8, a9, a10, a11, a12, a13, a14, a15, a16, a17, a18, a19, a20, a21⟩ := hM
  obtain ⟨q1, q2, q3, q4, q5, q6, q7, q8, q9⟩ := id hRB
  obtain ⟨k1, k2, k3, -⟩ := id hok
  have h2e : (vH kr it) (0 + 2) step = cost := hc
  have h3e : (vH kr it) (0 + 3) zone = lk 90 zone kr := ((vH_K kr it).2.2.2.1 zone (by omega) (by omega)).1
  rw [h2e] at k2
  rw [h3e] at k3
  have hzp := zpct k2 k3
  have hkb : kBase (vH kr it) 0 zone step = [(0, cost, step), (1, (cost * lk 90 zone kr).tdiv 100, zone)] := by unfold kBase; rw [h2e, h3e]
  refine x_aload_n (pc := 261) dX7_reckon_261 rfl ?_
  refine x_getF (pc := 262) dX7_reckon_262 f_RX7_19 (by assumption) (by rfl) ?_
  refine x_iload (pc := 265) dX7_reckon_265 rfl ?_
  refine x_iald (pc := 267) dX7_reckon_267 (by assumption) (by omega) (by omega) (fun b_267 => ?_)
  rw [hv] at b_267 ⊢
  refine x_i2l (pc := 268) dX7_reckon_268 ?_
  rw [w32_id (by omega) (by omega)]
  refine x_lstore (pc := 269) dX7_reckon_269 (by decide) ?_
  refine x_aload_n (pc := 271) dX7_reckon_271 rfl ?_
  refine x_iconst (pc := 272) dX7_reckon_272 ?_
  refine x_lload (pc := 273) dX7_reckon_273 rfl ?_
  refine x_iload (pc := 275) dX7_reckon_275 rfl ?_
  refine x_callV3 (pc := 277) dX7_reckon_277 (k_RX7_199 _ rfl) tmv_X7_part (by assumption) rfl rfl rfl ?_
  refine x_room (d' := d) (by omega) (Nat.le_refl _) (Nat.le_refl _) (c_m_part hM0 (by omega) hB (by decide) (fun g1 u1 u2 u3 => ?_))
  obtain ⟨r1, r2, r3, r4, r5, r6, r7, r8, r9⟩ := hRB.fr (g := g1) ⟨u1, u2⟩
  dsimp only [Option.toList, List.cons_append, List.nil_append]
  refine x_lload (pc := 280) dX7_reckon_280 rfl ?_
  refine x_aload_n (pc := 282) dX7_reckon_282 rfl ?_
  refine x_getF (pc := 283) dX7_reckon_283 f_RX7_19 (by assumption) (by rfl) ?_
  refine x_aload_n (pc := 286) dX7_reckon_286 rfl ?_
  refine x_iload (pc := 287) dX7_reckon_287 rfl ?_
  refine x_iload (pc := 289) dX7_reckon_289 rfl ?_
  refine x_bipush (pc := 291) dX7_reckon_291 (by decide) ?_
  refine x_iload_n (pc := 293) dX7_reckon_293 rfl ?_
  refine x_callV4 (pc := 294) dX7_reckon_294 (k_RX7_175 _ rfl) tmv_X7_rowOf (by assumption) rfl rfl rfl ?_
  refine x_room (d' := d) (by omega) (Nat.le_refl _) (Nat.le_refl _) (c_m_rowOf hM0 (by omega) r5 r6 r7 (fun res hpk => ?_))
  replace hpk := PK_lk r7.1 hpk
  rcases hpk with ⟨-, z, -⟩ | ⟨j, R, z1, z2, z3, z4, z5, -, z6⟩
  · exact absurd hex z
  have hjl := (List.getElem?_eq_some_iff.mp z3).1
  have hv2 : g1 (m + 4) res = lk 90 zone kr := by rw [z1, z6]; exact (r5 j R z3).2.2.1
  dsimp only [Option.toList, List.cons_append, List.nil_append]
  refine x_iald (pc := 297) dX7_reckon_297 (by assumption) (by omega) (by omega) (fun b_297 => ?_)
  rw [hv2] at b_297 ⊢
  refine x_i2l (pc := 298) dX7_reckon_298 ?_
  rw [w32_id (by omega) (by omega)]
  refine x_lmul (pc := 299) dX7_reckon_299 ?_
  refine x_ldc2 (pc := 300) dX7_reckon_300 (100) tc_RX7_203 (by decide) ?_
  refine x_ldiv (pc := 303) dX7_reckon_303 (by rw [show w64 100 = 100 from w64_id (by decide) (by decide)]; decide) ?_
  rw [w64_id (by omega) (by omega), show w64 100 = 100 from w64_id (by decide) (by decide)]
  refine x_lstore (pc := 304) dX7_reckon_304 (by decide) ?_
  refine x_aload_n (pc := 306) dX7_reckon_306 rfl ?_
  refine x_iconst (pc := 307) dX7_reckon_307 ?_
  refine x_lload (pc := 308) dX7_reckon_308 rfl ?_
  refine x_iload_n (pc := 310) dX7_reckon_310 rfl ?_
  refine x_callV3 (pc := 311) dX7_reckon_311 (k_RX7_199 _ rfl) tmv_X7_part (by assumption) rfl rfl rfl ?_
  refine x_room (d' := d) (by omega) (Nat.le_refl _) (Nat.le_refl _) (c_m_part hM0 (by omega) u3 (by simp) (fun g2 v1 v2 v3 => ?_))
  dsimp only [Option.toList, List.cons_append, List.nil_append]
  refine x_lload (pc := 314) dX7_reckon_314 rfl ?_
  refine x_lload (pc := 316) dX7_reckon_316 rfl ?_
  refine x_ladd (pc := 318) dX7_reckon_318 ?_
  refine x_lstore (pc := 319) dX7_reckon_319 (by decide) ?_
  refine x_iconst (pc := 321) dX7_reckon_321 ?_
  refine x_istore (pc := 322) dX7_reckon_322 (by decide) ?_
  have F : FrP m h g2 := FrP.t ⟨u1, u2⟩ ⟨v1, v2⟩
  have hp0 : kBase (vH kr it) 0 zone step ++ svL (vH kr it) 0 10 0 = [(0, cost, step), (1, (cost * lk 90 zone kr).tdiv 100, zone)] := by rw [hkb]; rfl
  have hsm : sumP (kBase (vH kr it) 0 zone step ++ svL (vH kr it) 0 10 0) = cost + (cost * lk 90 zone kr).tdiv 100 := by rw [hp0]; simp [sumP]
  refine x_loc [(18, iV ((0 : Nat) : Int)), (14, lV (sumP (kBase (vH kr it) 0 zone step ++ svL (vH kr it) 0 10 0))), (8, iV to), (7, iV b), (1, iV i), (0, rV m)] (by rw [hsm]; exact ⟨rfl, rfl, rfl, rfl, rfl, rfl, trivial⟩) (c_m_rec324 hM0 (hRB.fr F) hok hs1 (fun g F2 hB2 => hq g (F.t F2) hB2) 11 0 g2 (by omega) (FrP.rf _ _) (by rw [hp0]; exact v3) (by omega))

set_option maxHeartbeats 4000000 in
set_option maxRecDepth 100000 in
theorem c_m_rec181 {m : Int} (hM : isMT ty m) {i b to zone wt : Int} {kr : List Row} {it : IT} (hwt : i64 wt) (hRB : RB h m i b to kr it) (hq : ∀ row step, (row = -1 ∧ kStep (vH kr it) 0 wt = -1) ∨ (∃ (j : Nat) (R : Row), row = b + j ∧ kr[j]? = some R ∧ (0 ≤ row ∧ row < 3120) ∧ kStep (vH kr it) 0 wt = step ∧ (vH kr it) 2 step = R.2.2.1 ∧ 0 ≤ step ∧ step < nL 83 kr) → zX D mX7_reckon (d + 3) 0 0 251 [(13, iV row), (12, iV step), (8, iV to), (7, iV b), (3, iV zone), (1, iV i), (0, rV m)] [] ty sz h Q) : ∀ (n : Nat) (u : Nat) (row step : Int), u ≤ kr.length → PS kr b wt u row step → kr.length - u < n → zX D mX7_reckon (d + 3) 0 0 181 [(14, iV (b + u)), (13, iV row), (12, iV step), (9, lV wt), (8, iV to), (7, iV b), (3, iV zone), (1, iV i), (0, rV m)] [] ty sz h Q := by
  intro n
  induction n with
  | zero =>
    intro u row step h1 hps hm
    exfalso
    omega
  | succ n ih =>
    intro u row step h1 hps hm
    have hM0 := hM
    obtain ⟨m9, m0, a1, a2, a3, a4, a5, a6, a7, a8, a9, a10, a11, a12, a13, a14, a15, a16, a17, a18, a19, a20, a21⟩ := hM
    obtain ⟨q1, q2, q3, q4, q5, q6, q7, q8, q9⟩ := id hRB
    have hrw : -1 ≤ row ∧ row < 3120 := by
      rcases hps with ⟨z, -⟩ | ⟨j, R, z, z2, -⟩
      · omega
      · have := (List.getElem?_eq_some_iff.mp z2).1
        omega
    have hpf : row ≠ -1 → ∃ (j : Nat) (R : Row), row = b + j ∧ kr[j]? = some R ∧ (0 ≤ row ∧ row < 3120) ∧ kStep (vH kr it) 0 wt = step ∧ (vH kr it) 2 step = R.2.2.1 ∧ 0 ≤ step ∧ step < nL 83 kr := by
      intro hne
      rcases hps with ⟨z, -⟩ | ⟨j, R, z1, z2, z3, z4, z5, z6⟩
      · exact absurd z hne
      · obtain ⟨y1, y2, y3⟩ := PS_some (it := it) z2 z3 z4 z6
        subst z5
        exact ⟨j, R, z1, z2, ⟨by omega, by omega⟩, y1, y2, by omega, by omega⟩
    refine x_iload (pc := 181) dX7_reckon_181 rfl ?_
    refine x_iload (pc := 183) dX7_reckon_183 rfl ?_
    refine x_icmp_ge (pc := 185) 251 dX7_reckon_185 rfl (fun c_185 => ?_) (fun c_185 => ?_)
    · (try simp (disch := omega) only [zb_e0, zb_n0, w32_id, w64_id, ne_eq, Classical.not_not] at c_185)
      by_cases hne : row = -1
      · rcases hps with ⟨p1, p2, p3⟩ | ⟨j, R, z1, z2, -⟩
        · rw [show u = kr.length by omega, List.take_length] at p3
          exact x_loc _ (by exact ⟨rfl, rfl, rfl, rfl, rfl, rfl, rfl, trivial⟩) (hq row step (Or.inl ⟨p1, PS_none p3⟩))
        · omega
      · exact x_loc _ (by exact ⟨rfl, rfl, rfl, rfl, rfl, rfl, rfl, trivial⟩) (hq row step (Or.inr (hpf hne)))
    · (try simp (disch := omega) only [zb_e0, zb_n0, w32_id, w64_id, ne_eq, Classical.not_not] at c_185)
      refine x_iload (pc := 188) dX7_reckon_188 rfl ?_
      refine x_iconst (pc := 190) dX7_reckon_190 ?_
      refine x_icmp_ne (pc := 191) 251 dX7_reckon_191 rfl (fun c_191 => ?_) (fun c_191 => ?_)
      · (try simp (disch := omega) only [zb_e0, zb_n0, w32_id, w64_id, ne_eq, Classical.not_not] at c_191)
        exact x_loc _ (by exact ⟨rfl, rfl, rfl, rfl, rfl, rfl, rfl, trivial⟩) (hq row step (Or.inr (hpf (by omega))))
      · (try simp (disch := omega) only [zb_e0, zb_n0, w32_id, w64_id, ne_eq, Classical.not_not] at c_191)
        clear hpf
        obtain ⟨r, hr⟩ : ∃ r, kr[u]? = some r := ⟨_, List.getElem?_eq_getElem (by omega)⟩
        obtain ⟨R1, R2, R3, R4⟩ := q5 u r hr
        have htk := take_snoc hr
        have hBr := q8 r (List.mem_of_getElem? hr)
        rcases hps with ⟨p1, p2, p3⟩ | ⟨j, R, z1, z2, -⟩
        rotate_left 1
        · omega
        refine x_aload_n (pc := 194) dX7_reckon_194 rfl ?_
        refine x_getF (pc := 195) dX7_reckon_195 f_RX7_13 (by assumption) (by rfl) ?_
        refine x_iload (pc := 198) dX7_reckon_198 rfl ?_
        refine x_iald (pc := 200) dX7_reckon_200 (by assumption) (by omega) (by omega) (fun b_200 => ?_)
        rw [R1] at b_200 ⊢
        refine x_bipush (pc := 201) dX7_reckon_201 (by decide) ?_
        refine x_icmp_ne (pc := 203) 245 dX7_reckon_203 rfl (fun c_203 => ?_) (fun c_203 => ?_)
        · (try simp (disch := omega) only [zb_e0, zb_n0, w32_id, w64_id, ne_eq, Classical.not_not] at c_203)
          refine x_iinc (pc := 245) dX7_reckon_245 rfl (by decide) ?_
          refine x_goto (pc := 248) 181 dX7_reckon_248 rfl ?_
          have hN : PS kr b wt (u + 1) row step := Or.inl ⟨p1, by rw [htk, nL_snoc, if_neg c_203]; exact p2, fun q hq1 e => by
            rw [htk] at hq1
            rcases List.mem_append.mp hq1 with z | z
            · exact p3 q z e
            · rw [List.mem_singleton.mp z] at e; exact absurd e c_203⟩
          refine x_loc [(14, iV (b + ((u + 1 : Nat) : Int))), (13, iV row), (12, iV step), (9, lV wt), (8, iV to), (7, iV b), (3, iV zone), (1, iV i), (0, rV m)] (by rw [show b + ((u + 1 : Nat) : Int) = b + u + 1 by omega]; exact ⟨rfl, rfl, rfl, rfl, rfl, rfl, rfl, rfl, rfl, trivial⟩) (ih (u + 1) _ _ (by omega) hN (by omega))
        · (try simp (disch := omega) only [zb_e0, zb_n0, w32_id, w64_id, ne_eq, Classical.not_not] at c_203)
          refine x_aload_n (pc := 206) dX7_reckon_206 rfl ?_
          refine x_getF (pc := 207) dX7_reckon_207 f_RX7_16 (by assumption) (by rfl) ?_
          refine x_iload (pc := 210) dX7_reckon_210 rfl ?_
          refine x_iald (pc := 212) dX7_reckon_212 (by assumption) (by omega) (by omega) (fun b_212 => ?_)
          rw [R2] at b_212 ⊢
          refine x_i2l (pc := 213) dX7_reckon_213 ?_
          rw [w32_id (by omega) (by omega)]
          refine x_lload (pc := 214) dX7_reckon_214 rfl ?_
          refine x_lcmp_lt (pc := 216) 225 dX7_reckon_216 dX7_reckon_217 rfl (fun c_216 => ?_) (fun c_216 => ?_)
          · (try simp (disch := omega) only [zb_e0, zb_n0, w32_id, w64_id, ne_eq, Classical.not_not] at c_216)
            refine x_iconst (pc := 225) dX7_reckon_225 ?_
            refine x_istore (pc := 226) dX7_reckon_226 (by decide) ?_
            refine x_iload (pc := 228) dX7_reckon_228 rfl ?_
            refine x_iconst (pc := 230) dX7_reckon_230 ?_
            refine x_icmp_ne (pc := 231) 241 dX7_reckon_231 rfl (fun c_231 => ?_) (fun c_231 => ?_)
            · (try simp (disch := omega) only [zb_e0, zb_n0, w32_id, w64_id, ne_eq, Classical.not_not] at c_231)
              all_goals (first | omega | exact absurd rfl c_231 | exact absurd trivial c_231 | exact absurd c_231 (by decide))
            · (try simp (disch := omega) only [zb_e0, zb_n0, w32_id, w64_id, ne_eq, Classical.not_not] at c_231)
              refine x_iload (pc := 234) dX7_reckon_234 rfl ?_
              refine x_iconst (pc := 236) dX7_reckon_236 ?_
              refine x_iadd (pc := 237) dX7_reckon_237 ?_
              refine x_goto (pc := 238) 243 dX7_reckon_238 rfl ?_
              refine x_istore (pc := 243) dX7_reckon_243 (by decide) ?_
              refine x_iinc (pc := 245) dX7_reckon_245 rfl (by decide) ?_
              refine x_goto (pc := 248) 181 dX7_reckon_248 rfl ?_
              have hN : PS kr b wt (u + 1) (-1) (step + 1) := Or.inl ⟨rfl, by rw [htk, nL_snoc, if_pos c_203, p2]; omega, fun q hq1 e => by
                rw [htk] at hq1
                rcases List.mem_append.mp hq1 with z | z
                · exact p3 q z e
                · rw [List.mem_singleton.mp z]; exact c_216⟩
              refine x_loc [(14, iV (b + ((u + 1 : Nat) : Int))), (13, iV (-1)), (12, iV (step + 1)), (9, lV wt), (8, iV to), (7, iV b), (3, iV zone), (1, iV i), (0, rV m)] (by rw [show b + ((u + 1 : Nat) : Int) = b + u + 1 by omega]; exact ⟨rfl, rfl, rfl, rfl, rfl, rfl, rfl, rfl, rfl, trivial⟩) (ih (u + 1) _ _ (by omega) hN (by omega))
          · (try simp (disch := omega) only [zb_e0, zb_n0, w32_id, w64_id, ne_eq, Classical.not_not] at c_216)
            refine x_iload (pc := 220) dX7_reckon_220 rfl ?_
            refine x_goto (pc := 222) 226 dX7_reckon_222 rfl ?_
            refine x_istore (pc := 226) dX7_reckon_226 (by decide) ?_
            refine x_iload (pc := 228) dX7_reckon_228 rfl ?_
            refine x_iconst (pc := 230) dX7_reckon_230 ?_
            refine x_icmp_ne (pc := 231) 241 dX7_reckon_231 rfl (fun c_231 => ?_) (fun c_231 => ?_)
            · (try simp (disch := omega) only [zb_e0, zb_n0, w32_id, w64_id, ne_eq, Classical.not_not] at c_231)
              refine x_iload (pc := 241) dX7_reckon_241 rfl ?_
              refine x_istore (pc := 243) dX7_reckon_243 (by decide) ?_
              refine x_iinc (pc := 245) dX7_reckon_245 rfl (by decide) ?_
              refine x_goto (pc := 248) 181 dX7_reckon_248 rfl ?_
              have hN : PS kr b wt (u + 1) (b + u) step := Or.inr ⟨u, r, rfl, hr, c_203, by omega, p2, p3⟩
              refine x_loc [(14, iV (b + ((u + 1 : Nat) : Int))), (13, iV (b + (u : Int))), (12, iV step), (9, lV wt), (8, iV to), (7, iV b), (3, iV zone), (1, iV i), (0, rV m)] (by rw [show b + ((u + 1 : Nat) : Int) = b + u + 1 by omega]; exact ⟨rfl, rfl, rfl, rfl, rfl, rfl, rfl, rfl, rfl, trivial⟩) (ih (u + 1) _ _ (by omega) hN (by omega))
            · (try simp (disch := omega) only [zb_e0, zb_n0, w32_id, w64_id, ne_eq, Classical.not_not] at c_231)
              all_goals (first | omega | exact absurd rfl c_231 | exact absurd trivial c_231 | exact absurd c_231 (by decide))

end C36
