section C35
variable {D : va_G} {d : Nat} {ty : zT} {sz : Nat} {h : zH} {Q : zQ}
/-- what a bill of the reference leaves as it was -/
def FrP (m : Int) (h h' : zH) : Prop := (∀ q, q ≠ m → (q < m + 13 ∨ m + 15 < q) → h' q = h q) ∧ ∀ k, k ≠ 19 → h' m k = h m k
theorem FrP.rf (m : Int) (h : zH) : FrP m h h := ⟨fun _ _ _ => rfl, fun _ _ => rfl⟩
theorem FrP.t {m : Int} {h h' h2 : zH} (a : FrP m h h') (b : FrP m h' h2) : FrP m h h2 := ⟨fun q q1 q2 => (b.1 q q1 q2).trans (a.1 q q1 q2), fun k hk => (b.2 k hk).trans (a.2 k hk)⟩
/-- an item and a kind's rows, as the reference holds them -/
def RB (h : zH) (m i b to : Int) (kr : List Row) (it : IT) : Prop := (0 ≤ i ∧ i < 100) ∧ ItM h m i it ∧ itB it ∧ HasIs h m i it.2.2.2.2.2 ∧ MR h m b kr ∧ to = b + kr.length ∧ (0 ≤ b ∧ b + kr.length ≤ 3120) ∧ (∀ r ∈ kr, rowB r) ∧ cntOK kr
theorem RB.fr {h g : zH} {m i b to : Int} {kr : List Row} {it : IT} (hR : RB h m i b to kr it) (F : FrP m h g) : RB g m i b to kr it := by
  obtain ⟨h1, h2, h3, h4, h5, h6, h7, h8, h9⟩ := hR
  refine ⟨h1, ?_, h3, ?_, h5.fr (fun q q1 q2 => F.1 q (by omega) (by omega)), h6, h7, h8, h9⟩
  · unfold ItM at *
    rw [F.1 (m + 7) (by omega) (by omega), F.1 (m + 8) (by omega) (by omega), F.1 (m + 9) (by omega) (by omega), F.1 (m + 10) (by omega) (by omega), F.1 (m + 11) (by omega) (by omega)]
    exact h2
  · unfold HasIs at *
    rw [F.1 (m + 12) (by omega) (by omega)]
    exact h4
theorem kOK_M {kr : List Row} {it : IT} {zone day step : Int} (hB : ∀ r ∈ kr, rowB r) (hc : cntOK kr) (hb : itB it) (hz : 0 ≤ zone ∧ zone ≤ 9) (ht : kTakes (vH kr it) 0 10 zone day) (hs : 0 ≤ step ∧ step < nL 83 kr) : kOKp (vH kr it) 0 10 zone step := by
  have hK := vH_K kr it
  obtain ⟨g1, g2, g3, g4, g5, g6⟩ := KI_Good hK hB hc
  obtain ⟨t1, t2, t3, t4⟩ := ht
  have hn : vH kr it 0 1 = nL 83 kr := hK.2.1
  have hc83 := hc.1
  refine ⟨by omega, g2 step hs.1 (by omega), ?_, fun s s0 s1 hh => ?_, g6⟩
  · rcases g3 zone (by omega) (by omega) with z | z
    · exact absurd z t3
    · exact z
  · rcases g4 s s0 s1 with z | z
    · exact absurd z (t4 s s0 s1 hh).1
    · exact z

set_option maxHeartbeats 4000000 in
set_option maxRecDepth 100000 in
theorem c_m_rec416 {m : Int} (hM : isMT ty m) {r t n0 : Int} (hr : 0 ≤ r ∧ r < 3120) (hv : h (m + 3) r = n0) (hn : 1 ≤ n0 ∧ n0 ≤ 1000) (ht : 0 ≤ t ∧ t ≤ 300000000) (hk : zX D mX7_reckon (d + 3) 0 0 441 [(19, lV (zdu t n0 * n0)), (18, iV r), (14, lV t), (0, rV m)] [] ty sz h Q) : ∀ (n : Nat) (up : Int), t ≤ up ∧ up ≤ zdu t n0 * n0 → zdu t n0 * n0 - up < n → zX D mX7_reckon (d + 3) 0 0 416 [(19, lV up), (18, iV r), (14, lV t), (0, rV m)] [] ty sz h Q := by
  intro n
  induction n with
  | zero =>
    intro up h1 hm
    exfalso
    omega
  | succ n ih =>
    intro up h1 hm
    have hM0 := hM
    obtain ⟨m9, m0, a1, a2, a3, a4, a5, a6, a7, a8, a9, a10, a11, a12, a13, a14, a15, a16, a17, a18, a19, a20, a21⟩ := hM
    have hz := zdu_up ht.1 hn.1
    have hu := up_ok ht.1 hn.1 h1.1 h1.2
    refine x_lload (pc := 416) dX7_reckon_416 rfl ?_
    refine x_aload_n (pc := 418) dX7_reckon_418 rfl ?_
    refine x_getF (pc := 419) dX7_reckon_419 f_RX7_16 (by assumption) (by rfl) ?_
    refine x_iload (pc := 422) dX7_reckon_422 rfl ?_
    refine x_iald (pc := 424) dX7_reckon_424 (by assumption) (by omega) (by omega) (fun b_424 => ?_)
    rw [hv] at b_424 ⊢
    refine x_i2l (pc := 425) dX7_reckon_425 ?_
    rw [w32_id (by omega) (by omega)]
    refine x_lrem (pc := 426) dX7_reckon_426 (by first | (rw [w32_id (by omega) (by omega), w64_id (by omega) (by omega)]; omega) | (rw [w64_id (by omega) (by omega)]; omega)) ?_
    rw [w64_id (by omega) (by omega), w64_id (by omega) (by omega)]
    have htm : 0 ≤ up.tmod n0 ∧ up.tmod n0 < n0 := by
      rw [Int.tmod_eq_emod_of_nonneg (by omega)]
      exact ⟨Int.emod_nonneg _ (by omega), Int.emod_lt_of_pos _ (by omega)⟩
    refine x_lconst (pc := 427) dX7_reckon_427 0 (by decide) ?_
    refine x_lcmp_eq (pc := 428) 441 dX7_reckon_428 dX7_reckon_429 rfl (fun c_428 => ?_) (fun c_428 => ?_)
    · (try simp (disch := omega) only [zb_e0, zb_n0, w32_id, w64_id, ne_eq, Classical.not_not] at c_428)
      rw [hu.1 (by omega)]
      exact x_loc _ (by exact ⟨rfl, rfl, rfl, rfl, trivial⟩) hk
    · (try simp (disch := omega) only [zb_e0, zb_n0, w32_id, w64_id, ne_eq, Classical.not_not] at c_428)
      refine x_lload (pc := 432) dX7_reckon_432 rfl ?_
      refine x_lconst (pc := 434) dX7_reckon_434 1 (by decide) ?_
      refine x_ladd (pc := 435) dX7_reckon_435 ?_
      refine x_lstore (pc := 436) dX7_reckon_436 (by decide) ?_
      refine x_goto (pc := 438) 416 dX7_reckon_438 rfl ?_
      exact x_loc _ (by exact ⟨rfl, rfl, rfl, rfl, trivial⟩) (ih (up + 1) ⟨by omega, hu.2 (by omega)⟩ (by omega))

set_option maxHeartbeats 4000000 in
set_option maxRecDepth 100000 in
theorem c_m_rec441 {m : Int} (hM : isMT ty m) {r t u n0 : Int} {pl : List PT} (hr : 0 ≤ r ∧ r < 3120) (hv : h (m + 3) r = n0) (hn : 1 ≤ n0 ∧ n0 ≤ 1000) (ht : 0 ≤ t ∧ t ≤ 300000000) (hu : t ≤ u ∧ u ≤ t + 1000) (hB : mB h m pl) (hl : pl.length ≤ 12) (hq : ∀ h', FrP m h h' → mB h' m (pl ++ [(3, u - t, n0)]) → Q (some (lV u)) ty sz h') : zX D mX7_reckon (d + 3) 0 0 441 [(19, lV u), (18, iV r), (14, lV t), (0, rV m)] [] ty sz h Q := by
  have hM0 := hM
  obtain ⟨m9, m0, a1, a2, a3, a4, a5, a6, a7, a8, a9, a10, a11, a12, a13, a14, a15, a16, a17, a18, a19, a20, a21⟩ := hM
  refine x_aload_n (pc := 441) dX7_reckon_441 rfl ?_
  refine x_iconst (pc := 442) dX7_reckon_442 ?_
  refine x_lload (pc := 443) dX7_reckon_443 rfl ?_
  refine x_lload (pc := 445) dX7_reckon_445 rfl ?_
  refine x_lsub (pc := 447) dX7_reckon_447 ?_
  refine x_aload_n (pc := 448) dX7_reckon_448 rfl ?_
  refine x_getF (pc := 449) dX7_reckon_449 f_RX7_16 (by assumption) (by rfl) ?_
  refine x_iload (pc := 452) dX7_reckon_452 rfl ?_
  refine x_iald (pc := 454) dX7_reckon_454 (by assumption) (by omega) (by omega) (fun b_454 => ?_)
  rw [hv] at b_454 ⊢
  refine x_callV3 (pc := 455) dX7_reckon_455 (k_RX7_199 _ rfl) tmv_X7_part (by assumption) rfl rfl rfl ?_
  refine x_room (d' := d) (by omega) (Nat.le_refl _) (Nat.le_refl _) (c_m_part hM0 (by omega) hB (by omega) (fun g g1 g2 g3 => ?_))
  dsimp only [Option.toList, List.cons_append, List.nil_append]
  refine x_lload (pc := 458) dX7_reckon_458 rfl ?_
  refine x_lstore (pc := 460) dX7_reckon_460 (by decide) ?_
  refine x_lload (pc := 462) dX7_reckon_462 rfl ?_
  refine x_retv (pc := 464) ⟨dX7_reckon_464, rfl⟩ ?_
  exact hq g ⟨g1, g2⟩ g3

set_option maxHeartbeats 4000000 in
set_option maxRecDepth 100000 in
theorem c_m_rec394 {m : Int} (hM : isMT ty m) {i b to : Int} {kr : List Row} {it : IT} {pl : List PT} {t : Int} (hRB : RB h m i b to kr it) (hB : mB h m pl) (hl : pl.length ≤ 12) (ht : 0 ≤ t ∧ t ≤ 300000000) (hq : ∀ h', FrP m h h' → mB h' m (if 0 < fl 82 (fun r => r.2.1) kr then pl ++ [(3, zdu t (fl 82 (fun r => r.2.1) kr) * (fl 82 (fun r => r.2.1) kr) - t, fl 82 (fun r => r.2.1) kr)] else pl) → Q (some (lV (if 0 < fl 82 (fun r => r.2.1) kr then zdu t (fl 82 (fun r => r.2.1) kr) * (fl 82 (fun r => r.2.1) kr) else t))) ty sz h') : zX D mX7_reckon (d + 3) 0 0 394 [(14, lV t), (8, iV to), (7, iV b), (0, rV m)] [] ty sz h Q := by
  have hM0 := hM
  obtain ⟨m9, m0, a1, a2, a3, a4, a5, a6, a7, a8, a9, a10, a11, a12, a13, a14, a15, a16, a17, a18, a19, a20, a21⟩ := hM
  obtain ⟨q1, q2, q3, q4, q5, q6, q7, q8, q9⟩ := id hRB
  refine x_aload_n (pc := 394) dX7_reckon_394 rfl ?_
  refine x_iload (pc := 395) dX7_reckon_395 rfl ?_
  refine x_iload (pc := 397) dX7_reckon_397 rfl ?_
  refine x_bipush (pc := 399) dX7_reckon_399 (by decide) ?_
  refine x_callV3 (pc := 401) dX7_reckon_401 (k_RX7_179 _ rfl) tmv_X7_onlyRow (by assumption) rfl rfl rfl ?_
  refine x_room (d' := d) (by omega) (Nat.le_refl _) (Nat.le_refl _) (c_m_onlyRow hM0 (by omega) q5 q6 q7 (fun res hpk => ?_))
  replace hpk := PK_fl q7.1 hpk
  have hrs : -1 ≤ res ∧ res < 3120 := by
    rcases hpk with ⟨z, -⟩ | ⟨j, R, z1, z2, z3, -⟩
    · omega
    · have := (List.getElem?_eq_some_iff.mp z3).1
      omega
  dsimp only [Option.toList, List.cons_append, List.nil_append]
  refine x_istore (pc := 404) dX7_reckon_404 (by decide) ?_
  refine x_iload (pc := 406) dX7_reckon_406 rfl ?_
  refine x_iconst (pc := 408) dX7_reckon_408 ?_
  refine x_icmp_eq (pc := 409) 462 dX7_reckon_409 rfl (fun c_409 => ?_) (fun c_409 => ?_)
  · (try simp (disch := omega) only [zb_e0, zb_n0, w32_id, w64_id, ne_eq, Classical.not_not] at c_409)
    --
    have hf0 : fl 82 (fun r => r.2.1) kr = -1 := by
      rcases hpk with ⟨-, z⟩ | ⟨j, R, -, z, -⟩
      · exact z _
      · omega
    simp only [hf0, show ¬ ((0 : Int) < -1) by decide, if_false] at hq
    refine x_lload (pc := 462) dX7_reckon_462 rfl ?_
    refine x_retv (pc := 464) ⟨dX7_reckon_464, rfl⟩ ?_
    exact hq h (FrP.rf _ _) hB
  · (try simp (disch := omega) only [zb_e0, zb_n0, w32_id, w64_id, ne_eq, Classical.not_not] at c_409)
    refine x_lload (pc := 412) dX7_reckon_412 rfl ?_
    refine x_lstore (pc := 414) dX7_reckon_414 (by decide) ?_
    rcases hpk with ⟨z, -⟩ | ⟨j, R, z1, z2, z3, z4, z5⟩
    · exact absurd z c_409
    have hRB2 := q8 R (List.mem_of_getElem? z3)
    have hR9 := hRB2.2.2.2.2.2.2.2.2.2.2.2 z4
    have hv : h (m + 3) res = R.2.1 := by rw [z1]; exact (q5 j R z3).2.1
    simp only [z5, show (0 : Int) < R.2.1 by omega, if_true] at hq
    have hz := zdu_up ht.1 hR9.1
    refine x_loc _ (by exact ⟨rfl, rfl, rfl, rfl, trivial⟩) (c_m_rec416 hM0 (by omega) hv hR9 ht ?_ 1001 t (by omega) (by omega))
    exact c_m_rec441 hM0 (by omega) hv hR9 ht (by omega) hB hl hq

set_option maxHeartbeats 4000000 in
set_option maxRecDepth 100000 in
theorem c_m_rec324 {m : Int} (hM : isMT ty m) {i b to zone step : Int} {kr : List Row} {it : IT} (hRB : RB h m i b to kr it) (hok : kOKp (vH kr it) 0 10 zone step) (hs1 : srv1 kr it.2.2.2.2.2 10) (hq : ∀ g, FrP m h g → mB g m (kPl0 (vH kr it) 0 10 zone step) → zX D mX7_reckon (d + 3) 0 0 394 [(14, lV (sumP (kPl0 (vH kr it) 0 10 zone step))), (8, iV to), (7, iV b), (0, rV m)] [] ty sz g Q) : ∀ (n : Nat) (s : Nat) (g : zH), s ≤ 10 → FrP m h g → mB g m (kBase (vH kr it) 0 zone step ++ svL (vH kr it) 0 10 s) → 10 - s < n → zX D mX7_reckon (d + 3) 0 0 324 [(18, iV (s : Int)), (14, lV (sumP (kBase (vH kr it) 0 zone step ++ svL (vH kr it) 0 10 s))), (8, iV to), (7, iV b), (1, iV i), (0, rV m)] [] ty sz g Q := by
  intro n
  induction n with
  | zero =>
    intro s g h1 F hB hm
    exfalso
    omega
  | succ n ih =>
    intro s g h1 F hB hm
    have hM0 := hM
    obtain ⟨m9, m0, a1, a2, a3, a4, a5, a6, a7, a8, a9, a10, a11, a12, a13, a14, a15, a16, a17, a18, a19, a20, a21⟩ := hM
    obtain ⟨q1, q2, q3, q4, q5, q6, q7, q8, q9⟩ := hRB.fr F
    obtain ⟨b1, b2, b3⟩ := kPart_b hok s h1
    have hhs := fun (hx : s < 10) => vH_has (kr := kr) (it := it) q3.2.2.2.2.2 (s := (s : Int)) (by omega) (by omega)
    refine x_iload (pc := 324) dX7_reckon_324 rfl ?_
    refine x_bipush (pc := 326) dX7_reckon_326 (by decide) ?_
    refine x_icmp_ge (pc := 328) 394 dX7_reckon_328 rfl (fun c_328 => ?_) (fun c_328 => ?_)
    · (try simp (disch := omega) only [zb_e0, zb_n0, w32_id, w64_id, ne_eq, Classical.not_not] at c_328)
      rw [show s = 10 by omega]
      rw [show s = 10 by omega] at hB
      exact x_loc _ (by exact ⟨rfl, rfl, rfl, rfl, trivial⟩) (hq g F hB)
    · (try simp (disch := omega) only [zb_e0, zb_n0, w32_id, w64_id, ne_eq, Classical.not_not] at c_328)
      refine x_aload_n (pc := 331) dX7_reckon_331 rfl ?_
      refine x_getF (pc := 332) dX7_reckon_332 f_RX7_43 (by assumption) (by rfl) ?_
      refine x_bipush (pc := 335) dX7_reckon_335 (by decide) ?_
      refine x_iload_n (pc := 337) dX7_reckon_337 rfl ?_
      refine x_imul (pc := 338) dX7_reckon_338 ?_
      refine x_iload (pc := 339) dX7_reckon_339 rfl ?_
      refine x_iadd (pc := 341) dX7_reckon_341 ?_
      refine x_zald (pc := 342) dX7_reckon_342 (by assumption) (by omega) (by omega) (fun b_342 => ?_)
      rw [q4.z (z := (s : Int)) (by omega) (by omega), Int.toNat_natCast]
      refine x_if_eq (pc := 343) 388 dX7_reckon_343 rfl (fun c_343 => ?_) (fun c_343 => ?_)
      · (try simp (disch := omega) only [zb_e0, zb_n0, w32_id, w64_id, ne_eq, Classical.not_not] at c_343)
        refine x_iinc (pc := 388) dX7_reckon_388 rfl (by decide) ?_
        refine x_goto (pc := 391) 324 dX7_reckon_391 rfl ?_
        have hy := svL_n (h := vH kr it) (a := 0) (it := 10) (n := s) (fun z => c_343 (by have := (hhs (by omega)).mp z; rwa [Int.toNat_natCast] at this))
        refine x_loc [(18, iV ((s + 1 : Nat) : Int)), (14, lV (sumP (kBase (vH kr it) 0 zone step ++ svL (vH kr it) 0 10 (s + 1)))), (8, iV to), (7, iV b), (1, iV i), (0, rV m)] (by rw [hy]; exact ⟨rfl, rfl, rfl, rfl, rfl, rfl, trivial⟩) (ih (s + 1) g (by omega) F (by rw [hy]; exact hB) (by omega))
      · (try simp (disch := omega) only [zb_e0, zb_n0, w32_id, w64_id, ne_eq, Classical.not_not] at c_343)
        refine x_aload_n (pc := 346) dX7_reckon_346 rfl ?_
        refine x_iload (pc := 347) dX7_reckon_347 rfl ?_
        refine x_iload (pc := 349) dX7_reckon_349 rfl ?_
        refine x_bipush (pc := 351) dX7_reckon_351 (by decide) ?_
        refine x_iload (pc := 353) dX7_reckon_353 rfl ?_
        refine x_callV4 (pc := 355) dX7_reckon_355 (k_RX7_175 _ rfl) tmv_X7_rowOf (by assumption) rfl rfl rfl ?_
        refine x_room (d' := d) (by omega) (Nat.le_refl _) (Nat.le_refl _) (c_m_rowOf hM0 (by omega) q5 q6 q7 (fun res hpk => ?_))
        replace hpk := PK_lk q7.1 hpk
        have hex := hs1 s (by omega) c_343
        rcases hpk with ⟨-, z, -⟩ | ⟨j, R, z1, z2, z3, z4, z5, -, z6⟩
        · exact absurd hex z
        have hjl := (List.getElem?_eq_some_iff.mp z3).1
        have hRi := (q8 R (List.mem_of_getElem? z3)).2.2.1
        have hv : g (m + 4) res = R.2.2.1 := by rw [z1]; exact (q5 j R z3).2.2.1
        dsimp only [Option.toList, List.cons_append, List.nil_append]
        refine x_istore (pc := 358) dX7_reckon_358 (by decide) ?_
        refine x_aload_n (pc := 360) dX7_reckon_360 rfl ?_
        refine x_iconst (pc := 361) dX7_reckon_361 ?_
        refine x_aload_n (pc := 362) dX7_reckon_362 rfl ?_
        refine x_getF (pc := 363) dX7_reckon_363 f_RX7_19 (by assumption) (by rfl) ?_
        refine x_iload (pc := 366) dX7_reckon_366 rfl ?_
        refine x_iald (pc := 368) dX7_reckon_368 (by assumption) (by omega) (by omega) (fun b_368 => ?_)
        rw [hv] at b_368 ⊢
        refine x_i2l (pc := 369) dX7_reckon_369 ?_
        rw [w32_id (by omega) (by omega)]
        refine x_iload (pc := 370) dX7_reckon_370 rfl ?_
        refine x_callV3 (pc := 372) dX7_reckon_372 (k_RX7_199 _ rfl) tmv_X7_part (by assumption) rfl rfl rfl ?_
        refine x_room (d' := d) (by omega) (Nat.le_refl _) (Nat.le_refl _) (c_m_part hM0 (by omega) hB (by omega) (fun g1 u1 u2 u3 => ?_))
        have hv1 : g1 (m + 4) res = R.2.2.1 := by rw [u1 _ (by omega) (by omega)]; exact hv
        dsimp only [Option.toList, List.cons_append, List.nil_append]
        refine x_lload (pc := 375) dX7_reckon_375 rfl ?_
        refine x_aload_n (pc := 377) dX7_reckon_377 rfl ?_
        refine x_getF (pc := 378) dX7_reckon_378 f_RX7_19 (by assumption) (by rfl) ?_
        refine x_iload (pc := 381) dX7_reckon_381 rfl ?_
        refine x_iald (pc := 383) dX7_reckon_383 (by assumption) (by omega) (by omega) (fun b_383 => ?_)
        rw [hv1] at b_383 ⊢
        refine x_i2l (pc := 384) dX7_reckon_384 ?_
        rw [w32_id (by omega) (by omega)]
        refine x_ladd (pc := 385) dX7_reckon_385 ?_
        refine x_lstore (pc := 386) dX7_reckon_386 (by decide) ?_
        refine x_iinc (pc := 388) dX7_reckon_388 rfl (by decide) ?_
        refine x_goto (pc := 391) 324 dX7_reckon_391 rfl ?_
        have h4 : vH kr it (0 + 4) s = lk 88 s kr := by
          have := ((vH_K kr it).2.2.2.1 s (by omega) (by omega)).2.1
          exact this
        have hy := svL_y (h := vH kr it) (a := 0) (it := 10) (n := s) ((hhs (by omega)).mpr (by rw [Int.toNat_natCast]; exact c_343))
        rw [h4, z6] at hy
        have hp : (kBase (vH kr it) 0 zone step ++ svL (vH kr it) 0 10 (s + 1)) = (kBase (vH kr it) 0 zone step ++ svL (vH kr it) 0 10 s) ++ [(2, R.2.2.1, (s : Int))] := by rw [hy, List.append_assoc]
        refine x_loc [(18, iV ((s + 1 : Nat) : Int)), (14, lV (sumP (kBase (vH kr it) 0 zone step ++ svL (vH kr it) 0 10 (s + 1)))), (8, iV to), (7, iV b), (1, iV i), (0, rV m)] (by rw [hp, sumP_app (kBase (vH kr it) 0 zone step ++ svL (vH kr it) 0 10 s), sumP_1]; exact ⟨rfl, rfl, rfl, rfl, rfl, rfl, trivial⟩) (ih (s + 1) g1 (by omega) (F.t ⟨u1, u2⟩) (by rw [hp]; exact u3) (by omega))

end C35
