section EE4
variable {D : va_G} {Q : zQ} {b L : Nat} {xs : Nat → Int32}
theorem zAbs.fr0 {ty ty' : zT} {h h' : zH} {x lo : Int} {S : CS} (hA : zAbs ty h x lo S) (hn : cI S = []) (hX' : isXT ty' x) (e : ∀ q, x ≤ q → q ≤ x + 387 → h' q = h q) : zAbs ty' h' x lo S := by
  obtain ⟨hX, hL, hT, hE, hI, hB, hP⟩ := hA
  have e0 : h' x = h x := e x (by omega) (by omega)
  have hl := hE.2.1
  refine ⟨hX', hL, hT.fr (fun q q0 q1 => e q (by omega) (by omega)), hE.fr (by rw [e0]) (fun q q0 q1 => e q (by omega) (by omega)), ⟨by rw [e0]; exact hI.1, hI.2.1, fun j it hj => ?_, fun i j hi => ?_⟩, hB.fr (fun q q0 q1 => e q (by omega) (by omega)), hP.fr (fun q q0 q1 => e q (by omega) (by omega))⟩
  · rw [hn] at hj; simp at hj
  · rw [hn] at hi; simp at hi

set_option maxHeartbeats 4000000 in
set_option maxRecDepth 100000 in
theorem law_all {z0 : Nat} (hL : L ≤ 288) (hq : ∀ (ty : zT) (sz : Nat) (h : zH), Q (some (iV 1)) ty sz h) : zX D (mLaw b L xs) 18 (48 + 1 + 21 + 1 + 387 + 1) (6 * 48 + 1 + 21582 + 31 + 7172 + 8) 0 [(0, rV b)] [] (fun _ => none) z0 (fun _ _ => 0) Q := by
  refine y_new ((z0 : Int)) (by omega) (pc := 0) dL_law_0 (ci := 6)  rfl (by decide) tcl_RL_8 tin_RX6 tini_RX6 iX6 ?_
  refine x_dup (pc := 3) dL_law_3 rfl ?_
  refine x_callI0 (pc := 4) 387 7172 dL_law_4 (k_RL_15 _ rfl) tmi_X6_init (by omega) rfl rfl ?_
  refine x_room (d' := 3) (by omega) (Nat.le_refl _) (Nat.le_refl _) (c_xInit (d := 0) znew_eq zrow_eq ⟨by omega, by omega⟩ (fun ty1 h1 sz1 hs1 B1 hZ1 => ?_))
  dsimp only [Option.toList, List.cons_append, List.nil_append]
  refine x_lt (fun hlt1 => ?_)
  refine x_astore_n (pc := 7) dL_law_7 (by exact Nat.le_of_ble_eq_true rfl) ?_
  refine y_new ((z0 : Int) + 388) (by omega) (pc := 8) dL_law_8 (ci := 7)  rfl (by decide) tcl_RL_16 tin_RX7 tini_RX7 iX7 ?_
  refine x_dup (pc := 11) dL_law_11 rfl ?_
  refine x_callI0 (pc := 12) 21 21582 dL_law_12 (k_RL_18 _ rfl) tmi_X7_init (by omega) rfl rfl ?_
  refine x_room (d' := 1) (by omega) (Nat.le_refl _) (Nat.le_refl _) (c_mInit (d := 0) znew_eq zrow_eq ⟨by omega, by omega⟩ (fun ty2 h2 B2 hM2 => ?_))
  dsimp only [Option.toList, List.cons_append, List.nil_append]
  refine x_lt (fun hlt2 => ?_)
  refine x_astore_n (pc := 15) dL_law_15 (by exact Nat.le_of_ble_eq_true rfl) ?_
  refine x_iconst (pc := 16) dL_law_16 ?_
  refine y_newJ (N := 1) ((z0 : Int) + 410) (by omega) (pc := 17) dL_law_17 tarr_long (by decide) ?_
  refine x_astore_n (pc := 19) dL_law_19 (by exact Nat.le_of_ble_eq_true rfl) ?_
  refine x_iconst (pc := 20) dL_law_20 ?_
  refine x_istore (pc := 21) dL_law_21 (by exact Nat.le_of_ble_eq_true rfl) ?_
  have t13 : ∀ q y, ty1 q = some y → znew ty2 ((z0 : Int) + 410) 9 1 q = some y := by
    intro q y hy
    have hq1 := hlt1 q y hy
    rw [znew_ne (by omega), (B2 q (by omega)).1, znew_ne (by omega)]
    exact hy
  have t23 : ∀ q y, ty2 q = some y → znew ty2 ((z0 : Int) + 410) 9 1 q = some y := by
    intro q y hy
    have hq1 := hlt2 q y hy
    rw [znew_ne (by omega)]
    exact hy
  have hZ0 : zAbs ty1 h1 (z0 : Int) ((z0 : Int) + 411) S0 := hZ1 _ (by omega)
  have I0 : LInv (znew ty2 ((z0 : Int) + 410) 9 1) (sz1 + 1 + 21 + 1) (zrow h2 ((z0 : Int) + 410) (fun _ => 0)) (z0 : Int) ((z0 : Int) + 388) ((z0 : Int) + 410) ((z0 : Int) + 411) S0 := by
    refine ⟨hZ0.fr0 rfl (hZ0.1.mono t13) (fun q q0 q1 => ?_), hM2.fr t23 (fun q q0 q1 => zrow_ne (by omega)), ⟨znew_eq, by omega⟩, ⟨by omega, by omega, by omega, by omega⟩, fun t ht => by cases ht⟩
    rw [zrow_ne (by omega), (B2 q (by omega)).2, zrow_ne (by omega)]
  exact x_loc _ (by exact ⟨by show _ = some (iV (6 * ((0 : Nat) : Int))); rfl, rfl, rfl, rfl, rfl, trivial⟩) (law_loop hL hq 48 0 _ _ _ S0 I0 (by omega))

/-- the tables know the classes -/
theorem law_K {s : State} {args : Array Value} (hts : ∀ w ∈ lw_tbl, w.before args s = true) : ∃ D : va_G, va_K D zC (ztys D) s := by
  have htb : ∀ w ∈ zTB, w.before args s = true := fun w hw => hts w (List.mem_filter.mp hw).1
  obtain ⟨c0, i0, k0⟩ := u_known (C := RX0) (T := TX0) (N := 5) (n := 5) htb iX0 (htb _ tin_RX0)
  obtain ⟨c1, i1, k1⟩ := u_known (C := RX1) (T := TX1) (N := 1) (n := 1) htb iX1 (htb _ tin_RX1)
  obtain ⟨c2, i2, k2⟩ := u_known (C := RX2) (T := TX2) (N := 6) (n := 6) htb iX2 (htb _ tin_RX2)
  obtain ⟨c3, i3, k3⟩ := u_known (C := RX3) (T := TX3) (N := 15) (n := 15) htb iX3 (htb _ tin_RX3)
  obtain ⟨c4, i4, k4⟩ := u_known (C := RX4) (T := TX4) (N := 2) (n := 2) htb iX4 (htb _ tin_RX4)
  obtain ⟨c5, i5, k5⟩ := u_known (C := RX5) (T := TX5) (N := 7) (n := 7) htb iX5 (htb _ tin_RX5)
  obtain ⟨c6, i6, k6⟩ := u_known (C := RX6) (T := TX6) (N := 8) (n := 8) htb iX6 (htb _ tin_RX6)
  obtain ⟨c7, i7, k7⟩ := u_known (C := RX7) (T := TX7) (N := 31) (n := 31) htb iX7 (htb _ tin_RX7)
  obtain ⟨c8, q8, p8, f8, g8, e8⟩ := Cond.arrayClass_spec (htb _ tarr_int)
  obtain ⟨c9, q9, p9, f9, g9, e9⟩ := Cond.arrayClass_spec (htb _ tarr_long)
  obtain ⟨c10, q10, p10, f10, g10, e10⟩ := Cond.arrayClass_spec (htb _ tarr_boolean)
  obtain ⟨p11, c11, q11, r11, -, g11, e11, f11⟩ := Cond.arrayOver_spec (hts (Cond.arrayOver (.object RX2)) (List.mem_of_getElem? (i := 149) (by decide +kernel)))
  obtain ⟨p12, c12, q12, r12, -, g12, e12, f12⟩ := Cond.arrayOver_spec (hts (Cond.arrayOver (.object RX1)) (List.mem_of_getElem? (i := 151) (by decide +kernel)))
  obtain ⟨p13, c13, q13, r13, -, g13, e13, f13⟩ := Cond.arrayOver_spec (hts (Cond.arrayOver (.object RX3)) (List.mem_of_getElem? (i := 158) (by decide +kernel)))
  refine ⟨(fun k => match k with
    | 0 => c0 | 1 => c1 | 2 => c2 | 3 => c3 | 4 => c4 | 5 => c5 | 6 => c6 | 7 => c7 | 8 => c8 | 9 => c9 | 10 => c10 | 11 => c11 | 12 => c12 | _ => c13, fun k => match k with
    | 0 => i0 | 1 => i1 | 2 => i2 | 3 => i3 | 4 => i4 | 5 => i5 | 6 => i6 | _ => i7), ?_, ?_⟩
  · intro k q hq
    match k, hq with
    | 0, hq => cases hq; exact k0
    | 1, hq => cases hq; exact k1
    | 2, hq => cases hq; exact k2
    | 3, hq => cases hq; exact k3
    | 4, hq => cases hq; exact k4
    | 5, hq => cases hq; exact k5
    | 6, hq => cases hq; exact k6
    | 7, hq => cases hq; exact k7
    | k + 8, hq => simp [zC] at hq
  · intro k q hq
    match k, hq with
    | 0, hq => cases hq; exact ⟨fun n z => ⟨fun k h => (by cases h), q8, g8, p8, e8⟩, f8⟩
    | 1, hq => cases hq; exact ⟨fun n z => ⟨fun k h => (by cases h), q9, g9, p9, e9⟩, f9⟩
    | 2, hq => cases hq; exact ⟨fun n z => ⟨fun k h => (by cases h), q10, g10, p10, e10⟩, f10⟩
    | 3, hq => cases hq; exact ⟨fun n z => ⟨fun k h => (by cases h), q11, g11, p11, e11⟩, q11, p11, g11, e11, r11, f11⟩
    | 4, hq => cases hq; exact ⟨fun n z => ⟨fun k h => (by cases h), q12, g12, p12, e12⟩, q12, p12, g12, e12, r12, f12⟩
    | 5, hq => cases hq; exact ⟨fun n z => ⟨fun k h => (by cases h), q13, g13, p13, e13⟩, q13, p13, g13, e13, r13, f13⟩
    | k + 6, hq => simp [ztys] at hq
theorem law_AO {s : State} {args : Array Value} (hts : ∀ w ∈ lw_tbl, w.before args s = true) : zAO s := by
  refine ⟨va_AO.of (hts (Cond.arrayOver (.object RX2)) (List.mem_of_getElem? (i := 149) (by decide +kernel))), va_AO.of (hts (Cond.arrayOver (.object RX1)) (List.mem_of_getElem? (i := 151) (by decide +kernel))), va_AO.of (hts (Cond.arrayOver (.object RX3)) (List.mem_of_getElem? (i := 158) (by decide +kernel))), fun w hw => ?_⟩
  obtain ⟨h1, h2⟩ := List.mem_filter.mp hw
  have h3 : w.onTables = true := by cases w <;> first | rfl | (simp [zisN] at h2)
  exact va_Nw.of h3 (hts w h1)
end EE4

