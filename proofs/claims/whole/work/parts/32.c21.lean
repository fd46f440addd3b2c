section C21
variable {D : va_G} {d : Nat} {ty : zT} {sz : Nat} {h : zH} {Q : zQ}
set_option maxHeartbeats 4000000 in
set_option maxRecDepth 100000 in
theorem c_xInit68 {x : Int} {t0 : zT} {g0 : zH} {s0 : Nat} (h9 : 0 ≤ x) (hx : t0 x = some (6, 8, (fun i => if i = 0 then some (x + 1) else if i = 1 then some (x + 4) else if i = 2 then some (x + 6) else if i = 3 then some (x + 10) else if i = 4 then some (x + 14) else if i = 6 then some (x + 15) else none))) (hs : (s0 : Int) = x + 388) (hq : ∀ ty' h', zBel (x + 15) t0 ty' g0 h' → ty' (x + 15) = some (12, 6, (fun i => if 0 ≤ i ∧ i < 6 then some (x + 16 + 62 * i) else none)) → (∀ e, 0 ≤ e → e < 6 → isET ty' (x + 16 + 62 * e)) → Q none ty' s0 h') : ∀ (n : Nat) (k : Nat) (t : zT) (g : zH) (s : Nat), k ≤ 6 → (s : Int) = x + 16 + 62 * k → zBel (x + 15) t0 t g0 g → t (x + 15) = some (12, 6, zn) → (∀ j : Int, 0 ≤ j → j < k → isET t (x + 16 + 62 * j) ∧ g (x + 15) j = x + 16 + 62 * j) → 6 - k < n → zX D mX6_init (d + 3) (62 * (6 - k)) (661 * (6 - k)) 68 [(1, iV (k : Int)), (0, rV x)] [] t s g Q := by
  intro n
  induction n with
  | zero =>
    intro k t g s h1 hs1 hb ht1 hK hm
    exfalso
    omega
  | succ n ih =>
    intro k t g s h1 hs1 hb ht1 hK hm
    have hte : t x = _ := (hb x (by omega)).1.trans hx
    refine x_iload_n (pc := 68) dX6_init_68 rfl ?_
    refine x_aload_n (pc := 69) dX6_init_69 rfl ?_
    refine x_getF (pc := 70) dX6_init_70 f_RX6_41 (by assumption) (by rfl) ?_
    refine x_alen (pc := 73) dX6_init_73 (by assumption) (by decide) ?_
    refine x_icmp_ge (pc := 74) 96 dX6_init_74 rfl (fun c_74 => ?_) (fun c_74 => ?_)
    · (try simp (disch := omega) only [zb_e0, zb_n0, w32_id, w64_id, ne_eq, Classical.not_not] at c_74)
      refine x_freeze (r := x + 15) (kc := 12) (N := 6) (fun i => if 0 ≤ i ∧ i < 6 then some (x + 16 + 62 * i) else none) ht1 ?_ ?_
      · intro i v hi
        try simp only [] at hi
        split at hi
        · rename_i hi2
          cases hi
          exact (hK i hi2.1 (by omega)).2
        · cases hi
      refine x_ret (pc := 96) ⟨dX6_init_96, rfl⟩ ?_
      have es : s = s0 := by omega
      subst es
      have ek : k = 6 := by omega
      subst ek
      refine hq _ _ (fun q hq1 => ⟨by rw [zfrz_ne (by omega)]; exact (hb q (by omega)).1, (hb q (by omega)).2⟩) (zfrz_eq (y := zn) ht1) (fun k k0 k1 => ?_)
      exact (hK k k0 k1).1.bel (fun q q0 q1 => zfrz_ne (by omega))
    · (try simp (disch := omega) only [zb_e0, zb_n0, w32_id, w64_id, ne_eq, Classical.not_not] at c_74)
      refine x_room (d' := d + 3) (k' := 62 * (5 - k) + 62) (n' := 661 * (5 - k) + 661) (Nat.le_refl _) (by omega) (by omega) ?_
      refine x_aload_n (pc := 77) dX6_init_77 rfl ?_
      refine x_getF (pc := 78) dX6_init_78 f_RX6_41 (by assumption) (by rfl) ?_
      refine x_iload_n (pc := 81) dX6_init_81 rfl ?_
      refine y_new (x + 16 + 62 * k) (by omega) (pc := 82) dX6_init_82 (ci := 1) (k := 62 * (5 - k) + 61) (n := 661 * (5 - k) + 660) rfl (by decide) tcl_RX6_39 tin_RX1 tini_RX1 iX1 ?_
      refine x_dup (pc := 85) dX6_init_85 rfl ?_
      refine x_callI0 (pc := 86) 61 660 dX6_init_86 (k_RX6_45 _ rfl) tmi_X1_init (by omega) rfl rfl ?_
      refine c_eInit (e := x + 16 + 62 * k) znew_eq zrow_eq (by omega) (fun t2 g2 hb2 hK2 => ?_)
      have ht2 : t2 (x + 15) = some (12, 6, zn) := by rw [(hb2 _ (by omega)).1, znew_ne (by omega)]; exact ht1
      dsimp only [Option.toList, List.cons_append, List.nil_append]
      refine x_aast (pc := 89) dX6_init_89 ht2 (by decide) hK2.2.1 (by omega) (by omega) (by rfl) ?_
      refine x_iinc (pc := 90) dX6_init_90 rfl (by decide) ?_
      refine x_goto (pc := 93) 68 dX6_init_93 rfl ?_
      have hbe : ∀ q, q < x + 16 + 62 * k → t2 q = t q := fun q hq1 => by rw [(hb2 _ (by omega)).1, znew_ne (by omega)]
      have hge : ∀ q, q < x + 16 + 62 * k → g2 q = g q := fun q hq1 => by rw [(hb2 _ (by omega)).2, zrow_ne (by omega)]
      refine x_room (d' := d + 3) (k' := 62 * (6 - (k + 1))) (n' := 661 * (6 - (k + 1))) (Nat.le_refl _) (by omega) (by omega) (x_loc [(1, iV (((k + 1 : Nat)) : Int)), (0, rV x)] ⟨rfl, rfl, trivial⟩ (ih (k + 1) t2 _ (s + 1 + 61) (by omega) (by omega) ?_ ht2 ?_ (by omega)))
      · intro q hq1
        rw [zup_ne (by omega)]
        exact ⟨(hbe q (by omega)).trans (hb q hq1).1, (hge q (by omega)).trans (hb q hq1).2⟩
      · intro j j0 j1
        by_cases ej : j = k
        · subst ej
          exact ⟨hK2, by rw [zup_app, if_pos ⟨rfl, rfl⟩]⟩
        · obtain ⟨q1, q2⟩ := hK j j0 (by omega)
          refine ⟨q1.bel (fun q q0 q1 => hbe q (by omega)), ?_⟩
          rw [zup_app, if_neg (by omega), hge _ (by omega)]
          exact q2

def S0 : CS := ([], [], [], [], -1, [])
theorem PrIs_nil {h : zH} {p : Int} (h0 : h p 1 = 0) : PrIs h p [] := ⟨h0, fun i q hi => by simp at hi⟩

set_option maxHeartbeats 4000000 in
set_option maxRecDepth 100000 in
theorem c_xInit {x : Int} (hr : ty x = some (6, 8, zn)) (h0 : h x = zdef 6) (h9 : 0 ≤ x ∧ (sz : Int) = x + 1) (hq : ∀ ty' h' (sz' : Nat), (sz' : Int) = x + 388 → zBel x ty ty' h h' → (∀ lo, x + 387 < lo → zAbs ty' h' x lo S0) → Q none ty' sz' h') : zXM D mX6_init (d + 3) 387 7172 [rV x] ty sz h Q := by
  refine x_aload_n (pc := 0) dX6_init_0 rfl ?_
  refine x_objInit (pc := 1) dX6_init_1 (k_RX6_3 _ rfl) tobj_in tobj_code (by omega) (Nat.le_of_ble_eq_true rfl) ?_
  refine x_aload_n (pc := 4) dX6_init_4 rfl ?_
  refine y_new (x + 1) (by omega) (pc := 5) dX6_init_5 (ci := 5) (k := 386) (n := 7165) rfl (by decide) tcl_RX6_9 tin_RX5 tini_RX5 iX5 ?_
  refine x_dup (pc := 8) dX6_init_8 rfl ?_
  refine x_callI0 (pc := 9) 2 1503 dX6_init_9 (k_RX6_11 _ rfl) tmi_X5_init (by omega) rfl rfl ?_
  refine c_rInit (r := x + 1) znew_eq zrow_eq (by omega) (fun t1 g1 hb1 hR1 hz1 => ?_)
  have tx1 : t1 x = some (6, 8, zn) := by rw [(hb1 _ (by omega)).1, znew_ne (by omega)]; exact hr
  have gx1 : g1 x = zdef 6 := by rw [(hb1 _ (by omega)).2, zrow_ne (by omega)]; exact h0
  dsimp only [Option.toList, List.cons_append, List.nil_append]
  refine y_putRF 0 (pc := 12) dX6_init_12 f_RX6_12 tx1 (by first | exact Or.inl ⟨_, rfl⟩ | exact Or.inr ⟨_, rfl⟩) ⟨rfl, rfl⟩ (by rfl) rfl ?_
  refine x_aload_n (pc := 15) dX6_init_15 rfl ?_
  refine y_new (x + 4) (by omega) (pc := 16) dX6_init_16 (ci := 4) (k := 383) (n := 5660) rfl (by decide) tcl_RX6_16 tin_RX4 tini_RX4 iX4 ?_
  refine x_dup (pc := 19) dX6_init_19 rfl ?_
  refine x_callI0 (pc := 20) 1 1500 dX6_init_20 (k_RX6_18 _ rfl) tmi_X4_init (by omega) rfl rfl ?_
  refine c_pInit (r := x + 4) znew_eq zrow_eq (by omega) (fun t2 g2 hb2 hR2 hz2 => ?_)
  have tb2 : ∀ q, q < x + 4 → t2 q = t1 q := fun q hq1 => by rw [(hb2 _ (by omega)).1, znew_ne (by omega)]
  have gb2 : ∀ q, q < x + 4 → g2 q = zup g1 x 0 (x + 1) q := fun q hq1 => by rw [(hb2 _ (by omega)).2, zrow_ne (by omega)]
  have tx2 : t2 x = some (6, 8, zn) := (tb2 x (by omega)).trans tx1
  dsimp only [Option.toList, List.cons_append, List.nil_append]
  refine y_putRF 1 (pc := 23) dX6_init_23 f_RX6_19 tx2 (by first | exact Or.inl ⟨_, rfl⟩ | exact Or.inr ⟨_, rfl⟩) ⟨rfl, rfl⟩ (by rfl) rfl ?_
  refine x_aload_n (pc := 26) dX6_init_26 rfl ?_
  refine y_new (x + 6) (by omega) (pc := 27) dX6_init_27 (ci := 0) (k := 381) (n := 4155) rfl (by decide) tcl_RX6_23 tin_RX0 tini_RX0 iX0 ?_
  refine x_dup (pc := 30) dX6_init_30 rfl ?_
  refine x_callI0 (pc := 31) 3 39 dX6_init_31 (k_RX6_25 _ rfl) tmi_X0_init (by omega) rfl rfl ?_
  refine c_bInit (r := x + 6) znew_eq zrow_eq (by omega) (fun t3 g3 hb3 hR3 hz3 => ?_)
  have tb3 : ∀ q, q < x + 6 → t3 q = t2 q := fun q hq1 => by rw [(hb3 _ (by omega)).1, znew_ne (by omega)]
  have gb3 : ∀ q, q < x + 6 → g3 q = zup g2 x 1 (x + 4) q := fun q hq1 => by rw [(hb3 _ (by omega)).2, zrow_ne (by omega)]
  have tx3 : t3 x = some (6, 8, zn) := (tb3 x (by omega)).trans tx2
  dsimp only [Option.toList, List.cons_append, List.nil_append]
  refine y_putRF 2 (pc := 34) dX6_init_34 f_RX6_26 tx3 (by first | exact Or.inl ⟨_, rfl⟩ | exact Or.inr ⟨_, rfl⟩) ⟨rfl, rfl⟩ (by rfl) rfl ?_
  refine x_aload_n (pc := 37) dX6_init_37 rfl ?_
  refine y_new (x + 10) (by omega) (pc := 38) dX6_init_38 (ci := 0) (k := 377) (n := 4111) rfl (by decide) tcl_RX6_23 tin_RX0 tini_RX0 iX0 ?_
  refine x_dup (pc := 41) dX6_init_41 rfl ?_
  refine x_callI0 (pc := 42) 3 39 dX6_init_42 (k_RX6_25 _ rfl) tmi_X0_init (by omega) rfl rfl ?_
  refine c_bInit (r := x + 10) znew_eq zrow_eq (by omega) (fun t4 g4 hb4 hR4 hz4 => ?_)
  have tb4 : ∀ q, q < x + 10 → t4 q = t3 q := fun q hq1 => by rw [(hb4 _ (by omega)).1, znew_ne (by omega)]
  have gb4 : ∀ q, q < x + 10 → g4 q = zup g3 x 2 (x + 6) q := fun q hq1 => by rw [(hb4 _ (by omega)).2, zrow_ne (by omega)]
  have tx4 : t4 x = some (6, 8, zn) := (tb4 x (by omega)).trans tx3
  dsimp only [Option.toList, List.cons_append, List.nil_append]
  refine y_putRF 3 (pc := 45) dX6_init_45 f_RX6_30 tx4 (by first | exact Or.inl ⟨_, rfl⟩ | exact Or.inr ⟨_, rfl⟩) ⟨rfl, rfl⟩ (by rfl) rfl ?_
  refine x_aload_n (pc := 48) dX6_init_48 rfl ?_
  refine x_bipush (pc := 49) dX6_init_49 (by decide) ?_
  refine y_anew (N := 100) (x + 14) (by omega) (pc := 51) dX6_init_51 (kc := 11) (C := RX2) (by decide +kernel) tcl_RX6_33 (by decide) ?_
  refine y_putRF 4 (pc := 54) dX6_init_54 f_RX6_35 (by rw [znew_ne (by omega)]; exact tx4) (by first | exact Or.inl ⟨_, rfl⟩ | exact Or.inr ⟨_, rfl⟩) ⟨rfl, rfl⟩ (by rfl) rfl ?_
  refine x_aload_n (pc := 57) dX6_init_57 rfl ?_
  refine x_bipush (pc := 58) dX6_init_58 (by decide) ?_
  refine y_anew (N := 6) (x + 15) (by omega) (pc := 60) dX6_init_60 (kc := 12) (C := RX1) (by decide +kernel) tcl_RX6_39 (by decide) ?_
  refine y_putRF 6 (pc := 63) dX6_init_63 f_RX6_41 (by rw [znew_ne (by omega), znew_ne (by omega)]; exact tx4) (by first | exact Or.inl ⟨_, rfl⟩ | exact Or.inr ⟨_, rfl⟩) ⟨rfl, rfl⟩ (by rfl) rfl ?_
  have hv : ∀ i v, (i : Int) = i → (fun i => if i = 0 then some (x + 1) else if i = 1 then some (x + 4) else if i = 2 then some (x + 6) else if i = 3 then some (x + 10) else if i = 4 then some (x + 14) else if i = 6 then some (x + 15) else none) i = some v → zup (zrow (zup (zrow (zup g4 x 3 (x + 10)) (x + 14) (fun _ => -1)) x 4 (x + 14)) (x + 15) (fun _ => -1)) x 6 (x + 15) x i = v := by
    intro i v _ hi
    try simp only [] at hi
    have n14 : ¬ x = x + 14 := by omega
    have n15 : ¬ x = x + 15 := by omega
    repeat' split at hi
    all_goals first | (cases hi; done) | (cases hi; subst_vars; simp [zup_app, zrow_at, n14, n15, gb4 x (by omega), gb3 x (by omega), gb2 x (by omega)]; done)
  have tx6 : znew (znew t4 (x + 14) 11 100) (x + 15) 12 6 x = some (6, 8, zn) := by rw [znew_ne (by omega), znew_ne (by omega)]; exact tx4
  refine x_freeze (r := x) (kc := 6) (N := 8) (fun i => if i = 0 then some (x + 1) else if i = 1 then some (x + 4) else if i = 2 then some (x + 6) else if i = 3 then some (x + 10) else if i = 4 then some (x + 14) else if i = 6 then some (x + 15) else none) tx6 (fun i v hi => hv i v rfl hi) ?_
  refine x_iconst (pc := 66) dX6_init_66 ?_
  refine x_istore_n (pc := 67) dX6_init_67 (by decide) ?_
  have TB : ∀ q, q < x + 14 → q ≠ x → zfrz (znew (znew t4 (x + 14) 11 100) (x + 15) 12 6) x (fun i => if i = 0 then some (x + 1) else if i = 1 then some (x + 4) else if i = 2 then some (x + 6) else if i = 3 then some (x + 10) else if i = 4 then some (x + 14) else if i = 6 then some (x + 15) else none) q = t4 q := fun q q1 q2 => by rw [zfrz_ne q2, znew_ne (by omega), znew_ne (by omega)]
  generalize hG : zup (zrow (zup (zrow (zup g4 x 3 (x + 10)) (x + 14) (fun _ => -1)) x 4 (x + 14)) (x + 15) (fun _ => -1)) x 6 (x + 15) = G
  have GB : ∀ q, q < x + 14 → q ≠ x → G q = g4 q := fun q q1 q2 => by rw [← hG, zup_ne q2, zrow_ne (by omega), zup_ne q2, zrow_ne (by omega), zup_ne q2]
  have G5 : G x 5 = 0 ∧ G x 7 = 0 := by
    have n14 : ¬ x = x + 14 := by omega
    have n15 : ¬ x = x + 15 := by omega
    rw [← hG]
    constructor <;> (simp [zup_app, zrow_at, n14, n15, gb4 x (by omega), gb3 x (by omega), gb2 x (by omega), gx1]; rfl)
  refine x_room (d' := d + 3) (k' := 62 * (6 - 0)) (n' := 661 * (6 - 0)) (Nat.le_refl _) (by omega) (by omega) (x_loc _ (by exact ⟨rfl, rfl, trivial⟩) (c_xInit68 (x := x) (s0 := sz + 387) h9.1 (zfrz_eq (y := zn) tx6) (by omega) ?_ 7 0 _ _ _ (by omega) (by omega) (fun q q1 => ⟨rfl, rfl⟩) (by rw [zfrz_ne (by omega)]; exact znew_eq) (fun j j0 j1 => absurd j1 (by omega)) (by omega)))
  intro t5 g5 hb5 ht15 hE5
  have T5 : ∀ q, q < x + 14 → q ≠ x → t5 q = t4 q := fun q q1 q2 => by rw [(hb5 q (by omega)).1, TB q q1 q2]
  have GG : ∀ q, q < x + 14 → q ≠ x → g5 q = g4 q := fun q q1 q2 => by rw [(hb5 q (by omega)).2, GB q q1 q2]
  have T3 : ∀ q, q < x + 10 → q ≠ x → t5 q = t3 q := fun q q1 q2 => by rw [T5 q (by omega) q2, tb4 q (by omega)]
  have T2 : ∀ q, q < x + 6 → q ≠ x → t5 q = t2 q := fun q q1 q2 => by rw [T3 q (by omega) q2, tb3 q (by omega)]
  have T1 : ∀ q, q < x + 4 → q ≠ x → t5 q = t1 q := fun q q1 q2 => by rw [T2 q (by omega) q2, tb2 q (by omega)]
  have Q3 : ∀ q, q < x + 10 → q ≠ x → g5 q = g3 q := fun q q1 q2 => by rw [GG q (by omega) q2, gb4 q (by omega), zup_ne q2]
  have Q2 : ∀ q, q < x + 6 → q ≠ x → g5 q = g2 q := fun q q1 q2 => by rw [Q3 q (by omega) q2, gb3 q (by omega), zup_ne q2]
  have Q1 : ∀ q, q < x + 4 → q ≠ x → g5 q = g1 q := fun q q1 q2 => by rw [Q2 q (by omega) q2, gb2 q (by omega), zup_ne q2]
  have hg5x : g5 x = G x := (hb5 x (by omega)).2
  have hXT : isXT t5 x := by
    refine ⟨h9.1, (hb5 x (by omega)).1.trans (zfrz_eq (y := zn) tx6), ?_, ?_, ?_, ?_, ?_, ht15, hE5⟩
    · unfold isRT at hR1 ⊢
      rw [T1 (x + 1) (by omega) (by omega), T1 (x + 1 + 1) (by omega) (by omega), T1 (x + 1 + 2) (by omega) (by omega)]
      exact hR1
    · unfold isPT at hR2 ⊢
      rw [T2 (x + 4) (by omega) (by omega), T2 (x + 4 + 1) (by omega) (by omega)]
      exact hR2
    · unfold isBT at hR3 ⊢
      rw [T3 (x + 6) (by omega) (by omega), T3 (x + 6 + 1) (by omega) (by omega), T3 (x + 6 + 2) (by omega) (by omega), T3 (x + 6 + 3) (by omega) (by omega)]
      exact hR3
    · unfold isBT at hR4 ⊢
      rw [T5 (x + 10) (by omega) (by omega), T5 (x + 10 + 1) (by omega) (by omega), T5 (x + 10 + 2) (by omega) (by omega), T5 (x + 10 + 3) (by omega) (by omega)]
      exact hR4
    · rw [(hb5 _ (by omega)).1, zfrz_ne (by omega), znew_ne (by omega)]
      exact znew_eq
  refine hq t5 g5 _ (by omega) ?_ ?_
  · intro q q1
    refine ⟨?_, ?_⟩
    · rw [T1 q (by omega) (by omega), (hb1 q (by omega)).1, znew_ne (by omega)]
    · rw [Q1 q (by omega) (by omega), (hb1 q (by omega)).2, zrow_ne (by omega)]
  · intro lo hlo
    refine ⟨hXT, hlo, ⟨PrIs_nil ?_, by show (0 : Nat) ≤ 1500; decide, fun c hc => absurd hc (by show ¬ c ∈ ([] : List Int); simp)⟩, ⟨?_, by show (0 : Nat) ≤ 5; decide, fun j l hj => ?_⟩, ⟨?_, by show (0 : Nat) ≤ 100; decide, fun j it hj => ?_, fun i j hi hj => absurd hi (by show ¬ i < 0; omega)⟩, ⟨⟨?_, ?_, fun i q hi => ?_⟩, by show (0 : Nat) ≤ 13; decide⟩, ⟨PrIs_nil ?_, by show (0 : Nat) ≤ 1500; decide⟩⟩
    · rw [Q1 _ (by omega) (by omega)]; exact hz1
    · rw [hg5x]; exact G5.2
    · replace hj : ([] : List (List Row))[j]? = some l := hj
      simp at hj
    · rw [hg5x]; exact G5.1
    · replace hj : ([] : List IT)[j]? = some it := hj
      simp at hj
    · rw [Q3 _ (by omega) (by omega)]; exact hz3.1
    · rw [Q3 _ (by omega) (by omega)]; exact hz3.2
    · replace hi : ([] : List PT)[i]? = some q := hi
      simp at hi
    · rw [Q2 _ (by omega) (by omega)]; exact hz2

end C21
