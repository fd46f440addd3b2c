section C42
variable {D : va_G} {d : Nat} {ty : zT} {sz : Nat} {h : zH} {Q : zQ}
theorem MR.frq {h g : zH} {m b : Int} {kr : List Row} (hR : MR h m b kr) (F : FrQ m h g) : MR g m b kr := hR.fr (fun q q1 q2 => F.1 q (by omega) (by omega))
theorem gL_s {α : Type} (f : Nat → List α) (n : Nat) : gL f (n + 1) = gL f n ++ f n := rfl

set_option maxHeartbeats 4000000 in
set_option maxRecDepth 100000 in
theorem c_m_each3 {m : Int} (hM : isMT ty m) {c : Int} {T : List Int} {b to : Int} {kr : List Row} (hR : MR h m b kr) (hto : to = b + kr.length) (hb : 0 ≤ b ∧ b + kr.length ≤ 3120) (hB : ∀ r ∈ kr, rowB r) (hc : i32 c) (hl : (T ++ semT (gL (nmF (fun z => lk c z kr) c) 10)).length ≤ 2000) (hq : ∀ h', FrQ m h h' → PA h' m (T ++ semT (gL (nmF (fun z => lk c z kr) c) 10)) → Q none ty sz h') : ∀ (n : Nat) (k : Nat) (g : zH), k ≤ 10 → FrQ m h g → PA g m (T ++ semT (gL (nmF (fun z => lk c z kr) c) k)) → 10 - k < n → zX D mX7_putEach (d + 3) 0 0 3 [(4, iV (k : Int)), (0, rV m), (1, iV b), (2, iV to), (3, iV c)] [] ty sz g Q := by
  intro n
  induction n with
  | zero =>
    intro k g h1 F hP hm
    exfalso
    omega
  | succ n ih =>
    intro k g h1 F hP hm
    have hM0 := hM
    obtain ⟨m9, m0, a1, a2, a3, a4, a5, a6, a7, a8, a9, a10, a11, a12, a13, a14, a15, a16, a17, a18, a19, a20, a21⟩ := hM
    have hRg := hR.frq F
    refine x_iload (pc := 3) dX7_putEach_3 rfl ?_
    refine x_bipush (pc := 5) dX7_putEach_5 (by decide) ?_
    refine x_icmp_ge (pc := 7) 49 dX7_putEach_7 rfl (fun c_7 => ?_) (fun c_7 => ?_)
    · (try simp (disch := omega) only [zb_e0, zb_n0, w32_id, w64_id, ne_eq, Classical.not_not] at c_7)
      refine x_ret (pc := 49) ⟨dX7_putEach_49, rfl⟩ ?_
      have ek : k = 10 := by omega
      subst ek
      exact hq g F hP
    · (try simp (disch := omega) only [zb_e0, zb_n0, w32_id, w64_id, ne_eq, Classical.not_not] at c_7)
      refine x_aload_n (pc := 10) dX7_putEach_10 rfl ?_
      refine x_iload_n (pc := 11) dX7_putEach_11 rfl ?_
      refine x_iload_n (pc := 12) dX7_putEach_12 rfl ?_
      refine x_iload_n (pc := 13) dX7_putEach_13 rfl ?_
      refine x_iload (pc := 14) dX7_putEach_14 rfl ?_
      refine x_callV4 (pc := 16) dX7_putEach_16 (k_RX7_175 _ rfl) tmv_X7_rowOf (by assumption) rfl rfl rfl ?_
      refine x_room (d' := d) (by omega) (Nat.le_refl _) (Nat.le_refl _) (c_m_rowOf hM0 (by omega) hRg hto hb (fun res hpk => ?_))
      replace hpk := PK_lk hb.1 hpk
      have hrs : -1 ≤ res ∧ res < 3120 := by
        rcases hpk with ⟨z, -⟩ | ⟨j, R, z1, z2, z3, -⟩
        · omega
        · have := (List.getElem?_eq_some_iff.mp z3).1
          omega
      dsimp only [Option.toList, List.cons_append, List.nil_append]
      refine x_istore (pc := 19) dX7_putEach_19 (by decide) ?_
      refine x_iload (pc := 21) dX7_putEach_21 rfl ?_
      refine x_iconst (pc := 23) dX7_putEach_23 ?_
      refine x_icmp_eq (pc := 24) 43 dX7_putEach_24 rfl (fun c_24 => ?_) (fun c_24 => ?_)
      · (try simp (disch := omega) only [zb_e0, zb_n0, w32_id, w64_id, ne_eq, Classical.not_not] at c_24)
        refine x_iinc (pc := 43) dX7_putEach_43 rfl (by decide) ?_
        refine x_goto (pc := 46) 3 dX7_putEach_46 rfl ?_
        have hnm : nmF (fun z => lk c z kr) c k = [] := by
          unfold nmF
          rcases hpk with ⟨-, -, z⟩ | ⟨j, R, -, z, -⟩
          · rw [if_pos z]
          · omega
        exact x_loc _ (by exact ⟨rfl, rfl, rfl, rfl, rfl, trivial⟩) (ih (k + 1) g (by omega) F (by rw [gL_s, hnm, List.append_nil]; exact hP) (by omega))
      · (try simp (disch := omega) only [zb_e0, zb_n0, w32_id, w64_id, ne_eq, Classical.not_not] at c_24)
        --
        rcases hpk with ⟨z, -⟩ | ⟨j, R, z1, z2, z3, z4, z5, -, z6⟩
        · exact absurd z c_24
        have hRi := (hB R (List.mem_of_getElem? z3)).2.2.1
        have hv : g (m + 4) res = R.2.2.1 := by rw [z1]; exact (hRg j R z3).2.2.1
        refine x_aload_n (pc := 27) dX7_putEach_27 rfl ?_
        refine x_iload_n (pc := 28) dX7_putEach_28 rfl ?_
        refine x_iconst (pc := 29) dX7_putEach_29 ?_
        refine x_iload (pc := 30) dX7_putEach_30 rfl ?_
        refine x_aload_n (pc := 32) dX7_putEach_32 rfl ?_
        refine x_getF (pc := 33) dX7_putEach_33 f_RX7_19 (by assumption) (by rfl) ?_
        refine x_iload (pc := 36) dX7_putEach_36 rfl ?_
        refine x_iald (pc := 38) dX7_putEach_38 (by assumption) (by omega) (by omega) (fun b_38 => ?_)
        rw [hv] at b_38 ⊢
        refine x_iconst (pc := 39) dX7_putEach_39 ?_
        refine x_callV5 (pc := 40) dX7_putEach_40 (k_RX7_229 _ rfl) tmv_X7_putRow (by assumption) rfl rfl rfl ?_
        have hgl := gL_le (f := nmF (fun z => lk c z kr) c) [] (n := k + 1) (m := 10) (by omega)
        have hnm : nmF (fun z => lk c z kr) c k = [(c, (k : Int), R.2.2.1, -1)] := by
          show (if lk c (k : Int) kr = -1 then [] else [(c, (k : Int), lk c (k : Int) kr, -1)]) = _
          rw [z6, if_neg (by omega)]
        simp only [List.nil_append] at hgl
        rw [gL_s, hnm, semT_app, semT_1] at hgl
        simp only [List.length_append] at hl hgl
        refine x_room (d' := d + 2) (by omega) (Nat.le_refl _) (Nat.le_refl _) (c_m_putRow2 hM0 hc (by omega) hRi hP (by simp only [List.length_append]; omega) (fun g1 F1 P1 => ?_))
        dsimp only [Option.toList, List.cons_append, List.nil_append]
        refine x_iinc (pc := 43) dX7_putEach_43 rfl (by decide) ?_
        refine x_goto (pc := 46) 3 dX7_putEach_46 rfl ?_
        exact x_loc _ (by exact ⟨rfl, rfl, rfl, rfl, rfl, trivial⟩) (ih (k + 1) g1 (by omega) (F.t F1) (by rw [gL_s, hnm, semT_app, semT_1, ← List.append_assoc]; exact P1) (by omega))

set_option maxHeartbeats 4000000 in
set_option maxRecDepth 100000 in
theorem c_m_putEach {m : Int} (hM : isMT ty m) {c : Int} {T : List Int} {b to : Int} {kr : List Row} (hR : MR h m b kr) (hto : to = b + kr.length) (hb : 0 ≤ b ∧ b + kr.length ≤ 3120) (hB : ∀ r ∈ kr, rowB r) (hc : i32 c) (hP : PA h m T) (hl : (T ++ semT (gL (nmF (fun z => lk c z kr) c) 10)).length ≤ 2000) (hq : ∀ h', FrQ m h h' → PA h' m (T ++ semT (gL (nmF (fun z => lk c z kr) c) 10)) → Q none ty sz h') : zXM D mX7_putEach (d + 3) 0 0 [rV m, iV b, iV to, iV c] ty sz h Q := by
  have hM0 := hM
  refine x_iconst (pc := 0) dX7_putEach_0 ?_
  refine x_istore (pc := 1) dX7_putEach_1 (by decide) ?_
  exact x_loc _ (by exact ⟨rfl, rfl, rfl, rfl, rfl, trivial⟩) (c_m_each3 hM0 hR hto hb hB hc hl hq 11 0 h (by omega) (FrQ.rf _ _) (by show PA h m (T ++ []); rw [List.append_nil]; exact hP) (by omega))

set_option maxHeartbeats 4000000 in
set_option maxRecDepth 100000 in
theorem c_m_putOnly1 {m : Int} (hM : isMT ty m) {c : Int} {T : List Int} {b to : Int} {kr : List Row} (hR : MR h m b kr) (hto : to = b + kr.length) (hb : 0 ≤ b ∧ b + kr.length ≤ 3120) (hB : ∀ r ∈ kr, rowB r) (hc : i32 c) (hP : PA h m T) (hl : (T ++ semT (if fl c (fun r => r.2.1) kr = -1 then [] else [(c, fl c (fun r => r.2.1) kr, -1, -1)])).length ≤ 2000) (hq : ∀ h', FrQ m h h' → PA h' m (T ++ semT (if fl c (fun r => r.2.1) kr = -1 then [] else [(c, fl c (fun r => r.2.1) kr, -1, -1)])) → Q none ty sz h') : zXM D mX7_putOnly (d + 3) 0 0 [rV m, iV b, iV to, iV c, iV 1] ty sz h Q := by
  have hM0 := hM
  obtain ⟨m9, m0, a1, a2, a3, a4, a5, a6, a7, a8, a9, a10, a11, a12, a13, a14, a15, a16, a17, a18, a19, a20, a21⟩ := hM
  refine x_aload_n (pc := 0) dX7_putOnly_0 rfl ?_
  refine x_iload_n (pc := 1) dX7_putOnly_1 rfl ?_
  refine x_iload_n (pc := 2) dX7_putOnly_2 rfl ?_
  refine x_iload_n (pc := 3) dX7_putOnly_3 rfl ?_
  refine x_callV3 (pc := 4) dX7_putOnly_4 (k_RX7_179 _ rfl) tmv_X7_onlyRow (by assumption) rfl rfl rfl ?_
  refine x_room (d' := d) (by omega) (Nat.le_refl _) (Nat.le_refl _) (c_m_onlyRow hM0 (by omega) hR hto hb (fun res hpk => ?_))
  replace hpk := PK_fl hb.1 hpk
  have hrs : -1 ≤ res ∧ res < 3120 := by
    rcases hpk with ⟨z, -⟩ | ⟨j, R, z1, z2, z3, -⟩
    · omega
    · have := (List.getElem?_eq_some_iff.mp z3).1
      omega
  dsimp only [Option.toList, List.cons_append, List.nil_append]
  refine x_istore (pc := 7) dX7_putOnly_7 (by decide) ?_
  refine x_iload (pc := 9) dX7_putOnly_9 rfl ?_
  refine x_iconst (pc := 11) dX7_putOnly_11 ?_
  refine x_icmp_eq (pc := 12) 43 dX7_putOnly_12 rfl (fun c_12 => ?_) (fun c_12 => ?_)
  · (try simp (disch := omega) only [zb_e0, zb_n0, w32_id, w64_id, ne_eq, Classical.not_not] at c_12)
    --
    have hf0 : fl c (fun r => r.2.1) kr = -1 := by
      rcases hpk with ⟨-, z⟩ | ⟨j, R, -, z, -⟩
      · exact z _
      · omega
    rw [if_pos hf0] at hq
    simp only [semT_nil, List.append_nil] at hq
    refine x_ret (pc := 43) ⟨dX7_putOnly_43, rfl⟩ ?_
    exact hq h (FrQ.rf _ _) hP
  · (try simp (disch := omega) only [zb_e0, zb_n0, w32_id, w64_id, ne_eq, Classical.not_not] at c_12)
    --
    rcases hpk with ⟨z, -⟩ | ⟨j, R, z1, z2, z3, z4, z5⟩
    · exact absurd z c_12
    have hBR := hB R (List.mem_of_getElem? z3)
    obtain ⟨-, R2, R3, R4⟩ := hR j R z3
    rw [← z1] at R2 R3 R4
    simp only [z5, show ¬ R.2.1 = -1 by have := hBR.2.1; omega, if_false, semT_1] at hl hq
    refine x_aload_n (pc := 15) dX7_putOnly_15 rfl ?_
    refine x_iload_n (pc := 16) dX7_putOnly_16 rfl ?_
    refine x_iload (pc := 17) dX7_putOnly_17 rfl ?_
    refine x_aload_n (pc := 19) dX7_putOnly_19 rfl ?_
    refine x_getF (pc := 20) dX7_putOnly_20 f_RX7_16 (by assumption) (by rfl) ?_
    refine x_iload (pc := 23) dX7_putOnly_23 rfl ?_
    refine x_iald (pc := 25) dX7_putOnly_25 (by assumption) (by omega) (by omega) (fun b_25 => ?_)
    rw [R2] at b_25 ⊢
    refine x_aload_n (pc := 26) dX7_putOnly_26 rfl ?_
    refine x_getF (pc := 27) dX7_putOnly_27 f_RX7_19 (by assumption) (by rfl) ?_
    refine x_iload (pc := 30) dX7_putOnly_30 rfl ?_
    refine x_iald (pc := 32) dX7_putOnly_32 (by assumption) (by omega) (by omega) (fun b_32 => ?_)
    rw [R3] at b_32 ⊢
    refine x_aload_n (pc := 33) dX7_putOnly_33 rfl ?_
    refine x_getF (pc := 34) dX7_putOnly_34 f_RX7_22 (by assumption) (by rfl) ?_
    refine x_iload (pc := 37) dX7_putOnly_37 rfl ?_
    refine x_iald (pc := 39) dX7_putOnly_39 (by assumption) (by omega) (by omega) (fun b_39 => ?_)
    rw [R4] at b_39 ⊢
    refine x_callV5 (pc := 40) dX7_putOnly_40 (k_RX7_229 _ rfl) tmv_X7_putRow (by assumption) rfl rfl rfl ?_
    refine x_room (d' := d + 2) (by omega) (Nat.le_refl _) (Nat.le_refl _) (c_m_putRow1 hM0 hc hBR.2.1 hP hl (fun g1 F1 P1 => ?_))
    dsimp only [Option.toList, List.cons_append, List.nil_append]
    refine x_ret (pc := 43) ⟨dX7_putOnly_43, rfl⟩ ?_
    exact hq g1 F1 P1

set_option maxHeartbeats 4000000 in
set_option maxRecDepth 100000 in
theorem c_m_putOnly2 {m : Int} (hM : isMT ty m) {c : Int} {T : List Int} {b to : Int} {kr : List Row} (hR : MR h m b kr) (hto : to = b + kr.length) (hb : 0 ≤ b ∧ b + kr.length ≤ 3120) (hB : ∀ r ∈ kr, rowB r) (hc : i32 c) (hP : PA h m T) (hl : (T ++ semT (if fl c (fun r => r.2.1) kr = -1 then [] else [(c, fl c (fun r => r.2.1) kr, fl c (fun r => r.2.2.1) kr, -1)])).length ≤ 2000) (hq : ∀ h', FrQ m h h' → PA h' m (T ++ semT (if fl c (fun r => r.2.1) kr = -1 then [] else [(c, fl c (fun r => r.2.1) kr, fl c (fun r => r.2.2.1) kr, -1)])) → Q none ty sz h') : zXM D mX7_putOnly (d + 3) 0 0 [rV m, iV b, iV to, iV c, iV 2] ty sz h Q := by
  have hM0 := hM
  obtain ⟨m9, m0, a1, a2, a3, a4, a5, a6, a7, a8, a9, a10, a11, a12, a13, a14, a15, a16, a17, a18, a19, a20, a21⟩ := hM
  refine x_aload_n (pc := 0) dX7_putOnly_0 rfl ?_
  refine x_iload_n (pc := 1) dX7_putOnly_1 rfl ?_
  refine x_iload_n (pc := 2) dX7_putOnly_2 rfl ?_
  refine x_iload_n (pc := 3) dX7_putOnly_3 rfl ?_
  refine x_callV3 (pc := 4) dX7_putOnly_4 (k_RX7_179 _ rfl) tmv_X7_onlyRow (by assumption) rfl rfl rfl ?_
  refine x_room (d' := d) (by omega) (Nat.le_refl _) (Nat.le_refl _) (c_m_onlyRow hM0 (by omega) hR hto hb (fun res hpk => ?_))
  replace hpk := PK_fl hb.1 hpk
  have hrs : -1 ≤ res ∧ res < 3120 := by
    rcases hpk with ⟨z, -⟩ | ⟨j, R, z1, z2, z3, -⟩
    · omega
    · have := (List.getElem?_eq_some_iff.mp z3).1
      omega
  dsimp only [Option.toList, List.cons_append, List.nil_append]
  refine x_istore (pc := 7) dX7_putOnly_7 (by decide) ?_
  refine x_iload (pc := 9) dX7_putOnly_9 rfl ?_
  refine x_iconst (pc := 11) dX7_putOnly_11 ?_
  refine x_icmp_eq (pc := 12) 43 dX7_putOnly_12 rfl (fun c_12 => ?_) (fun c_12 => ?_)
  · (try simp (disch := omega) only [zb_e0, zb_n0, w32_id, w64_id, ne_eq, Classical.not_not] at c_12)
    --
    have hf0 : fl c (fun r => r.2.1) kr = -1 := by
      rcases hpk with ⟨-, z⟩ | ⟨j, R, -, z, -⟩
      · exact z _
      · omega
    rw [if_pos hf0] at hq
    simp only [semT_nil, List.append_nil] at hq
    refine x_ret (pc := 43) ⟨dX7_putOnly_43, rfl⟩ ?_
    exact hq h (FrQ.rf _ _) hP
  · (try simp (disch := omega) only [zb_e0, zb_n0, w32_id, w64_id, ne_eq, Classical.not_not] at c_12)
    --
    rcases hpk with ⟨z, -⟩ | ⟨j, R, z1, z2, z3, z4, z5⟩
    · exact absurd z c_12
    have hBR := hB R (List.mem_of_getElem? z3)
    obtain ⟨-, R2, R3, R4⟩ := hR j R z3
    rw [← z1] at R2 R3 R4
    simp only [z5, show ¬ R.2.1 = -1 by have := hBR.2.1; omega, if_false, semT_1] at hl hq
    refine x_aload_n (pc := 15) dX7_putOnly_15 rfl ?_
    refine x_iload_n (pc := 16) dX7_putOnly_16 rfl ?_
    refine x_iload (pc := 17) dX7_putOnly_17 rfl ?_
    refine x_aload_n (pc := 19) dX7_putOnly_19 rfl ?_
    refine x_getF (pc := 20) dX7_putOnly_20 f_RX7_16 (by assumption) (by rfl) ?_
    refine x_iload (pc := 23) dX7_putOnly_23 rfl ?_
    refine x_iald (pc := 25) dX7_putOnly_25 (by assumption) (by omega) (by omega) (fun b_25 => ?_)
    rw [R2] at b_25 ⊢
    refine x_aload_n (pc := 26) dX7_putOnly_26 rfl ?_
    refine x_getF (pc := 27) dX7_putOnly_27 f_RX7_19 (by assumption) (by rfl) ?_
    refine x_iload (pc := 30) dX7_putOnly_30 rfl ?_
    refine x_iald (pc := 32) dX7_putOnly_32 (by assumption) (by omega) (by omega) (fun b_32 => ?_)
    rw [R3] at b_32 ⊢
    refine x_aload_n (pc := 33) dX7_putOnly_33 rfl ?_
    refine x_getF (pc := 34) dX7_putOnly_34 f_RX7_22 (by assumption) (by rfl) ?_
    refine x_iload (pc := 37) dX7_putOnly_37 rfl ?_
    refine x_iald (pc := 39) dX7_putOnly_39 (by assumption) (by omega) (by omega) (fun b_39 => ?_)
    rw [R4] at b_39 ⊢
    refine x_callV5 (pc := 40) dX7_putOnly_40 (k_RX7_229 _ rfl) tmv_X7_putRow (by assumption) rfl rfl rfl ?_
    refine x_room (d' := d + 2) (by omega) (Nat.le_refl _) (Nat.le_refl _) (c_m_putRow2 hM0 hc hBR.2.1 hBR.2.2.1 hP hl (fun g1 F1 P1 => ?_))
    dsimp only [Option.toList, List.cons_append, List.nil_append]
    refine x_ret (pc := 43) ⟨dX7_putOnly_43, rfl⟩ ?_
    exact hq g1 F1 P1

set_option maxHeartbeats 4000000 in
set_option maxRecDepth 100000 in
theorem c_m_putOnly3 {m : Int} (hM : isMT ty m) {c : Int} {T : List Int} {b to : Int} {kr : List Row} (hR : MR h m b kr) (hto : to = b + kr.length) (hb : 0 ≤ b ∧ b + kr.length ≤ 3120) (hB : ∀ r ∈ kr, rowB r) (hc : i32 c) (hP : PA h m T) (hl : (T ++ semT (if fl c (fun r => r.2.1) kr = -1 then [] else [(c, fl c (fun r => r.2.1) kr, fl c (fun r => r.2.2.1) kr, fl c (fun r => r.2.2.2) kr)])).length ≤ 2000) (hq : ∀ h', FrQ m h h' → PA h' m (T ++ semT (if fl c (fun r => r.2.1) kr = -1 then [] else [(c, fl c (fun r => r.2.1) kr, fl c (fun r => r.2.2.1) kr, fl c (fun r => r.2.2.2) kr)])) → Q none ty sz h') : zXM D mX7_putOnly (d + 3) 0 0 [rV m, iV b, iV to, iV c, iV 3] ty sz h Q := by
  have hM0 := hM
  obtain ⟨m9, m0, a1, a2, a3, a4, a5, a6, a7, a8, a9, a10, a11, a12, a13, a14, a15, a16, a17, a18, a19, a20, a21⟩ := hM
  refine x_aload_n (pc := 0) dX7_putOnly_0 rfl ?_
  refine x_iload_n (pc := 1) dX7_putOnly_1 rfl ?_
  refine x_iload_n (pc := 2) dX7_putOnly_2 rfl ?_
  refine x_iload_n (pc := 3) dX7_putOnly_3 rfl ?_
  refine x_callV3 (pc := 4) dX7_putOnly_4 (k_RX7_179 _ rfl) tmv_X7_onlyRow (by assumption) rfl rfl rfl ?_
  refine x_room (d' := d) (by omega) (Nat.le_refl _) (Nat.le_refl _) (c_m_onlyRow hM0 (by omega) hR hto hb (fun res hpk => ?_))
  replace hpk := PK_fl hb.1 hpk
  have hrs : -1 ≤ res ∧ res < 3120 := by
    rcases hpk with ⟨z, -⟩ | ⟨j, R, z1, z2, z3, -⟩
    · omega
    · have := (List.getElem?_eq_some_iff.mp z3).1
      omega
  dsimp only [Option.toList, List.cons_append, List.nil_append]
  refine x_istore (pc := 7) dX7_putOnly_7 (by decide) ?_
  refine x_iload (pc := 9) dX7_putOnly_9 rfl ?_
  refine x_iconst (pc := 11) dX7_putOnly_11 ?_
  refine x_icmp_eq (pc := 12) 43 dX7_putOnly_12 rfl (fun c_12 => ?_) (fun c_12 => ?_)
  · (try simp (disch := omega) only [zb_e0, zb_n0, w32_id, w64_id, ne_eq, Classical.not_not] at c_12)
    --
    have hf0 : fl c (fun r => r.2.1) kr = -1 := by
      rcases hpk with ⟨-, z⟩ | ⟨j, R, -, z, -⟩
      · exact z _
      · omega
    rw [if_pos hf0] at hq
    simp only [semT_nil, List.append_nil] at hq
    refine x_ret (pc := 43) ⟨dX7_putOnly_43, rfl⟩ ?_
    exact hq h (FrQ.rf _ _) hP
  · (try simp (disch := omega) only [zb_e0, zb_n0, w32_id, w64_id, ne_eq, Classical.not_not] at c_12)
    --
    rcases hpk with ⟨z, -⟩ | ⟨j, R, z1, z2, z3, z4, z5⟩
    · exact absurd z c_12
    have hBR := hB R (List.mem_of_getElem? z3)
    obtain ⟨-, R2, R3, R4⟩ := hR j R z3
    rw [← z1] at R2 R3 R4
    simp only [z5, show ¬ R.2.1 = -1 by have := hBR.2.1; omega, if_false, semT_1] at hl hq
    refine x_aload_n (pc := 15) dX7_putOnly_15 rfl ?_
    refine x_iload_n (pc := 16) dX7_putOnly_16 rfl ?_
    refine x_iload (pc := 17) dX7_putOnly_17 rfl ?_
    refine x_aload_n (pc := 19) dX7_putOnly_19 rfl ?_
    refine x_getF (pc := 20) dX7_putOnly_20 f_RX7_16 (by assumption) (by rfl) ?_
    refine x_iload (pc := 23) dX7_putOnly_23 rfl ?_
    refine x_iald (pc := 25) dX7_putOnly_25 (by assumption) (by omega) (by omega) (fun b_25 => ?_)
    rw [R2] at b_25 ⊢
    refine x_aload_n (pc := 26) dX7_putOnly_26 rfl ?_
    refine x_getF (pc := 27) dX7_putOnly_27 f_RX7_19 (by assumption) (by rfl) ?_
    refine x_iload (pc := 30) dX7_putOnly_30 rfl ?_
    refine x_iald (pc := 32) dX7_putOnly_32 (by assumption) (by omega) (by omega) (fun b_32 => ?_)
    rw [R3] at b_32 ⊢
    refine x_aload_n (pc := 33) dX7_putOnly_33 rfl ?_
    refine x_getF (pc := 34) dX7_putOnly_34 f_RX7_22 (by assumption) (by rfl) ?_
    refine x_iload (pc := 37) dX7_putOnly_37 rfl ?_
    refine x_iald (pc := 39) dX7_putOnly_39 (by assumption) (by omega) (by omega) (fun b_39 => ?_)
    rw [R4] at b_39 ⊢
    refine x_callV5 (pc := 40) dX7_putOnly_40 (k_RX7_229 _ rfl) tmv_X7_putRow (by assumption) rfl rfl rfl ?_
    refine x_room (d' := d + 2) (by omega) (Nat.le_refl _) (Nat.le_refl _) (c_m_putRow3 hM0 hc hBR.2.1 hBR.2.2.1 hBR.2.2.2.1 hP hl (fun g1 F1 P1 => ?_))
    dsimp only [Option.toList, List.cons_append, List.nil_append]
    refine x_ret (pc := 43) ⟨dX7_putOnly_43, rfl⟩ ?_
    exact hq g1 F1 P1

end C42
