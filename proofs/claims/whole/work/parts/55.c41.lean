section C41
variable {D : va_G} {d : Nat} {ty : zT} {sz : Nat} {h : zH} {Q : zQ}
set_option maxHeartbeats 4000000 in
set_option maxRecDepth 100000 in
theorem c_m_putRow1 {m : Int} (hM : isMT ty m) {c a b e : Int} {T : List Int} (hc : i32 c) (ha : i10 a) (hP : PA h m T) (hl : (T ++ 59 :: rT (c, a, -1, -1)).length ≤ 2000) (hq : ∀ h', FrQ m h h' → PA h' m (T ++ 59 :: rT (c, a, -1, -1)) → Q none ty sz h') : zXM D mX7_putRow (d + 2) 0 0 [rV m, iV c, iV 1, iV a, iV b, iV e] ty sz h Q := by
  have hM0 := hM
  obtain ⟨m9, m0, -⟩ := id hM
  have hr : T ++ 59 :: rT (c, a, -1, -1) = T ++ [59] ++ [c] ++ numT a := by simp [rT]
  rw [hr] at hl hq
  refine x_aload_n (pc := 0) dX7_putRow_0 rfl ?_
  refine x_bipush (pc := 1) dX7_putRow_1 (by decide) ?_
  refine x_callV1 (pc := 3) dX7_putRow_3 (k_RX7_223 _ rfl) tmv_X7_put (by assumption) rfl rfl rfl ?_
  refine x_room (d' := d) (by omega) (Nat.le_refl _) (Nat.le_refl _) (c_m_put hM0 (by omega) hP (by simp only [List.length_append, List.length_cons, List.length_nil, List.length_singleton] at hl ⊢; omega) (fun g1 F1 P1 => ?_))
  dsimp only [Option.toList, List.cons_append, List.nil_append]
  refine x_aload_n (pc := 6) dX7_putRow_6 rfl ?_
  refine x_iload_n (pc := 7) dX7_putRow_7 rfl ?_
  refine x_callV1 (pc := 8) dX7_putRow_8 (k_RX7_223 _ rfl) tmv_X7_put (by assumption) rfl rfl rfl ?_
  refine x_room (d' := d) (by omega) (Nat.le_refl _) (Nat.le_refl _) (c_m_put hM0 (by omega) P1 (by simp only [List.length_append, List.length_cons, List.length_nil, List.length_singleton] at hl ⊢; omega) (fun g2 F2 P2 => ?_))
  dsimp only [Option.toList, List.cons_append, List.nil_append]
  refine x_aload_n (pc := 11) dX7_putRow_11 rfl ?_
  refine x_iload_n (pc := 12) dX7_putRow_12 rfl ?_
  refine x_callV1 (pc := 13) dX7_putRow_13 (k_RX7_226 _ rfl) tmv_X7_putNumber (by assumption) rfl rfl rfl ?_
  refine x_room (d' := d + 1) (by omega) (Nat.le_refl _) (Nat.le_refl _) (c_m_putNumber hM0 ha P2 (by simp only [List.length_append, List.length_cons, List.length_nil, List.length_singleton] at hl ⊢; omega) (fun g3 F3 P3 => ?_))
  dsimp only [Option.toList, List.cons_append, List.nil_append]
  refine x_iload_n (pc := 16) dX7_putRow_16 rfl ?_
  refine x_iconst (pc := 17) dX7_putRow_17 ?_
  refine x_icmp_le (pc := 18) 33 dX7_putRow_18 rfl (fun c_18 => ?_) (fun c_18 => ?_)
  · (try simp (disch := omega) only [zb_e0, zb_n0, w32_id, w64_id, ne_eq, Classical.not_not] at c_18)
    refine x_iload_n (pc := 33) dX7_putRow_33 rfl ?_
    refine x_iconst (pc := 34) dX7_putRow_34 ?_
    refine x_icmp_le (pc := 35) 50 dX7_putRow_35 rfl (fun c_35 => ?_) (fun c_35 => ?_)
    · (try simp (disch := omega) only [zb_e0, zb_n0, w32_id, w64_id, ne_eq, Classical.not_not] at c_35)
      refine x_ret (pc := 50) ⟨dX7_putRow_50, rfl⟩ ?_
      exact hq g3 ((F1.t F2).t F3) P3
    · (try simp (disch := omega) only [zb_e0, zb_n0, w32_id, w64_id, ne_eq, Classical.not_not] at c_35)
      all_goals (first | omega | exact absurd trivial c_35 | exact absurd c_35 (by decide))
  · (try simp (disch := omega) only [zb_e0, zb_n0, w32_id, w64_id, ne_eq, Classical.not_not] at c_18)
    all_goals (first | omega | exact absurd trivial c_18 | exact absurd c_18 (by decide))

set_option maxHeartbeats 4000000 in
set_option maxRecDepth 100000 in
theorem c_m_putRow2 {m : Int} (hM : isMT ty m) {c a b e : Int} {T : List Int} (hc : i32 c) (ha : i10 a) (hb : i10 b) (hP : PA h m T) (hl : (T ++ 59 :: rT (c, a, b, -1)).length ≤ 2000) (hq : ∀ h', FrQ m h h' → PA h' m (T ++ 59 :: rT (c, a, b, -1)) → Q none ty sz h') : zXM D mX7_putRow (d + 2) 0 0 [rV m, iV c, iV 2, iV a, iV b, iV e] ty sz h Q := by
  have hM0 := hM
  obtain ⟨m9, m0, -⟩ := id hM
  have hr : T ++ 59 :: rT (c, a, b, -1) = T ++ [59] ++ [c] ++ numT a ++ [32] ++ numT b := by simp [rT, show ¬ b = -1 by omega]
  rw [hr] at hl hq
  refine x_aload_n (pc := 0) dX7_putRow_0 rfl ?_
  refine x_bipush (pc := 1) dX7_putRow_1 (by decide) ?_
  refine x_callV1 (pc := 3) dX7_putRow_3 (k_RX7_223 _ rfl) tmv_X7_put (by assumption) rfl rfl rfl ?_
  refine x_room (d' := d) (by omega) (Nat.le_refl _) (Nat.le_refl _) (c_m_put hM0 (by omega) hP (by simp only [List.length_append, List.length_cons, List.length_nil, List.length_singleton] at hl ⊢; omega) (fun g1 F1 P1 => ?_))
  dsimp only [Option.toList, List.cons_append, List.nil_append]
  refine x_aload_n (pc := 6) dX7_putRow_6 rfl ?_
  refine x_iload_n (pc := 7) dX7_putRow_7 rfl ?_
  refine x_callV1 (pc := 8) dX7_putRow_8 (k_RX7_223 _ rfl) tmv_X7_put (by assumption) rfl rfl rfl ?_
  refine x_room (d' := d) (by omega) (Nat.le_refl _) (Nat.le_refl _) (c_m_put hM0 (by omega) P1 (by simp only [List.length_append, List.length_cons, List.length_nil, List.length_singleton] at hl ⊢; omega) (fun g2 F2 P2 => ?_))
  dsimp only [Option.toList, List.cons_append, List.nil_append]
  refine x_aload_n (pc := 11) dX7_putRow_11 rfl ?_
  refine x_iload_n (pc := 12) dX7_putRow_12 rfl ?_
  refine x_callV1 (pc := 13) dX7_putRow_13 (k_RX7_226 _ rfl) tmv_X7_putNumber (by assumption) rfl rfl rfl ?_
  refine x_room (d' := d + 1) (by omega) (Nat.le_refl _) (Nat.le_refl _) (c_m_putNumber hM0 ha P2 (by simp only [List.length_append, List.length_cons, List.length_nil, List.length_singleton] at hl ⊢; omega) (fun g3 F3 P3 => ?_))
  dsimp only [Option.toList, List.cons_append, List.nil_append]
  refine x_iload_n (pc := 16) dX7_putRow_16 rfl ?_
  refine x_iconst (pc := 17) dX7_putRow_17 ?_
  refine x_icmp_le (pc := 18) 33 dX7_putRow_18 rfl (fun c_18 => ?_) (fun c_18 => ?_)
  · (try simp (disch := omega) only [zb_e0, zb_n0, w32_id, w64_id, ne_eq, Classical.not_not] at c_18)
    all_goals (first | omega | exact absurd trivial c_18 | exact absurd c_18 (by decide))
  · (try simp (disch := omega) only [zb_e0, zb_n0, w32_id, w64_id, ne_eq, Classical.not_not] at c_18)
    refine x_aload_n (pc := 21) dX7_putRow_21 rfl ?_
    refine x_bipush (pc := 22) dX7_putRow_22 (by decide) ?_
    refine x_callV1 (pc := 24) dX7_putRow_24 (k_RX7_223 _ rfl) tmv_X7_put (by assumption) rfl rfl rfl ?_
    refine x_room (d' := d) (by omega) (Nat.le_refl _) (Nat.le_refl _) (c_m_put hM0 (by omega) P3 (by simp only [List.length_append, List.length_cons, List.length_nil, List.length_singleton] at hl ⊢; omega) (fun g4 F4 P4 => ?_))
    dsimp only [Option.toList, List.cons_append, List.nil_append]
    refine x_aload_n (pc := 27) dX7_putRow_27 rfl ?_
    refine x_iload (pc := 28) dX7_putRow_28 rfl ?_
    refine x_callV1 (pc := 30) dX7_putRow_30 (k_RX7_226 _ rfl) tmv_X7_putNumber (by assumption) rfl rfl rfl ?_
    refine x_room (d' := d + 1) (by omega) (Nat.le_refl _) (Nat.le_refl _) (c_m_putNumber hM0 hb P4 (by simp only [List.length_append, List.length_cons, List.length_nil, List.length_singleton] at hl ⊢; omega) (fun g5 F5 P5 => ?_))
    dsimp only [Option.toList, List.cons_append, List.nil_append]
    refine x_iload_n (pc := 33) dX7_putRow_33 rfl ?_
    refine x_iconst (pc := 34) dX7_putRow_34 ?_
    refine x_icmp_le (pc := 35) 50 dX7_putRow_35 rfl (fun c_35 => ?_) (fun c_35 => ?_)
    · (try simp (disch := omega) only [zb_e0, zb_n0, w32_id, w64_id, ne_eq, Classical.not_not] at c_35)
      refine x_ret (pc := 50) ⟨dX7_putRow_50, rfl⟩ ?_
      exact hq g5 ((((F1.t F2).t F3).t F4).t F5) P5
    · (try simp (disch := omega) only [zb_e0, zb_n0, w32_id, w64_id, ne_eq, Classical.not_not] at c_35)
      all_goals (first | omega | exact absurd trivial c_35 | exact absurd c_35 (by decide))

set_option maxHeartbeats 4000000 in
set_option maxRecDepth 100000 in
theorem c_m_putRow3 {m : Int} (hM : isMT ty m) {c a b e : Int} {T : List Int} (hc : i32 c) (ha : i10 a) (hb : i10 b) (he : i10 e) (hP : PA h m T) (hl : (T ++ 59 :: rT (c, a, b, e)).length ≤ 2000) (hq : ∀ h', FrQ m h h' → PA h' m (T ++ 59 :: rT (c, a, b, e)) → Q none ty sz h') : zXM D mX7_putRow (d + 2) 0 0 [rV m, iV c, iV 3, iV a, iV b, iV e] ty sz h Q := by
  have hM0 := hM
  obtain ⟨m9, m0, -⟩ := id hM
  have hr : T ++ 59 :: rT (c, a, b, e) = T ++ [59] ++ [c] ++ numT a ++ [32] ++ numT b ++ [32] ++ numT e := by simp [rT, show ¬ b = -1 by omega, show ¬ e = -1 by omega]
  rw [hr] at hl hq
  refine x_aload_n (pc := 0) dX7_putRow_0 rfl ?_
  refine x_bipush (pc := 1) dX7_putRow_1 (by decide) ?_
  refine x_callV1 (pc := 3) dX7_putRow_3 (k_RX7_223 _ rfl) tmv_X7_put (by assumption) rfl rfl rfl ?_
  refine x_room (d' := d) (by omega) (Nat.le_refl _) (Nat.le_refl _) (c_m_put hM0 (by omega) hP (by simp only [List.length_append, List.length_cons, List.length_nil, List.length_singleton] at hl ⊢; omega) (fun g1 F1 P1 => ?_))
  dsimp only [Option.toList, List.cons_append, List.nil_append]
  refine x_aload_n (pc := 6) dX7_putRow_6 rfl ?_
  refine x_iload_n (pc := 7) dX7_putRow_7 rfl ?_
  refine x_callV1 (pc := 8) dX7_putRow_8 (k_RX7_223 _ rfl) tmv_X7_put (by assumption) rfl rfl rfl ?_
  refine x_room (d' := d) (by omega) (Nat.le_refl _) (Nat.le_refl _) (c_m_put hM0 (by omega) P1 (by simp only [List.length_append, List.length_cons, List.length_nil, List.length_singleton] at hl ⊢; omega) (fun g2 F2 P2 => ?_))
  dsimp only [Option.toList, List.cons_append, List.nil_append]
  refine x_aload_n (pc := 11) dX7_putRow_11 rfl ?_
  refine x_iload_n (pc := 12) dX7_putRow_12 rfl ?_
  refine x_callV1 (pc := 13) dX7_putRow_13 (k_RX7_226 _ rfl) tmv_X7_putNumber (by assumption) rfl rfl rfl ?_
  refine x_room (d' := d + 1) (by omega) (Nat.le_refl _) (Nat.le_refl _) (c_m_putNumber hM0 ha P2 (by simp only [List.length_append, List.length_cons, List.length_nil, List.length_singleton] at hl ⊢; omega) (fun g3 F3 P3 => ?_))
  dsimp only [Option.toList, List.cons_append, List.nil_append]
  refine x_iload_n (pc := 16) dX7_putRow_16 rfl ?_
  refine x_iconst (pc := 17) dX7_putRow_17 ?_
  refine x_icmp_le (pc := 18) 33 dX7_putRow_18 rfl (fun c_18 => ?_) (fun c_18 => ?_)
  · (try simp (disch := omega) only [zb_e0, zb_n0, w32_id, w64_id, ne_eq, Classical.not_not] at c_18)
    all_goals (first | omega | exact absurd trivial c_18 | exact absurd c_18 (by decide))
  · (try simp (disch := omega) only [zb_e0, zb_n0, w32_id, w64_id, ne_eq, Classical.not_not] at c_18)
    refine x_aload_n (pc := 21) dX7_putRow_21 rfl ?_
    refine x_bipush (pc := 22) dX7_putRow_22 (by decide) ?_
    refine x_callV1 (pc := 24) dX7_putRow_24 (k_RX7_223 _ rfl) tmv_X7_put (by assumption) rfl rfl rfl ?_
    refine x_room (d' := d) (by omega) (Nat.le_refl _) (Nat.le_refl _) (c_m_put hM0 (by omega) P3 (by simp only [List.length_append, List.length_cons, List.length_nil, List.length_singleton] at hl ⊢; omega) (fun g4 F4 P4 => ?_))
    dsimp only [Option.toList, List.cons_append, List.nil_append]
    refine x_aload_n (pc := 27) dX7_putRow_27 rfl ?_
    refine x_iload (pc := 28) dX7_putRow_28 rfl ?_
    refine x_callV1 (pc := 30) dX7_putRow_30 (k_RX7_226 _ rfl) tmv_X7_putNumber (by assumption) rfl rfl rfl ?_
    refine x_room (d' := d + 1) (by omega) (Nat.le_refl _) (Nat.le_refl _) (c_m_putNumber hM0 hb P4 (by simp only [List.length_append, List.length_cons, List.length_nil, List.length_singleton] at hl ⊢; omega) (fun g5 F5 P5 => ?_))
    dsimp only [Option.toList, List.cons_append, List.nil_append]
    refine x_iload_n (pc := 33) dX7_putRow_33 rfl ?_
    refine x_iconst (pc := 34) dX7_putRow_34 ?_
    refine x_icmp_le (pc := 35) 50 dX7_putRow_35 rfl (fun c_35 => ?_) (fun c_35 => ?_)
    · (try simp (disch := omega) only [zb_e0, zb_n0, w32_id, w64_id, ne_eq, Classical.not_not] at c_35)
      all_goals (first | omega | exact absurd trivial c_35 | exact absurd c_35 (by decide))
    · (try simp (disch := omega) only [zb_e0, zb_n0, w32_id, w64_id, ne_eq, Classical.not_not] at c_35)
      refine x_aload_n (pc := 38) dX7_putRow_38 rfl ?_
      refine x_bipush (pc := 39) dX7_putRow_39 (by decide) ?_
      refine x_callV1 (pc := 41) dX7_putRow_41 (k_RX7_223 _ rfl) tmv_X7_put (by assumption) rfl rfl rfl ?_
      refine x_room (d' := d) (by omega) (Nat.le_refl _) (Nat.le_refl _) (c_m_put hM0 (by omega) P5 (by simp only [List.length_append, List.length_cons, List.length_nil, List.length_singleton] at hl ⊢; omega) (fun g6 F6 P6 => ?_))
      dsimp only [Option.toList, List.cons_append, List.nil_append]
      refine x_aload_n (pc := 44) dX7_putRow_44 rfl ?_
      refine x_iload (pc := 45) dX7_putRow_45 rfl ?_
      refine x_callV1 (pc := 47) dX7_putRow_47 (k_RX7_226 _ rfl) tmv_X7_putNumber (by assumption) rfl rfl rfl ?_
      refine x_room (d' := d + 1) (by omega) (Nat.le_refl _) (Nat.le_refl _) (c_m_putNumber hM0 he P6 (by simp only [List.length_append, List.length_cons, List.length_nil, List.length_singleton] at hl ⊢; omega) (fun g7 F7 P7 => ?_))
      dsimp only [Option.toList, List.cons_append, List.nil_append]
      refine x_ret (pc := 50) ⟨dX7_putRow_50, rfl⟩ ?_
      exact hq g7 ((((((F1.t F2).t F3).t F4).t F5).t F6).t F7) P7

def dimOut (v n : Int) : Prop := v < 0 ∨ 1000000000000000 < v ∨ n < 0 ∨ 1000000000000000 < n
/-- what the two dimensionals answer: thrown, or a number -/
noncomputable def dimT (v n : Int) : Int := @ite _ (¬ dimOut v n ∧ n = 0) (Classical.propDecidable _) 1 0
noncomputable def dimV (v n : Int) : Int := @ite _ (dimOut v n) (Classical.propDecidable _) (-1000002) (zdu v n)

set_option maxHeartbeats 4000000 in
set_option maxRecDepth 100000 in
theorem C_m_dimensional {v n : Int} {m : Int} {S : CS} (hA : mAbs ty h m S) (hi : i64 v ∧ i64 n) (hq : ∀ h' u, FrM m h h' → mAbs ty h' m S → h' m 0 = dimT v n → (dimT v n = 0 → u = dimV v n) → Q (some (lV u)) ty sz h') : zXM D mX7_dimensional (d + 1) 0 0 [rV m, lV v, lV n] ty sz h Q := by
  have hA0 := hA
  obtain ⟨hM, hT, hE, hI, hB, hP⟩ := hA
  have hM0 := hM
  obtain ⟨m9, m0, a1, a2, a3, a4, a5, a6, a7, a8, a9, a10, a11, a12, a13, a14, a15, a16, a17, a18, a19, a20, a21⟩ := hM
  have hA1 : ∀ z, mAbs ty (zup (zup h m 0 0) m 0 z) m S := fun z => mAbs_0 (mAbs_0 hA0)
  have hA2 : mAbs ty (zup h m 0 0) m S := mAbs_0 hA0
  have hF2 : FrM m h (zup h m 0 0) := FrM.up h ⟨by omega, by omega⟩
  have hF1 : ∀ z, FrM m h (zup (zup h m 0 0) m 0 z) := fun z => hF2.t (FrM.up _ ⟨by omega, by omega⟩)
  refine x_aload_n (pc := 0) dX7_dimensional_0 rfl ?_
  refine x_iconst (pc := 1) dX7_dimensional_1 ?_
  refine y_putI 0 (pc := 2) dX7_dimensional_2 f_RX7_75 (by assumption) rfl (by rfl) (by omega) rfl ?_
  refine x_lload_n (pc := 5) dX7_dimensional_5 rfl ?_
  refine x_lconst (pc := 6) dX7_dimensional_6 0 (by decide) ?_
  refine x_ldc2 (pc := 7) dX7_dimensional_7 (1000000000000000) tc_RX7_216 (by decide) ?_
  refine x_callS3 (pc := 10) dX7_dimensional_10 (k_RX7_161 _ rfl) tms_X7_in rfl rfl ?_
  refine x_room (d' := d) (by omega) (Nat.le_refl _) (Nat.le_refl _) (c_m_in (by omega) ?_)
  dsimp only [Option.toList, List.cons_append, List.nil_append]
  refine x_if_eq (pc := 13) 27 dX7_dimensional_13 rfl (fun c_13 => ?_) (fun c_13 => ?_)
  · (try simp (disch := omega) only [zb_e0, zb_n0, w32_id, w64_id, ne_eq, Classical.not_not] at c_13)
    refine x_ldc2 (pc := 27) dX7_dimensional_27 (-1000002) tc_RX7_218 (by decide) ?_
    refine x_retv (pc := 30) ⟨dX7_dimensional_30, rfl⟩ ?_
    have ho : dimOut v n := by unfold dimOut; omega
    have hT : dimT v n = 0 := if_neg (fun z => z.1 ho)
    exact hq _ _ hF2 hA2 (by rw [hT]; simp [zup_app]) (fun _ => (if_pos ho).symm)
  · (try simp (disch := omega) only [zb_e0, zb_n0, w32_id, w64_id, ne_eq, Classical.not_not] at c_13)
    refine x_lload_n (pc := 16) dX7_dimensional_16 rfl ?_
    refine x_lconst (pc := 17) dX7_dimensional_17 0 (by decide) ?_
    refine x_ldc2 (pc := 18) dX7_dimensional_18 (1000000000000000) tc_RX7_216 (by decide) ?_
    refine x_callS3 (pc := 21) dX7_dimensional_21 (k_RX7_161 _ rfl) tms_X7_in rfl rfl ?_
    refine x_room (d' := d) (by omega) (Nat.le_refl _) (Nat.le_refl _) (c_m_in (by omega) ?_)
    dsimp only [Option.toList, List.cons_append, List.nil_append]
    refine x_if_ne (pc := 24) 31 dX7_dimensional_24 rfl (fun c_24 => ?_) (fun c_24 => ?_)
    · (try simp (disch := omega) only [zb_e0, zb_n0, w32_id, w64_id, ne_eq, Classical.not_not] at c_24)
      refine x_aload_n (pc := 31) dX7_dimensional_31 rfl ?_
      refine x_lload_n (pc := 32) dX7_dimensional_32 rfl ?_
      refine x_lconst (pc := 33) dX7_dimensional_33 0 (by decide) ?_
      refine x_lcmp_ne (pc := 34) 42 dX7_dimensional_34 dX7_dimensional_35 rfl (fun c_34 => ?_) (fun c_34 => ?_)
      · (try simp (disch := omega) only [zb_e0, zb_n0, w32_id, w64_id, ne_eq, Classical.not_not] at c_34)
        refine x_iconst (pc := 42) dX7_dimensional_42 ?_
        refine y_putI 0 (pc := 43) dX7_dimensional_43 f_RX7_75 (by assumption) rfl (by rfl) (by omega) rfl ?_
        refine x_aload_n (pc := 46) dX7_dimensional_46 rfl ?_
        refine y_getI 0 (pc := 47) dX7_dimensional_47 f_RX7_75 (by assumption) rfl (fun b_47 => ?_)
        rw [show ∀ z, zup (zup h m 0 0) m 0 z m 0 = z from fun z => by simp [zup_app]]
        refine x_if_le (pc := 50) 55 dX7_dimensional_50 rfl (fun c_50 => ?_) (fun c_50 => ?_)
        · (try simp (disch := omega) only [zb_e0, zb_n0, w32_id, w64_id, ne_eq, Classical.not_not] at c_50)
          refine x_lload_n (pc := 55) dX7_dimensional_55 rfl ?_
          refine x_lload_n (pc := 56) dX7_dimensional_56 rfl ?_
          refine x_ldiv (pc := 57) dX7_dimensional_57 (by rw [w64_id (by omega) (by omega)]; omega) ?_
          rw [w64_id (by omega) (by omega), w64_id (by omega) (by omega)]
          have hzw := zdu_w (v := v) (n := n) (by omega) (by omega)
          have hby : 0 ≤ v.tdiv n * n ∧ v.tdiv n * n ≤ v ∧ 0 ≤ v.tdiv n ∧ v.tdiv n ≤ v := by
            have e : v.tdiv n = v / n := Int.tdiv_eq_ediv_of_nonneg (by omega)
            rw [e]
            have h1 := Int.emod_add_mul_ediv v n
            have h2 := Int.emod_nonneg v (show n ≠ 0 by omega)
            have h3 : 0 ≤ v / n := Int.ediv_nonneg (by omega) (by omega)
            rw [Int.mul_comm] at h1
            have h4 : 0 ≤ v / n * n := Int.mul_nonneg h3 (by omega)
            have h5 : v / n ≤ v := Int.ediv_le_self _ (by omega)
            omega
          generalize hby9 : v.tdiv n = by9 at *
          refine x_lstore (pc := 58) dX7_dimensional_58 (by decide) ?_
          refine x_lload (pc := 60) dX7_dimensional_60 rfl ?_
          refine x_lload_n (pc := 62) dX7_dimensional_62 rfl ?_
          refine x_lmul (pc := 63) dX7_dimensional_63 ?_
          generalize hbn : by9 * n = bn at *
          refine x_lload_n (pc := 64) dX7_dimensional_64 rfl ?_
          refine x_lcmp_ge (pc := 65) 76 dX7_dimensional_65 dX7_dimensional_66 rfl (fun c_65 => ?_) (fun c_65 => ?_)
          · (try simp (disch := omega) only [zb_e0, zb_n0, w32_id, w64_id, ne_eq, Classical.not_not] at c_65)
            refine x_lload (pc := 76) dX7_dimensional_76 rfl ?_
            refine x_retv (pc := 78) ⟨dX7_dimensional_78, rfl⟩ ?_
            have ho : ¬ dimOut v n := by unfold dimOut; omega
            have hT : dimT v n = 0 := if_neg (fun z => by have := z.2; omega)
            have hV : dimV v n = zdu v n := if_neg ho
            refine hq _ _ (hF1 _) (hA1 _) (by rw [hT]; simp [zup_app]) (fun _ => ?_)
            rw [hV, hzw]
            first
            | rw [if_pos (by omega)]
            | rw [if_neg (by omega)]
          · (try simp (disch := omega) only [zb_e0, zb_n0, w32_id, w64_id, ne_eq, Classical.not_not] at c_65)
            refine x_lload (pc := 69) dX7_dimensional_69 rfl ?_
            refine x_lconst (pc := 71) dX7_dimensional_71 1 (by decide) ?_
            refine x_ladd (pc := 72) dX7_dimensional_72 ?_
            refine x_goto (pc := 73) 78 dX7_dimensional_73 rfl ?_
            refine x_retv (pc := 78) ⟨dX7_dimensional_78, rfl⟩ ?_
            have ho : ¬ dimOut v n := by unfold dimOut; omega
            have hT : dimT v n = 0 := if_neg (fun z => by have := z.2; omega)
            have hV : dimV v n = zdu v n := if_neg ho
            refine hq _ _ (hF1 _) (hA1 _) (by rw [hT]; simp [zup_app]) (fun _ => ?_)
            rw [hV, hzw]
            first
            | rw [if_pos (by omega)]
            | rw [if_neg (by omega)]
        · (try simp (disch := omega) only [zb_e0, zb_n0, w32_id, w64_id, ne_eq, Classical.not_not] at c_50)
          all_goals (first | omega | exact absurd trivial c_50 | exact absurd c_50 (by decide))
      · (try simp (disch := omega) only [zb_e0, zb_n0, w32_id, w64_id, ne_eq, Classical.not_not] at c_34)
        refine x_iconst (pc := 38) dX7_dimensional_38 ?_
        refine x_goto (pc := 39) 43 dX7_dimensional_39 rfl ?_
        refine y_putI 0 (pc := 43) dX7_dimensional_43 f_RX7_75 (by assumption) rfl (by rfl) (by omega) rfl ?_
        refine x_aload_n (pc := 46) dX7_dimensional_46 rfl ?_
        refine y_getI 0 (pc := 47) dX7_dimensional_47 f_RX7_75 (by assumption) rfl (fun b_47 => ?_)
        rw [show ∀ z, zup (zup h m 0 0) m 0 z m 0 = z from fun z => by simp [zup_app]]
        refine x_if_le (pc := 50) 55 dX7_dimensional_50 rfl (fun c_50 => ?_) (fun c_50 => ?_)
        · (try simp (disch := omega) only [zb_e0, zb_n0, w32_id, w64_id, ne_eq, Classical.not_not] at c_50)
          all_goals (first | omega | exact absurd trivial c_50 | exact absurd c_50 (by decide))
        · (try simp (disch := omega) only [zb_e0, zb_n0, w32_id, w64_id, ne_eq, Classical.not_not] at c_50)
          refine x_lconst (pc := 53) dX7_dimensional_53 0 (by decide) ?_
          refine x_retv (pc := 54) ⟨dX7_dimensional_54, rfl⟩ ?_
          have ho : ¬ dimOut v n := by unfold dimOut; omega
          have hT : dimT v n = 1 := if_pos ⟨ho, by omega⟩
          exact hq _ _ (hF1 _) (hA1 _) (by rw [hT]; simp [zup_app]) (fun z => by omega)
    · (try simp (disch := omega) only [zb_e0, zb_n0, w32_id, w64_id, ne_eq, Classical.not_not] at c_24)
      refine x_ldc2 (pc := 27) dX7_dimensional_27 (-1000002) tc_RX7_218 (by decide) ?_
      refine x_retv (pc := 30) ⟨dX7_dimensional_30, rfl⟩ ?_
      have ho : dimOut v n := by unfold dimOut; omega
      have hT : dimT v n = 0 := if_neg (fun z => z.1 ho)
      exact hq _ _ hF2 hA2 (by rw [hT]; simp [zup_app]) (fun _ => (if_pos ho).symm)

end C41
