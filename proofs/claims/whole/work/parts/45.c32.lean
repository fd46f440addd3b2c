section C32
variable {D : va_G} {d : Nat} {ty : zT} {sz : Nat} {h : zH} {Q : zQ}
theorem popc_s (k n : Nat) : popc k (n + 1) = if k.testBit n = true then popc k n + 1 else popc k n := rfl
theorem zbb (b : Bool) : (if b = true then (1 : Int) else 0) = zb (b = true) := by
  by_cases h : b = true
  · rw [if_pos h, zb_t h]
  · rw [if_neg h, zb_f h]
/-- an item's row of services -/
def HasIs (h : zH) (m i : Int) (k : Nat) : Prop := ∀ s : Nat, s < 10 → h (m + 12) (10 * i + s) = if k.testBit s = true then 1 else 0
theorem HasIs.z {h : zH} {m i : Int} {k : Nat} (hH : HasIs h m i k) {z : Int} (h0 : 0 ≤ z) (h1 : z ≤ 9) : h (m + 12) (10 * i + z) = zb (k.testBit z.toNat = true) := by
  have := hH z.toNat (by omega)
  rw [show ((z.toNat : Nat) : Int) = z by omega] at this
  rw [this, zbb]

set_option maxHeartbeats 4000000 in
set_option maxRecDepth 100000 in
theorem c_m_serv52 {m : Int} (hM : isMT ty m) {i s : Int} {k : Nat} (hi : 0 ≤ i ∧ i < 100) (hH : HasIs h m i k) (hq : Q (some (iV (popc k 10))) ty sz h) : ∀ (n : Nat) (t : Nat), t ≤ 10 → 10 - t < n → zX D mX7_service d 0 0 52 [(4, iV (t : Int)), (3, iV (popc k t)), (0, rV m), (1, iV i), (2, iV s)] [] ty sz h Q := by
  intro n
  induction n with
  | zero =>
    intro t h1 hm
    exfalso
    omega
  | succ n ih =>
    intro t h1 hm
    have hM0 := hM
    obtain ⟨m9, m0, a1, a2, a3, a4, a5, a6, a7, a8, a9, a10, a11, a12, a13, a14, a15, a16, a17, a18, a19, a20, a21⟩ := hM
    have hpr := popc_rng k t
    refine x_iload (pc := 52) dX7_service_52 rfl ?_
    refine x_bipush (pc := 54) dX7_service_54 (by decide) ?_
    refine x_icmp_ge (pc := 56) 88 dX7_service_56 rfl (fun c_56 => ?_) (fun c_56 => ?_)
    · (try simp (disch := omega) only [zb_e0, zb_n0, w32_id, w64_id, ne_eq, Classical.not_not] at c_56)
      refine x_iload_n (pc := 88) dX7_service_88 rfl ?_
      refine x_retv (pc := 89) ⟨dX7_service_89, Or.inl rfl⟩ ?_
      rw [show t = 10 by omega]
      exact hq
    · (try simp (disch := omega) only [zb_e0, zb_n0, w32_id, w64_id, ne_eq, Classical.not_not] at c_56)
      refine x_aload_n (pc := 59) dX7_service_59 rfl ?_
      refine x_getF (pc := 60) dX7_service_60 f_RX7_43 (by assumption) (by rfl) ?_
      refine x_bipush (pc := 63) dX7_service_63 (by decide) ?_
      refine x_iload_n (pc := 65) dX7_service_65 rfl ?_
      refine x_imul (pc := 66) dX7_service_66 ?_
      refine x_iload (pc := 67) dX7_service_67 rfl ?_
      refine x_iadd (pc := 69) dX7_service_69 ?_
      refine x_zald (pc := 70) dX7_service_70 (by assumption) (by omega) (by omega) (fun b_70 => ?_)
      rw [hH.z (z := (t : Int)) (by omega) (by omega), Int.toNat_natCast]
      refine x_if_eq (pc := 71) 80 dX7_service_71 rfl (fun c_71 => ?_) (fun c_71 => ?_)
      · (try simp (disch := omega) only [zb_e0, zb_n0, w32_id, w64_id, ne_eq, Classical.not_not] at c_71)
        refine x_iload_n (pc := 80) dX7_service_80 rfl ?_
        refine x_istore_n (pc := 81) dX7_service_81 (by decide) ?_
        refine x_iinc (pc := 82) dX7_service_82 rfl (by decide) ?_
        refine x_goto (pc := 85) 52 dX7_service_85 rfl ?_
        first
        | (have hy : popc k (t + 1) = popc k t + 1 := by rw [popc_s, if_pos (by assumption)]
           refine x_loc [(4, iV ((t + 1 : Nat) : Int)), (3, iV (popc k (t + 1))), (0, rV m), (1, iV i), (2, iV s)] (by rw [hy]; exact ⟨rfl, rfl, rfl, rfl, rfl, trivial⟩) (ih (t + 1) (by omega) (by omega)))
        | (have hy : popc k (t + 1) = popc k t := by rw [popc_s, if_neg (by assumption)]
           refine x_loc [(4, iV ((t + 1 : Nat) : Int)), (3, iV (popc k (t + 1))), (0, rV m), (1, iV i), (2, iV s)] (by rw [hy]; exact ⟨rfl, rfl, rfl, rfl, rfl, trivial⟩) (ih (t + 1) (by omega) (by omega)))
      · (try simp (disch := omega) only [zb_e0, zb_n0, w32_id, w64_id, ne_eq, Classical.not_not] at c_71)
        refine x_iload_n (pc := 74) dX7_service_74 rfl ?_
        refine x_iconst (pc := 75) dX7_service_75 ?_
        refine x_iadd (pc := 76) dX7_service_76 ?_
        refine x_goto (pc := 77) 81 dX7_service_77 rfl ?_
        refine x_istore_n (pc := 81) dX7_service_81 (by decide) ?_
        refine x_iinc (pc := 82) dX7_service_82 rfl (by decide) ?_
        refine x_goto (pc := 85) 52 dX7_service_85 rfl ?_
        first
        | (have hy : popc k (t + 1) = popc k t + 1 := by rw [popc_s, if_pos (by assumption)]
           refine x_loc [(4, iV ((t + 1 : Nat) : Int)), (3, iV (popc k (t + 1))), (0, rV m), (1, iV i), (2, iV s)] (by rw [hy]; exact ⟨rfl, rfl, rfl, rfl, rfl, trivial⟩) (ih (t + 1) (by omega) (by omega)))
        | (have hy : popc k (t + 1) = popc k t := by rw [popc_s, if_neg (by assumption)]
           refine x_loc [(4, iV ((t + 1 : Nat) : Int)), (3, iV (popc k (t + 1))), (0, rV m), (1, iV i), (2, iV s)] (by rw [hy]; exact ⟨rfl, rfl, rfl, rfl, rfl, trivial⟩) (ih (t + 1) (by omega) (by omega)))

set_option maxHeartbeats 4000000 in
set_option maxRecDepth 100000 in
theorem C_m_service {i s : Int} {m : Int} {S : CS} (hA : mAbs ty h m S) (hi : i32 i ∧ i32 s) (hq : ∀ h', FrM m h h' → mAbs ty h' m ((S_service S i s).1) → Q (some (iV (S_service S i s).2)) ty sz h') : zXM D mX7_service (d + 1) 0 0 [rV m, iV i, iV s] ty sz h Q := by
  have hA0 := hA
  obtain ⟨hM, hT, hE, hI, hB, hP⟩ := hA
  have hM0 := hM
  obtain ⟨m9, m0, a1, a2, a3, a4, a5, a6, a7, a8, a9, a10, a11, a12, a13, a14, a15, a16, a17, a18, a19, a20, a21⟩ := hM
  have hE1 := hE.1
  have hE2 := hE.2.1
  have hI1 := hI.1
  have hI2 := hI.2.1
  have hB1 := hB.1
  have hB2 := hB.2.1
  have hP1 := hP.1
  have hP2 := hP.2.1
  have z10 : zup h m 0 0 m 10 = (cE S).length := by rw [zup_app, if_neg (by omega)]; exact hE1
  have z12 : zup h m 0 0 m 12 = (cI S).length := by rw [zup_app, if_neg (by omega)]; exact hI1
  have z19 : zup h m 0 0 m 19 = (cB S).length := by rw [zup_app, if_neg (by omega)]; exact hB1
  have z23 : zup h m 0 0 m 23 = (cP S).length := by rw [zup_app, if_neg (by omega)]; exact hP1
  have hA1 : mAbs ty (zup h m 0 0) m S := mAbs_0 hA0
  have hF1 : FrM m h (zup h m 0 0) := FrM.up h ⟨by omega, by omega⟩
  refine x_aload_n (pc := 0) dX7_service_0 rfl ?_
  refine x_iconst (pc := 1) dX7_service_1 ?_
  refine y_putI 0 (pc := 2) dX7_service_2 f_RX7_75 (by assumption) rfl (by rfl) (by omega) rfl ?_
  refine x_iload_n (pc := 5) dX7_service_5 rfl ?_
  refine x_if_lt (pc := 6) 17 dX7_service_6 rfl (fun c_6 => ?_) (fun c_6 => ?_)
  · (try simp (disch := omega) only [zb_e0, zb_n0, w32_id, w64_id, ne_eq, Classical.not_not] at c_6)
    refine x_ldc (pc := 17) dX7_service_17 (-1000001) tc_RX7_171 (by decide) ?_
    refine x_retv (pc := 19) ⟨dX7_service_19, Or.inl rfl⟩ ?_
    rw [S_service_none (S_it_none (by omega))] at hq
    exact hq _ hF1 hA1
  · (try simp (disch := omega) only [zb_e0, zb_n0, w32_id, w64_id, ne_eq, Classical.not_not] at c_6)
    refine x_iload_n (pc := 9) dX7_service_9 rfl ?_
    refine x_aload_n (pc := 10) dX7_service_10 rfl ?_
    refine y_getI 12 (pc := 11) dX7_service_11 f_RX7_168 (by assumption) rfl (fun b_11 => ?_)
    rw [z12]
    refine x_icmp_lt (pc := 14) 20 dX7_service_14 rfl (fun c_14 => ?_) (fun c_14 => ?_)
    · (try simp (disch := omega) only [zb_e0, zb_n0, w32_id, w64_id, ne_eq, Classical.not_not] at c_14)
      refine x_iload_n (pc := 20) dX7_service_20 rfl ?_
      refine x_i2l (pc := 21) dX7_service_21 ?_
      rw [w32_id (by omega) (by omega)]
      refine x_lconst (pc := 22) dX7_service_22 0 (by decide) ?_
      refine x_ldc2 (pc := 23) dX7_service_23 (9) tc_RX7_159 (by decide) ?_
      refine x_callS3 (pc := 26) dX7_service_26 (k_RX7_161 _ rfl) tms_X7_in rfl rfl ?_
      refine x_room (d' := d) (by omega) (Nat.le_refl _) (Nat.le_refl _) (c_m_in (by omega) ?_)
      dsimp only [Option.toList, List.cons_append, List.nil_append]
      refine x_if_ne (pc := 29) 35 dX7_service_29 rfl (fun c_29 => ?_) (fun c_29 => ?_)
      · (try simp (disch := omega) only [zb_e0, zb_n0, w32_id, w64_id, ne_eq, Classical.not_not] at c_29)
        refine x_aload_n (pc := 35) dX7_service_35 rfl ?_
        refine x_getF (pc := 36) dX7_service_36 f_RX7_43 (by assumption) (by rfl) ?_
        refine x_bipush (pc := 39) dX7_service_39 (by decide) ?_
        refine x_iload_n (pc := 41) dX7_service_41 rfl ?_
        refine x_imul (pc := 42) dX7_service_42 ?_
        refine x_iload_n (pc := 43) dX7_service_43 rfl ?_
        refine x_iadd (pc := 44) dX7_service_44 ?_
        refine x_iconst (pc := 45) dX7_service_45 ?_
        refine x_zast (pc := 46) dX7_service_46 (by assumption) (by omega) (by omega) (by decide) (by rfl) ?_
        refine x_iconst (pc := 47) dX7_service_47 ?_
        refine x_istore_n (pc := 48) dX7_service_48 (by decide) ?_
        refine x_iconst (pc := 49) dX7_service_49 ?_
        refine x_istore (pc := 50) dX7_service_50 (by decide) ?_
        obtain ⟨it, h1⟩ := S_it_ex (S := S) (i := i) (by omega) (by omega)
        rw [S_service_in h1 (by omega)] at hq
        obtain ⟨i0, hig⟩ := S_it_some h1
        obtain ⟨v1, v2, v3⟩ := hI.2.2.1 _ _ hig
        rw [show ((i.toNat : Nat) : Int) = i by omega] at v1 v3
        have hH : HasIs (zup (zup h m 0 0) (m + 12) (10 * i + s) 1) m i (it.2.2.2.2.2 ||| 2 ^ s.toNat) := by
          intro t ht
          rw [zup_app, Nat.testBit_or, Nat.testBit_two_pow]
          by_cases e : (t : Int) = s
          · rw [if_pos ⟨rfl, by omega⟩]
            simp [show s.toNat = t by omega]
          · rw [if_neg (by omega), zup_ne (by omega), v3 t ht]
            simp [show ¬ s.toNat = t by omega]
        refine x_room (d' := d) (by omega) (Nat.le_refl _) (Nat.le_refl _) (x_loc _ (by exact ⟨rfl, rfl, rfl, rfl, rfl, trivial⟩) (c_m_serv52 (k := it.2.2.2.2.2 ||| 2 ^ s.toNat) hM0 (by omega) hH ?_ 11 0 (by omega) (by omega)))
        obtain ⟨-, hT9, hE9, hI9, hB9, hP9⟩ := hA1
        have ee : ∀ q, q ≠ m + 12 → zup (zup h m 0 0) (m + 12) (10 * i + s) 1 q = zup h m 0 0 q := fun q q1 => zup_ne q1
        refine hq _ (hF1.t (FrM.up _ ⟨by omega, by omega⟩)) ⟨hM0, ⟨hT9.1.fr (by rw [ee m (by omega)]) (ee _ (by omega)), hT9.2⟩, (show mE _ m (cE S) from hE9.fr (by rw [ee m (by omega)]) (fun q k a1 a2 _ => by rw [ee q (by omega)]) (fun k _ => by rw [ee _ (by omega)])), ⟨?_, ?_, fun j it2 hj => ?_, fun k k0 k1 => ?_⟩, (show mB _ m (cB S) from hB9.fr (by rw [ee m (by omega)]) (fun q a1 a2 => ee q (by omega))), (show mP _ m (cP S) from hP9.fr (by rw [ee m (by omega)]) (ee _ (by omega)))⟩
        · show _ = (((cI S).set i.toNat (itSrv it s)).length : Int)
          rw [List.length_set, ee m (by omega)]
          exact hI9.1
        · show ((cI S).set i.toNat (itSrv it s)).length ≤ 100
          rw [List.length_set]
          exact hI2
        · replace hj : ((cI S).set i.toNat (itSrv it s))[j]? = some it2 := hj
          rw [List.getElem?_set] at hj
          rw [ee (m + 7) (by omega), ee (m + 8) (by omega), ee (m + 9) (by omega), ee (m + 10) (by omega), ee (m + 11) (by omega)]
          by_cases hji : i.toNat = j
          · rw [if_pos hji, if_pos (by omega)] at hj
            cases hj
            have eij : (j : Int) = i := by omega
            rw [eij, zup_ne (show m + 7 ≠ m by omega), zup_ne (show m + 8 ≠ m by omega), zup_ne (show m + 9 ≠ m by omega), zup_ne (show m + 10 ≠ m by omega), zup_ne (show m + 11 ≠ m by omega)]
            exact ⟨v1, ⟨v2.1, v2.2.1, v2.2.2.1, v2.2.2.2.1, v2.2.2.2.2.1, Nat.or_lt_two_pow (n := 10) v2.2.2.2.2.2 (pow10 (by omega) (by omega))⟩, hH⟩
          · rw [if_neg hji] at hj
            obtain ⟨q1, q2, q3⟩ := hI9.2.2.1 j it2 hj
            refine ⟨q1, q2, fun t ht => ?_⟩
            rw [zup_app, if_neg (by omega)]
            exact q3 t ht
        · replace k0 : 10 * ((((cI S).set i.toNat (itSrv it s)).length : Nat) : Int) ≤ k := k0
          rw [List.length_set] at k0
          rw [zup_app, if_neg (by omega)]
          exact hI9.2.2.2 k k0 k1
      · (try simp (disch := omega) only [zb_e0, zb_n0, w32_id, w64_id, ne_eq, Classical.not_not] at c_29)
        refine x_ldc (pc := 32) dX7_service_32 (-1000002) tc_RX7_167 (by decide) ?_
        refine x_retv (pc := 34) ⟨dX7_service_34, Or.inl rfl⟩ ?_
        obtain ⟨it, h1⟩ := S_it_ex (S := S) (i := i) (by omega) (by omega)
        rw [S_service_out h1 (by omega)] at hq
        exact hq _ hF1 hA1
    · (try simp (disch := omega) only [zb_e0, zb_n0, w32_id, w64_id, ne_eq, Classical.not_not] at c_14)
      refine x_ldc (pc := 17) dX7_service_17 (-1000001) tc_RX7_171 (by decide) ?_
      refine x_retv (pc := 19) ⟨dX7_service_19, Or.inl rfl⟩ ?_
      rw [S_service_none (S_it_none (by omega))] at hq
      exact hq _ hF1 hA1

/-- the parts so far -/
theorem c_m_partAux : True := trivial

set_option maxHeartbeats 4000000 in
set_option maxRecDepth 100000 in
theorem c_m_part {m : Int} (hM : isMT ty m) {a u z : Int} {B : List PT} (hi : i32 a ∧ i64 u ∧ i32 z) (hB : mB h m B) (hn : B.length < 13) (hq : ∀ h', (∀ q, q ≠ m → (q < m + 13 ∨ m + 15 < q) → h' q = h q) → (∀ k, k ≠ 19 → h' m k = h m k) → mB h' m (B ++ [(a, u, z)]) → Q none ty sz h') : zXM D mX7_part d 0 0 [rV m, iV a, lV u, iV z] ty sz h Q := by
  have hM0 := hM
  obtain ⟨m9, m0, a1, a2, a3, a4, a5, a6, a7, a8, a9, a10, a11, a12, a13, a14, a15, a16, a17, a18, a19, a20, a21⟩ := hM
  have hB1 := hB.1
  refine x_aload_n (pc := 0) dX7_part_0 rfl ?_
  refine x_getF (pc := 1) dX7_part_1 f_RX7_47 (by assumption) (by rfl) ?_
  refine x_aload_n (pc := 4) dX7_part_4 rfl ?_
  refine y_getI 19 (pc := 5) dX7_part_5 f_RX7_172 (by assumption) rfl (fun b_5 => ?_)
  rw [hB1]
  refine x_iload_n (pc := 8) dX7_part_8 rfl ?_
  refine x_iast (pc := 9) dX7_part_9 (by assumption) (by omega) (by omega) (by rfl) (by omega) ?_
  refine x_aload_n (pc := 10) dX7_part_10 rfl ?_
  refine x_getF (pc := 11) dX7_part_11 f_RX7_50 (by assumption) (by rfl) ?_
  refine x_aload_n (pc := 14) dX7_part_14 rfl ?_
  refine y_getI 19 (pc := 15) dX7_part_15 f_RX7_172 (by assumption) rfl (fun b_15 => ?_)
  rw [show zup h (m + 13) (B.length : Int) a m 19 = B.length by rw [zup_ne (by omega)]; exact hB1]
  refine x_lload_n (pc := 18) dX7_part_18 rfl ?_
  refine x_last (pc := 19) dX7_part_19 (by assumption) (by omega) (by omega) (by rfl) (by omega) ?_
  refine x_aload_n (pc := 20) dX7_part_20 rfl ?_
  refine x_getF (pc := 21) dX7_part_21 f_RX7_54 (by assumption) (by rfl) ?_
  refine x_aload_n (pc := 24) dX7_part_24 rfl ?_
  refine y_getI 19 (pc := 25) dX7_part_25 f_RX7_172 (by assumption) rfl (fun b_25 => ?_)
  rw [show zup (zup h (m + 13) (B.length : Int) a) (m + 14) B.length u m 19 = B.length by rw [zup_ne (by omega), zup_ne (by omega)]; exact hB1]
  refine x_iload (pc := 28) dX7_part_28 rfl ?_
  refine x_iast (pc := 30) dX7_part_30 (by assumption) (by omega) (by omega) (by rfl) (by omega) ?_
  refine x_aload_n (pc := 31) dX7_part_31 rfl ?_
  refine x_dup (pc := 32) dX7_part_32 rfl ?_
  refine y_getI 19 (pc := 33) dX7_part_33 f_RX7_172 (by assumption) rfl (fun b_33 => ?_)
  rw [show zup (zup (zup h (m + 13) (B.length : Int) a) (m + 14) B.length u) (m + 15) B.length z m 19 = B.length by rw [zup_ne (by omega), zup_ne (by omega), zup_ne (by omega)]; exact hB1]
  refine x_iconst (pc := 36) dX7_part_36 ?_
  refine x_iadd (pc := 37) dX7_part_37 ?_
  refine y_putI 19 (pc := 38) dX7_part_38 f_RX7_172 (by assumption) rfl (by rfl) (by omega) rfl ?_
  refine x_ret (pc := 41) ⟨dX7_part_41, rfl⟩ ?_
  refine hq _ (fun q q1 q2 => by rw [zup_ne q1, zup_ne (by omega), zup_ne (by omega), zup_ne (by omega)]) (fun k hk => by rw [zup_app, if_neg (by omega), zup_ne (by omega), zup_ne (by omega), zup_ne (by omega)]) ⟨?_, by simp; omega, fun j q hj => ?_⟩
  · rw [zup_app, if_pos ⟨rfl, rfl⟩]; simp
  · by_cases hjl : j < B.length
    · rw [List.getElem?_append_left hjl] at hj
      have := hB.2.2 j q hj
      have ne : ¬ (j : Int) = B.length := by omega
      simp only [zup_app, zo1, ne, and_false, if_false, show ¬ (m + 13 = m) by omega, show ¬ (m + 14 = m) by omega, show ¬ (m + 15 = m) by omega, false_and]
      exact this
    · rw [List.getElem?_append_right (by omega)] at hj
      have h0 : j - B.length = 0 := by
        have := (List.getElem?_eq_some_iff.mp hj).1
        simp at this
        omega
      rw [h0] at hj
      cases hj
      have ej : j = B.length := by omega
      subst ej
      simp [zup_app, zo1, show ¬ (m + 13 = m) by omega, show ¬ (m + 14 = m) by omega, show ¬ (m + 15 = m) by omega]

end C32
