section C7
variable {D : va_G} {d : Nat} {ty : zT} {sz : Nat} {h : zH} {Q : zQ}
def kGood (h : zH) (a : Int) : Prop := (0 ≤ h a 1 ∧ h a 1 ≤ 10) ∧ (∀ i, 0 ≤ i → i < h a 1 → 0 ≤ h (a + 2) i ∧ h (a + 2) i ≤ 9999999) ∧ (∀ z, 0 ≤ z → z < 10 → h (a + 3) z = -1 ∨ (0 ≤ h (a + 3) z ∧ h (a + 3) z ≤ 1000)) ∧ (∀ z, 0 ≤ z → z < 10 → h (a + 4) z = -1 ∨ (0 ≤ h (a + 4) z ∧ h (a + 4) z ≤ 9999999)) ∧ (h a 11 = -1 ∨ (1 ≤ h a 11 ∧ h a 11 ≤ 9999999)) ∧ (h a 14 = -1 ∨ (1 ≤ h a 14 ∧ h a 14 ≤ 1000))
def kBillP (h : zH) (a it zone day : Int) : Prop := 0 ≤ a ∧ kTakes h a it zone day ∧ kStep h a (kWeight h a it) ≠ -1
noncomputable def kBill (h : zH) (a it zone day : Int) : List PT × Int := @ite _ (kBillP h a it zone day) (Classical.propDecidable _) (kPl h a it zone (kStep h a (kWeight h a it)), sumP (kPl h a it zone (kStep h a (kWeight h a it)))) ([], -1)
theorem kBill_y {a it zone day : Int} (hp : kBillP h a it zone day) : kBill h a it zone day = (kPl h a it zone (kStep h a (kWeight h a it)), sumP (kPl h a it zone (kStep h a (kWeight h a it)))) := if_pos hp
theorem kBill_n {a it zone day : Int} (hp : ¬ kBillP h a it zone day) : kBill h a it zone day = ([], -1) := if_neg hp
theorem zfst_r {p : Int → Prop} : ∀ (n : Nat) (i : Int), 0 ≤ i → zfst p n i = -1 ∨ (i ≤ zfst p n i ∧ zfst p n i < i + n ∧ p (zfst p n i))
  | 0, i, _ => Or.inl rfl
  | n + 1, i, hi => by
    by_cases hp : p i
    · rw [zfst_y hp]
      exact Or.inr ⟨by omega, by omega, hp⟩
    · rw [zfst_n hp]
      rcases zfst_r n (i + 1) (by omega) with q | ⟨q1, q2, q3⟩
      · exact Or.inl q
      · exact Or.inr ⟨by omega, by omega, q3⟩
section KFR
variable {h' : zH} {a it : Int} (ea : ∀ q, a ≤ q → q ≤ a + 5 → h' q = h q) (ei : h' it = h it)
theorem kTakes_fr (ea : ∀ q, a ≤ q → q ≤ a + 5 → h' q = h q) (ei : h' it = h it) (zone day : Int) : kTakes h' a it zone day = kTakes h a it zone day := by
  unfold kTakes kServ hasS
  rw [ei, ea a (by omega) (by omega), ea (a + 3) (by omega) (by omega), ea (a + 4) (by omega) (by omega), ea (a + 5) (by omega) (by omega)]
theorem kWeight_fr (ea : ∀ q, a ≤ q → q ≤ a + 5 → h' q = h q) (ei : h' it = h it) : kWeight h' a it = kWeight h a it := by
  unfold kWeight
  rw [ei, ea a (by omega) (by omega)]
theorem kStep_fr (ea : ∀ q, a ≤ q → q ≤ a + 5 → h' q = h q) (wt : Int) : kStep h' a wt = kStep h a wt := by
  unfold kStep
  rw [ea a (by omega) (by omega), ea (a + 1) (by omega) (by omega)]
theorem svL_fr (ea : ∀ q, a ≤ q → q ≤ a + 5 → h' q = h q) (ei : h' it = h it) : ∀ n, svL h' a it n = svL h a it n
  | 0 => rfl
  | n + 1 => by
    have e : hasS h' it n = hasS h it n := by unfold hasS; rw [ei]
    by_cases hp : hasS h it n
    · rw [svL_y hp, svL_y (by rw [e]; exact hp), svL_fr ea ei n, ea (a + 4) (by omega) (by omega)]
    · rw [svL_n hp, svL_n (by rw [e]; exact hp), svL_fr ea ei n]
theorem kPl_fr (ea : ∀ q, a ≤ q → q ≤ a + 5 → h' q = h q) (ei : h' it = h it) (zone step : Int) : kPl h' a it zone step = kPl h a it zone step := by
  unfold kPl kPl0 kBase
  rw [svL_fr ea ei, ea a (by omega) (by omega), ea (a + 2) (by omega) (by omega), ea (a + 3) (by omega) (by omega)]
theorem kBill_fr (ea : ∀ q, a ≤ q → q ≤ a + 5 → h' q = h q) (ei : h' it = h it) (zone day : Int) : kBill h' a it zone day = kBill h a it zone day := by
  unfold kBill kBillP
  rw [kTakes_fr ea ei, kWeight_fr ea ei, kStep_fr ea, kPl_fr ea ei]
theorem kGood_fr (ea : ∀ q, a ≤ q → q ≤ a + 5 → h' q = h q) : kGood h' a = kGood h a := by
  unfold kGood
  rw [ea a (by omega) (by omega), ea (a + 2) (by omega) (by omega), ea (a + 3) (by omega) (by omega), ea (a + 4) (by omega) (by omega)]
end KFR
theorem kOKp_of {a it zone day : Int} (hg : kGood h a) (hz : 0 ≤ zone ∧ zone ≤ 9) (ht : kTakes h a it zone day) (hs : kStep h a (kWeight h a it) ≠ -1) : kOKp h a it zone (kStep h a (kWeight h a it)) := by
  obtain ⟨g1, g2, g3, g4, g5, g6⟩ := hg
  obtain ⟨t1, t2, t3, t4⟩ := ht
  have hr : 0 ≤ kStep h a (kWeight h a it) ∧ kStep h a (kWeight h a it) < h a 1 := by
    rcases zfst_r (p := fun i => kWeight h a it ≤ h (a + 1) i) (h a 1).toNat 0 (by omega) with q | ⟨q1, q2, -⟩
    · exact absurd q hs
    · unfold kStep
      omega
  refine ⟨⟨hr.1, by omega⟩, g2 _ hr.1 hr.2, ?_, fun s s0 s1 hh => ?_, g6⟩
  · rcases g3 zone (by omega) (by omega) with q | q
    · exact absurd q t3
    · exact q
  · rcases g4 s s0 s1 with q | q
    · exact absurd q (t4 s s0 s1 hh).1
    · exact q

set_option maxHeartbeats 4000000 in
set_option maxRecDepth 100000 in
theorem c_b_make {b a it zone day : Int} (hb : isBT ty b) (hKa : a = -1 ∨ isKT ty a ∧ kGood h a) (hI : isIT ty it) (hit : itOK h it) (hd1 : a + 5 < b ∨ b + 3 < a) (hd2 : it < b ∨ b + 3 < it) (hz : 0 ≤ zone ∧ zone ≤ 9) (hdy : 0 ≤ day ∧ day ≤ 9999999) (hq : ∀ h', Fr b (b + 3) h h' → BillIs h' b (kBill h a it zone day).1 (kBill h a it zone day).2 → Q none ty sz h') : zXM D mX0_make (d + 3) 0 0 [rV b, rV it, rV a, iV zone, lV day] ty sz h Q := by
  have hb0 := hb
  have hI0 := hI
  obtain ⟨b9, b0, b1, b2, b3⟩ := hb
  obtain ⟨i9, i0⟩ := hI
  have F1 : Fr b (b + 3) h (zup (zup h b 3 0) b 4 (-1)) := ((Fr.rf _ _ _).up (by omega) (by omega)).up (by omega) (by omega)
  have B1 : BillIs (zup (zup h b 3 0) b 4 (-1)) b [] (-1) := ⟨by simp [zup_app], by simp [zup_app], fun i q hi => by simp at hi⟩
  have B2 : BillIs (zup (zup (zup h b 3 0) b 4 (-1)) b 4 0) b [] 0 := ⟨by simp [zup_app], by simp [zup_app], fun i q hi => by simp at hi⟩
  have F2 : Fr b (b + 3) h (zup (zup (zup h b 3 0) b 4 (-1)) b 4 0) := F1.up (by omega) (by omega)
  have ei : (zup (zup h b 3 0) b 4 (-1)) it = h it := F1 it (by omega)
  have ei2 : (zup (zup (zup h b 3 0) b 4 (-1)) b 4 0) it = h it := F2 it (by omega)
  have hN : ¬ kBillP h a it zone day → Q none ty sz (zup (zup h b 3 0) b 4 (-1)) := by
    intro hn
    rw [kBill_n hn] at hq
    exact hq _ F1 B1
  refine x_aload_n (pc := 0) dX0_make_0 rfl ?_
  refine x_iconst (pc := 1) dX0_make_1 ?_
  refine y_putI 3 (pc := 2) dX0_make_2 f_RX0_27 (by assumption) rfl (by rfl) (by omega) rfl ?_
  refine x_aload_n (pc := 5) dX0_make_5 rfl ?_
  refine x_ldc2 (pc := 6) dX0_make_6 (-1) tc_RX0_21 (by decide) ?_
  refine y_putL 4 (pc := 9) dX0_make_9 f_RX0_23 (by assumption) rfl (by rfl) (by omega) rfl ?_
  refine x_aload_n (pc := 12) dX0_make_12 rfl ?_
  refine x_ifnull (pc := 13) 31 dX0_make_13 rfl (fun c_13 => ?_) (fun c_13 => ?_)
  · (try simp (disch := omega) only [zb_e0, zb_n0, w32_id, w64_id, ne_eq, Classical.not_not] at c_13)
    omega
  · (try simp (disch := omega) only [zb_e0, zb_n0, w32_id, w64_id, ne_eq, Classical.not_not] at c_13)
    refine x_aload_n (pc := 16) dX0_make_16 rfl ?_
    refine x_ifnull (pc := 17) 31 dX0_make_17 rfl (fun c_17 => ?_) (fun c_17 => ?_)
    · (try simp (disch := omega) only [zb_e0, zb_n0, w32_id, w64_id, ne_eq, Classical.not_not] at c_17)
      refine x_ret (pc := 31) ⟨dX0_make_31, rfl⟩ ?_
      exact hN (fun q => by have := q.1; omega)
    · (try simp (disch := omega) only [zb_e0, zb_n0, w32_id, w64_id, ne_eq, Classical.not_not] at c_17)
      have hK : isKT ty a ∧ kGood h a := by
        rcases hKa with e | e
        · omega
        · exact e
      obtain ⟨hK, hg⟩ := hK
      have hK0 := hK
      obtain ⟨k9, k0, k1, k2, k3, k4, k5⟩ := hK
      have ea : ∀ q, a ≤ q → q ≤ a + 5 → (zup (zup h b 3 0) b 4 (-1)) q = h q := fun q q1 q2 => F1 q (by omega)
      have ea2 : ∀ q, a ≤ q → q ≤ a + 5 → (zup (zup (zup h b 3 0) b 4 (-1)) b 4 0) q = h q := fun q q1 q2 => F2 q (by omega)
      have hg1 : kGood (zup (zup h b 3 0) b 4 (-1)) a := by rw [kGood_fr ea]; exact hg
      have hit1 : itOK (zup (zup h b 3 0) b 4 (-1)) it := by unfold itOK; rw [ei]; exact hit
      refine x_aload_n (pc := 20) dX0_make_20 rfl ?_
      refine x_aload_n (pc := 21) dX0_make_21 rfl ?_
      refine x_iload_n (pc := 22) dX0_make_22 rfl ?_
      refine x_lload (pc := 23) dX0_make_23 rfl ?_
      refine x_callV3 (pc := 25) dX0_make_25 (k_RX0_31 _ rfl) tmv_X3_takes (by assumption) rfl rfl rfl ?_
      refine c_k_takes hK0 hI0 hz hdy ?_
      rw [kTakes_fr ea ei]
      dsimp only [Option.toList, List.cons_append, List.nil_append]
      refine x_if_ne (pc := 28) 32 dX0_make_28 rfl (fun c_28 => ?_) (fun c_28 => ?_)
      · (try simp (disch := omega) only [zb_e0, zb_n0, w32_id, w64_id, ne_eq, Classical.not_not] at c_28)
        refine x_aload_n (pc := 32) dX0_make_32 rfl ?_
        refine x_aload_n (pc := 33) dX0_make_33 rfl ?_
        refine x_aload_n (pc := 34) dX0_make_34 rfl ?_
        refine x_callV1 (pc := 35) dX0_make_35 (k_RX0_37 _ rfl) tmv_X3_weightOf (by assumption) rfl rfl rfl ?_
        refine c_k_weightOf hK0 hI0 hit1 hg1.2.2.2.2.1 (fun bw => ?_)
        rw [kWeight_fr ea ei] at bw ⊢
        dsimp only [Option.toList, List.cons_append, List.nil_append]
        refine x_callV1 (pc := 38) dX0_make_38 (k_RX0_41 _ rfl) tmv_X3_stepFor (by assumption) rfl rfl rfl ?_
        refine c_k_stepFor hK0 hg1.1 (by omega) (fun bs => ?_)
        rw [kStep_fr ea] at bs ⊢
        dsimp only [Option.toList, List.cons_append, List.nil_append]
        refine x_istore (pc := 41) dX0_make_41 (by decide) ?_
        refine x_iload (pc := 43) dX0_make_43 rfl ?_
        refine x_iconst (pc := 45) dX0_make_45 ?_
        refine x_icmp_ne (pc := 46) 50 dX0_make_46 rfl (fun c_46 => ?_) (fun c_46 => ?_)
        · (try simp (disch := omega) only [zb_e0, zb_n0, w32_id, w64_id, ne_eq, Classical.not_not] at c_46)
          refine x_aload_n (pc := 50) dX0_make_50 rfl ?_
          refine x_lconst (pc := 51) dX0_make_51 0 (by decide) ?_
          refine y_putL 4 (pc := 52) dX0_make_52 f_RX0_23 (by assumption) rfl (by rfl) (by omega) rfl ?_
          refine x_aload_n (pc := 55) dX0_make_55 rfl ?_
          refine x_aload_n (pc := 56) dX0_make_56 rfl ?_
          refine x_aload_n (pc := 57) dX0_make_57 rfl ?_
          refine x_iload (pc := 58) dX0_make_58 rfl ?_
          refine x_iload_n (pc := 60) dX0_make_60 rfl ?_
          refine x_callV4 (pc := 61) dX0_make_61 (k_RX0_45 _ rfl) tmv_X0_addParts (by assumption) rfl rfl rfl ?_
          have hP : kBillP h a it zone day := ⟨by omega, c_28, c_46⟩
          have hko := kOKp_of hg hz c_28 c_46
          have hko2 : kOKp (zup (zup (zup h b 3 0) b 4 (-1)) b 4 0) a it zone (kStep h a (kWeight h a it)) := by
            unfold kOKp hasS at hko ⊢
            rw [ei2, ea2 a (by omega) (by omega), ea2 (a + 2) (by omega) (by omega), ea2 (a + 3) (by omega) (by omega), ea2 (a + 4) (by omega) (by omega)]
            exact hko
          refine c_b_addParts hb0 hK0 hI0 hd1 hd2 hz hko2 (fun h' hF hB => ?_) B2
          dsimp only [Option.toList, List.cons_append, List.nil_append]
          refine x_ret (pc := 64) ⟨dX0_make_64, rfl⟩ ?_
          rw [kPl_fr ea2 ei2] at hB
          rw [kBill_y hP] at hq
          exact hq h' (Fr.tr F2 hF (by omega) (by omega) (by omega) (by omega)) hB
        · (try simp (disch := omega) only [zb_e0, zb_n0, w32_id, w64_id, ne_eq, Classical.not_not] at c_46)
          refine x_ret (pc := 49) ⟨dX0_make_49, rfl⟩ ?_
          exact hN (fun q => q.2.2 c_46)
      · (try simp (disch := omega) only [zb_e0, zb_n0, w32_id, w64_id, ne_eq, Classical.not_not] at c_28)
        refine x_ret (pc := 31) ⟨dX0_make_31, rfl⟩ ?_
        exact hN (fun q => c_28 q.2.1)

end C7
