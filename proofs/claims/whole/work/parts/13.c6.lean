section C6
variable {D : va_G} {d : Nat} {ty : zT} {sz : Nat} {h : zH} {Q : zQ}
noncomputable def svL (h : zH) (a it : Int) : Nat → List PT
  | 0 => []
  | n + 1 => svL h a it n ++ @ite _ (hasS h it n) (Classical.propDecidable _) [(2, h (a + 4) n, (n : Int))] []
def kBase (h : zH) (a zone step : Int) : List PT := [(0, h (a + 2) step, step), (1, (h (a + 2) step * h (a + 3) zone).tdiv 100, zone)]
def sumP (pl : List PT) : Int := (pl.map (fun q => q.2.1)).sum
theorem sumP_app (l m : List PT) : sumP (l ++ m) = sumP l + sumP m := by
  unfold sumP
  rw [List.map_append, List.sum_append]
theorem sumP_1 (a b c : Int) : sumP [(a, b, c)] = b := by simp [sumP]
noncomputable def kPl0 (h : zH) (a it zone step : Int) : List PT := kBase h a zone step ++ svL h a it 10
noncomputable def kPl (h : zH) (a it zone step : Int) : List PT := if 0 < h a 14 then kPl0 h a it zone step ++ [(3, zdu (sumP (kPl0 h a it zone step)) (h a 14) * h a 14 - sumP (kPl0 h a it zone step), h a 14)] else kPl0 h a it zone step
def kOKp (h : zH) (a it zone step : Int) : Prop := (0 ≤ step ∧ step < 10) ∧ (0 ≤ h (a + 2) step ∧ h (a + 2) step ≤ 9999999) ∧ (0 ≤ h (a + 3) zone ∧ h (a + 3) zone ≤ 1000) ∧ (∀ s, 0 ≤ s → s < 10 → hasS h it s → 0 ≤ h (a + 4) s ∧ h (a + 4) s ≤ 9999999) ∧ (h a 14 = -1 ∨ (1 ≤ h a 14 ∧ h a 14 ≤ 1000))
theorem zpct {c p : Int} (hc : 0 ≤ c ∧ c ≤ 9999999) (hp : 0 ≤ p ∧ p ≤ 1000) : (0 ≤ c * p ∧ c * p ≤ 9999999000) ∧ 0 ≤ (c * p).tdiv 100 ∧ (c * p).tdiv 100 ≤ 99999990 := by
  have h1 : 0 * 0 ≤ c * p := Int.mul_le_mul hc.1 hp.1 (by omega) (by omega)
  have h2 : c * p ≤ 9999999 * 1000 := Int.mul_le_mul hc.2 hp.2 (by omega) (by omega)
  rw [Int.tdiv_eq_ediv_of_nonneg (by omega)]
  omega
theorem svL_y {a it : Int} {n : Nat} (hp : hasS h it n) : svL h a it (n + 1) = svL h a it n ++ [(2, h (a + 4) n, (n : Int))] := by
  show svL h a it n ++ @ite _ (hasS h it n) (Classical.propDecidable _) _ _ = _
  rw [if_pos hp]
theorem svL_n {a it : Int} {n : Nat} (hp : ¬ hasS h it n) : svL h a it (n + 1) = svL h a it n := by
  show svL h a it n ++ @ite _ (hasS h it n) (Classical.propDecidable _) _ _ = _
  rw [if_neg hp, List.append_nil]
theorem kPart_b {a it zone step : Int} (hk : kOKp h a it zone step) : ∀ n : Nat, n ≤ 10 → (kBase h a zone step ++ svL h a it n).length ≤ 2 + n ∧ 0 ≤ sumP (kBase h a zone step ++ svL h a it n) ∧ sumP (kBase h a zone step ++ svL h a it n) ≤ 110000000 + 10000000 * n
  | 0, _ => by
    obtain ⟨-, h1, h2, -⟩ := hk
    have := zpct h1 h2
    refine ⟨by simp [kBase, svL], ?_⟩
    simp only [svL, List.append_nil, kBase, sumP, List.map_cons, List.map_nil, List.sum_cons, List.sum_nil]
    omega
  | n + 1, hn => by
    obtain ⟨i1, i2, i3⟩ := kPart_b hk n (by omega)
    by_cases hp : hasS h it n
    · rw [svL_y hp, ← List.append_assoc, sumP_app, sumP_1, List.length_append, List.length_singleton]
      have := hk.2.2.2.1 n (by omega) (by omega) hp
      refine ⟨by omega, by omega, by omega⟩
    · rw [svL_n hp]
      refine ⟨by omega, i2, by omega⟩
theorem zdu_up {t n : Int} (ht : 0 ≤ t) (hn : 1 ≤ n) : 0 ≤ zdu t n * n - t ∧ zdu t n * n - t < n := by
  unfold zdu
  rw [if_pos (by omega), Int.tdiv_eq_ediv_of_nonneg (by omega)]
  have h1 := Int.emod_add_mul_ediv (t + n - 1) n
  have h2 := Int.emod_nonneg (t + n - 1) (show n ≠ 0 by omega)
  have h3 := Int.emod_lt_of_pos (t + n - 1) (show 0 < n by omega)
  rw [Int.mul_comm] at h1
  omega

set_option maxHeartbeats 4000000 in
set_option maxRecDepth 100000 in
theorem c_b_aP85 {b a it zone step : Int} (hb : isBT ty b) (hK : isKT ty a) (hI : isIT ty it) (hd1 : a + 5 < b ∨ b + 3 < a) (hd2 : it < b ∨ b + 3 < it) (hz : 0 ≤ zone ∧ zone ≤ 9) (hk : kOKp h a it zone step) (hq : ∀ h', Fr b (b + 3) h h' → BillIs h' b (kPl h a it zone step) (sumP (kPl h a it zone step)) → Q none ty sz h') {g : zH} (hF : Fr b (b + 3) h g) (hB : BillIs g b (kPl0 h a it zone step) (sumP (kPl0 h a it zone step))) : zX D mX0_addParts (d + 2) 0 0 85 [(0, rV b), (1, rV it), (2, rV a), (3, iV step), (4, iV zone)] [] ty sz g Q := by
  have hb0 := hb
  have hK0 := hK
  have hI0 := hI
  obtain ⟨b9, b0, b1, b2, b3⟩ := hb
  obtain ⟨k9, k0, k1, k2, k3, k4, k5⟩ := hK
  obtain ⟨i9, i0⟩ := hI
  obtain ⟨kk1, kk2, kk3, kk4, kk5⟩ := id hk
  have ea : ∀ q, a ≤ q → q ≤ a + 5 → g q = h q := fun q q1 q2 => hF q (by omega)
  have ei : g it = h it := hF it (by omega)
  have hp := kPart_b hk 10 (by omega)
  have hp0 : kPl0 h a it zone step = kBase h a zone step ++ svL h a it 10 := rfl
  rw [← hp0] at hp
  have e14 : g a 14 = h a 14 := by rw [ea a (by omega) (by omega)]
  have e4 : g b 4 = sumP (kPl0 h a it zone step) := hB.2.1
  refine x_aload_n (pc := 85) dX0_addParts_85 rfl ?_
  refine y_getI 14 (pc := 86) dX0_addParts_86 f_RX0_74 (by assumption) rfl (fun b_86 => ?_)
  refine x_if_le (pc := 89) 124 dX0_addParts_89 rfl (fun c_89 => ?_) (fun c_89 => ?_)
  · (try simp (disch := omega) only [zb_e0, zb_n0, w32_id, w64_id, ne_eq, Classical.not_not] at c_89)
    refine x_ret (pc := 124) ⟨dX0_addParts_124, rfl⟩ ?_
    first
      | (have eP : kPl h a it zone step = kPl0 h a it zone step := if_neg (by omega)
         rw [eP] at hq
         exact hq g hF hB)
      | (refine hq h' (Fr.tr hF hF2 (by omega) (by omega) (by omega) (by omega)) ?_
         rw [eP, sumP_app, sumP_1]
         exact hB2)
  · (try simp (disch := omega) only [zb_e0, zb_n0, w32_id, w64_id, ne_eq, Classical.not_not] at c_89)
    refine x_aload_n (pc := 92) dX0_addParts_92 rfl ?_
    refine x_iconst (pc := 93) dX0_addParts_93 ?_
    refine x_aload_n (pc := 94) dX0_addParts_94 rfl ?_
    refine y_getL 4 (pc := 95) dX0_addParts_95 f_RX0_23 (by assumption) rfl (fun b_95 => ?_)
    rw [e4]
    refine x_aload_n (pc := 98) dX0_addParts_98 rfl ?_
    refine y_getI 14 (pc := 99) dX0_addParts_99 f_RX0_74 (by assumption) rfl (fun b_99 => ?_)
    rw [e14]
    refine x_i2l (pc := 102) dX0_addParts_102 ?_
    rw [w32_id (by omega) (by omega)]
    refine x_callS2 (pc := 103) dX0_addParts_103 (k_RX0_77 _ rfl) tms_X6_dividedUp rfl rfl ?_
    refine c_dividedUp (by omega) (by omega) (by omega) (by omega) ?_
    dsimp only [Option.toList, List.cons_append, List.nil_append]
    refine x_aload_n (pc := 106) dX0_addParts_106 rfl ?_
    refine y_getI 14 (pc := 107) dX0_addParts_107 f_RX0_74 (by assumption) rfl (fun b_107 => ?_)
    rw [e14]
    refine x_i2l (pc := 110) dX0_addParts_110 ?_
    rw [w32_id (by omega) (by omega)]
    refine x_lmul (pc := 111) dX0_addParts_111 ?_
    refine x_aload_n (pc := 112) dX0_addParts_112 rfl ?_
    refine y_getL 4 (pc := 113) dX0_addParts_113 f_RX0_23 (by assumption) rfl (fun b_113 => ?_)
    rw [e4]
    refine x_lsub (pc := 116) dX0_addParts_116 ?_
    refine x_aload_n (pc := 117) dX0_addParts_117 rfl ?_
    refine y_getI 14 (pc := 118) dX0_addParts_118 f_RX0_74 (by assumption) rfl (fun b_118 => ?_)
    rw [e14]
    refine x_callV3 (pc := 121) dX0_addParts_121 (k_RX0_56 _ rfl) tmv_X0_add (by assumption) rfl rfl rfl ?_
    have hu := zdu_up (t := sumP (kPl0 h a it zone step)) (n := h a 14) (by omega) (by omega)
    refine c_b_add hb0 ⟨by omega, by omega, by omega⟩ hB (by omega) ⟨by omega, by omega⟩ (fun h' hF2 hB2 => ?_)
    have eP : kPl h a it zone step = kPl0 h a it zone step ++ [(3, zdu (sumP (kPl0 h a it zone step)) (h a 14) * h a 14 - sumP (kPl0 h a it zone step), h a 14)] := if_pos (by omega)
    dsimp only [Option.toList, List.cons_append, List.nil_append]
    refine x_ret (pc := 124) ⟨dX0_addParts_124, rfl⟩ ?_
    first
      | (have eP : kPl h a it zone step = kPl0 h a it zone step := if_neg (by omega)
         rw [eP] at hq
         exact hq g hF hB)
      | (refine hq h' (Fr.tr hF hF2 (by omega) (by omega) (by omega) (by omega)) ?_
         rw [eP, sumP_app, sumP_1]
         exact hB2)

set_option maxHeartbeats 4000000 in
set_option maxRecDepth 100000 in
theorem c_b_aP46 {b a it zone step : Int} (hb : isBT ty b) (hK : isKT ty a) (hI : isIT ty it) (hd1 : a + 5 < b ∨ b + 3 < a) (hd2 : it < b ∨ b + 3 < it) (hz : 0 ≤ zone ∧ zone ≤ 9) (hk : kOKp h a it zone step) (hq : ∀ h', Fr b (b + 3) h h' → BillIs h' b (kPl h a it zone step) (sumP (kPl h a it zone step)) → Q none ty sz h') : ∀ (n : Nat) (s : Nat) (g : zH), s ≤ 10 → Fr b (b + 3) h g → BillIs g b (kBase h a zone step ++ svL h a it s) (sumP (kBase h a zone step ++ svL h a it s)) → 10 - s < n → zX D mX0_addParts (d + 2) 0 0 46 [(7, iV (s : Int)), (0, rV b), (1, rV it), (2, rV a), (3, iV step), (4, iV zone)] [] ty sz g Q := by
  intro n
  induction n with
  | zero =>
    intro s g h1 hF hB hm
    exfalso
    omega
  | succ n ih =>
    intro s g h1 hF hB hm
    have hb0 := hb
    have hK0 := hK
    have hI0 := hI
    obtain ⟨b9, b0, b1, b2, b3⟩ := hb
    obtain ⟨k9, k0, k1, k2, k3, k4, k5⟩ := hK
    obtain ⟨i9, i0⟩ := hI
    obtain ⟨kk1, kk2, kk3, kk4, kk5⟩ := id hk
    have ea : ∀ q, a ≤ q → q ≤ a + 5 → g q = h q := fun q q1 q2 => hF q (by omega)
    have ei : g it = h it := hF it (by omega)
    have hp := kPart_b hk s (by omega)
    refine x_iload (pc := 46) dX0_addParts_46 rfl ?_
    refine x_bipush (pc := 48) dX0_addParts_48 (by decide) ?_
    refine x_icmp_ge (pc := 50) 85 dX0_addParts_50 rfl (fun c_50 => ?_) (fun c_50 => ?_)
    · (try simp (disch := omega) only [zb_e0, zb_n0, w32_id, w64_id, ne_eq, Classical.not_not] at c_50)
      have es : s = 10 := by omega
      subst es
      exact x_loc _ (by exact ⟨rfl, rfl, rfl, rfl, rfl, trivial⟩) (c_b_aP85 hb0 hK0 hI0 hd1 hd2 hz hk hq hF hB)
    · (try simp (disch := omega) only [zb_e0, zb_n0, w32_id, w64_id, ne_eq, Classical.not_not] at c_50)
      refine x_aload_n (pc := 53) dX0_addParts_53 rfl ?_
      refine x_iload (pc := 54) dX0_addParts_54 rfl ?_
      refine x_callV1 (pc := 56) dX0_addParts_56 (k_RX0_65 _ rfl) tmv_X2_has (by assumption) rfl rfl rfl ?_
      refine c_has hI0 (by omega) ?_
      dsimp only [Option.toList, List.cons_append, List.nil_append]
      refine x_if_eq (pc := 59) 79 dX0_addParts_59 rfl (fun c_59 => ?_) (fun c_59 => ?_)
      · (try simp (disch := omega) only [zb_e0, zb_n0, w32_id, w64_id, ne_eq, Classical.not_not] at c_59)
        refine x_iinc (pc := 79) dX0_addParts_79 rfl (by decide) ?_
        refine x_goto (pc := 82) 46 dX0_addParts_82 rfl ?_
        first
          | (have hs : ¬ hasS h it s := by unfold hasS at c_59 ⊢; rw [ei] at c_59; exact c_59
             refine x_loc _ (by exact ⟨rfl, rfl, rfl, rfl, rfl, rfl, trivial⟩) (ih (s + 1) g (by omega) hF (by rw [svL_n hs]; exact hB) (by omega)))
          | (refine x_loc _ (by exact ⟨rfl, rfl, rfl, rfl, rfl, rfl, trivial⟩) (ih (s + 1) h2 (by omega) (Fr.tr hF hF2 (by omega) (by omega) (by omega) (by omega)) (by rw [svL_y hs, ← List.append_assoc, sumP_app, sumP_1]; exact hB2) (by omega)))
      · (try simp (disch := omega) only [zb_e0, zb_n0, w32_id, w64_id, ne_eq, Classical.not_not] at c_59)
        refine x_aload_n (pc := 62) dX0_addParts_62 rfl ?_
        refine x_iconst (pc := 63) dX0_addParts_63 ?_
        refine x_aload_n (pc := 64) dX0_addParts_64 rfl ?_
        refine x_getF (pc := 65) dX0_addParts_65 f_RX0_71 (by assumption) (by rfl) ?_
        refine x_iload (pc := 68) dX0_addParts_68 rfl ?_
        refine x_callS2 (pc := 70) dX0_addParts_70 (k_RX0_52 _ rfl) tms_X6_cell rfl rfl ?_
        refine c_cellIn (N := 10) (by omega) (by omega) (by assumption) (by decide) (by omega) (fun bb => ?_)
        dsimp only [Option.toList, List.cons_append, List.nil_append]
        refine x_i2l (pc := 73) dX0_addParts_73 ?_
        refine x_iload (pc := 74) dX0_addParts_74 rfl ?_
        refine x_callV3 (pc := 76) dX0_addParts_76 (k_RX0_56 _ rfl) tmv_X0_add (by assumption) rfl rfl rfl ?_
        have hs : hasS h it s := by
          unfold hasS at c_59 ⊢
          rw [ei] at c_59
          exact c_59
        have hs4 := kk4 s (by omega) (by omega) hs
        have e4 : g (a + 4) s = h (a + 4) s := by rw [ea (a + 4) (by omega) (by omega)]
        rw [e4, w32_id (by omega) (by omega)]
        refine c_b_add hb0 ⟨by omega, by omega, by omega⟩ hB (by omega) ⟨by omega, by omega⟩ (fun h2 hF2 hB2 => ?_)
        dsimp only [Option.toList, List.cons_append, List.nil_append]
        refine x_iinc (pc := 79) dX0_addParts_79 rfl (by decide) ?_
        refine x_goto (pc := 82) 46 dX0_addParts_82 rfl ?_
        first
          | (have hs : ¬ hasS h it s := by unfold hasS at c_59 ⊢; rw [ei] at c_59; exact c_59
             refine x_loc _ (by exact ⟨rfl, rfl, rfl, rfl, rfl, rfl, trivial⟩) (ih (s + 1) g (by omega) hF (by rw [svL_n hs]; exact hB) (by omega)))
          | (refine x_loc _ (by exact ⟨rfl, rfl, rfl, rfl, rfl, rfl, trivial⟩) (ih (s + 1) h2 (by omega) (Fr.tr hF hF2 (by omega) (by omega) (by omega) (by omega)) (by rw [svL_y hs, ← List.append_assoc, sumP_app, sumP_1]; exact hB2) (by omega)))

set_option maxHeartbeats 4000000 in
set_option maxRecDepth 100000 in
theorem c_b_addParts {b a it zone step : Int} (hb : isBT ty b) (hK : isKT ty a) (hI : isIT ty it) (hd1 : a + 5 < b ∨ b + 3 < a) (hd2 : it < b ∨ b + 3 < it) (hz : 0 ≤ zone ∧ zone ≤ 9) (hk : kOKp h a it zone step) (hq : ∀ h', Fr b (b + 3) h h' → BillIs h' b (kPl h a it zone step) (sumP (kPl h a it zone step)) → Q none ty sz h') (hB : BillIs h b [] 0) : zXM D mX0_addParts (d + 2) 0 0 [rV b, rV it, rV a, iV step, iV zone] ty sz h Q := by
  have hb0 := hb
  have hK0 := hK
  have hI0 := hI
  obtain ⟨b9, b0, b1, b2, b3⟩ := hb
  obtain ⟨k9, k0, k1, k2, k3, k4, k5⟩ := hK
  obtain ⟨i9, i0⟩ := hI
  obtain ⟨kk1, kk2, kk3, kk4, kk5⟩ := id hk
  have hz2 := zpct kk2 kk3
  refine x_aload_n (pc := 0) dX0_addParts_0 rfl ?_
  refine x_getF (pc := 1) dX0_addParts_1 f_RX0_49 (by assumption) (by rfl) ?_
  refine x_iload_n (pc := 4) dX0_addParts_4 rfl ?_
  refine x_callS2 (pc := 5) dX0_addParts_5 (k_RX0_52 _ rfl) tms_X6_cell rfl rfl ?_
  refine c_cellIn (N := 10) (by omega) (by omega) (by assumption) (by decide) (by omega) (fun bb => ?_)
  dsimp only [Option.toList, List.cons_append, List.nil_append]
  refine x_i2l (pc := 8) dX0_addParts_8 ?_
  refine x_lstore (pc := 9) dX0_addParts_9 (by decide) ?_
  refine x_aload_n (pc := 11) dX0_addParts_11 rfl ?_
  refine x_iconst (pc := 12) dX0_addParts_12 ?_
  refine x_lload (pc := 13) dX0_addParts_13 rfl ?_
  refine x_iload_n (pc := 15) dX0_addParts_15 rfl ?_
  refine x_callV3 (pc := 16) dX0_addParts_16 (k_RX0_56 _ rfl) tmv_X0_add (by assumption) rfl rfl rfl ?_
  rw [w32_id (by omega) (by omega)]
  refine c_b_add hb0 ⟨by omega, by omega, by omega⟩ hB (by simp) ⟨by omega, by omega⟩ (fun h1 hF1 hB1 => ?_)
  have e3 : h1 (a + 3) = h (a + 3) := hF1 _ (by omega)
  dsimp only [Option.toList, List.cons_append, List.nil_append]
  refine x_aload_n (pc := 19) dX0_addParts_19 rfl ?_
  refine x_iconst (pc := 20) dX0_addParts_20 ?_
  refine x_lload (pc := 21) dX0_addParts_21 rfl ?_
  refine x_aload_n (pc := 23) dX0_addParts_23 rfl ?_
  refine x_getF (pc := 24) dX0_addParts_24 f_RX0_60 (by assumption) (by rfl) ?_
  refine x_iload (pc := 27) dX0_addParts_27 rfl ?_
  refine x_callS2 (pc := 29) dX0_addParts_29 (k_RX0_52 _ rfl) tms_X6_cell rfl rfl ?_
  refine c_cellIn (N := 10) (by omega) (by omega) (by assumption) (by decide) (by omega) (fun bb => ?_)
  rw [e3]
  dsimp only [Option.toList, List.cons_append, List.nil_append]
  refine x_i2l (pc := 32) dX0_addParts_32 ?_
  rw [w32_id (by omega) (by omega)]
  refine x_lmul (pc := 33) dX0_addParts_33 ?_
  refine x_ldc2 (pc := 34) dX0_addParts_34 (100) tc_RX0_63 (by decide) ?_
  refine x_ldiv (pc := 37) dX0_addParts_37 (by rw [w64_id (by omega) (by omega)]; omega) ?_
  refine x_iload (pc := 38) dX0_addParts_38 rfl ?_
  refine x_callV3 (pc := 40) dX0_addParts_40 (k_RX0_56 _ rfl) tmv_X0_add (by assumption) rfl rfl rfl ?_
  rw [w64_id (z := h (a + 2) step * h (a + 3) zone) (by omega) (by omega), w64_id (z := 100) (by omega) (by omega)]
  refine c_b_add hb0 ⟨by omega, by omega, by omega⟩ hB1 (by simp) ⟨by omega, by omega⟩ (fun h2 hF2 hB2 => ?_)
  dsimp only [Option.toList, List.cons_append, List.nil_append]
  refine x_iconst (pc := 43) dX0_addParts_43 ?_
  refine x_istore (pc := 44) dX0_addParts_44 (by decide) ?_
  refine x_loc _ (by exact ⟨rfl, rfl, rfl, rfl, rfl, rfl, trivial⟩) (c_b_aP46 hb0 hK0 hI0 hd1 hd2 hz hk hq 11 0 h2 (by omega) (Fr.tr hF1 hF2 (by omega) (by omega) (by omega) (by omega)) ?_ (by omega))
  have e9 : kBase h a zone step ++ svL h a it 0 = [] ++ [(0, h (a + 2) step, step)] ++ [(1, (h (a + 2) step * h (a + 3) zone).tdiv 100, zone)] := rfl
  rw [e9, sumP_app, sumP_app, sumP_1, sumP_1]
  exact hB2

end C6
