section C37
variable {D : va_G} {d : Nat} {ty : zT} {sz : Nat} {h : zH} {Q : zQ}
set_option maxHeartbeats 4000000 in
set_option maxRecDepth 100000 in
theorem c_m_rec251 {m : Int} (hM : isMT ty m) {i b to zone day wt row step : Int} {kr : List Row} {it : IT} (hRB : RB h m i b to kr it) (hB : mB h m []) (hne : kr ≠ []) (hz : 0 ≤ zone ∧ zone ≤ 9) (htk : kTakes (vH kr it) 0 10 zone day) (hwt : wt = kWeight (vH kr it) 0 10) (hps : (row = -1 ∧ kStep (vH kr it) 0 wt = -1) ∨ (∃ (j : Nat) (R : Row), row = b + j ∧ kr[j]? = some R ∧ (0 ≤ row ∧ row < 3120) ∧ kStep (vH kr it) 0 wt = step ∧ (vH kr it) 2 step = R.2.2.1 ∧ 0 ≤ step ∧ step < nL 83 kr)) (hq : ∀ h', FrP m h h' → mB h' m (rBill kr it zone day).1 → Q (some (lV (rBill kr it zone day).2)) ty sz h') : zX D mX7_reckon (d + 3) 0 0 251 [(13, iV row), (12, iV step), (8, iV to), (7, iV b), (3, iV zone), (1, iV i), (0, rV m)] [] ty sz h Q := by
  have hM0 := hM
  obtain ⟨m9, m0, a1, a2, a3, a4, a5, a6, a7, a8, a9, a10, a11, a12, a13, a14, a15, a16, a17, a18, a19, a20, a21⟩ := hM
  obtain ⟨q1, q2, q3, q4, q5, q6, q7, q8, q9⟩ := id hRB
  subst hwt
  have hrb : rBill kr it zone day = kBill (vH kr it) 0 10 zone day := if_neg hne
  have hrw : -1 ≤ row ∧ row < 3120 := by
    rcases hps with ⟨z, -⟩ | ⟨j, R, z, z2, z3, -⟩
    · omega
    · omega
  refine x_iload (pc := 251) dX7_reckon_251 rfl ?_
  refine x_iconst (pc := 253) dX7_reckon_253 ?_
  refine x_icmp_ne (pc := 254) 261 dX7_reckon_254 rfl (fun c_254 => ?_) (fun c_254 => ?_)
  · (try simp (disch := omega) only [zb_e0, zb_n0, w32_id, w64_id, ne_eq, Classical.not_not] at c_254)
    rcases hps with ⟨z, -⟩ | ⟨j, R, z1, z2, z3, z4, z5, z6⟩
    · exact absurd z c_254
    have hP : kBillP (vH kr it) 0 10 zone day := ⟨by decide, htk, by rw [z4]; omega⟩
    rw [hrb, kBill_y hP, z4] at hq
    have hok := kOK_M q8 q9 q3 hz htk z6
    have hM9 := (kTakes_M q8 q3 hz).mp htk
    have hb14 : (vH kr it) 0 14 = fl 82 (fun r => r.2.1) kr := (vH_K kr it).2.2.2.2.2.2.2.2.2.2.2
    obtain ⟨p1, p2, p3⟩ := kPart_b hok 10 (Nat.le_refl _)
    refine c_m_rec261 (cost := R.2.2.1) hM0 hRB hB hz hok z3 (by rw [z1]; exact (q5 j R z2).2.2.1) z5 hM9.2.2.1 hM9.2.2.2.1 (fun g F hB2 => ?_)
    refine c_m_rec394 hM0 (hRB.fr F) hB2 p1 ⟨p2, Int.le_trans p3 (by decide)⟩ (fun g2 F2 hB3 => ?_)
    have hkp : kPl (vH kr it) 0 10 zone step = (if 0 < fl 82 (fun r => r.2.1) kr then kPl0 (vH kr it) 0 10 zone step ++ [(3, zdu (sumP (kPl0 (vH kr it) 0 10 zone step)) (fl 82 (fun r => r.2.1) kr) * fl 82 (fun r => r.2.1) kr - sumP (kPl0 (vH kr it) 0 10 zone step), fl 82 (fun r => r.2.1) kr)] else kPl0 (vH kr it) 0 10 zone step) := by
      unfold kPl
      rw [hb14]
    rw [hkp] at hq
    have hfin := hq g2 (F.t F2) hB3
    have hsum : sumP (if 0 < fl 82 (fun r => r.2.1) kr then kPl0 (vH kr it) 0 10 zone step ++ [(3, zdu (sumP (kPl0 (vH kr it) 0 10 zone step)) (fl 82 (fun r => r.2.1) kr) * fl 82 (fun r => r.2.1) kr - sumP (kPl0 (vH kr it) 0 10 zone step), fl 82 (fun r => r.2.1) kr)] else kPl0 (vH kr it) 0 10 zone step) = (if 0 < fl 82 (fun r => r.2.1) kr then zdu (sumP (kPl0 (vH kr it) 0 10 zone step)) (fl 82 (fun r => r.2.1) kr) * fl 82 (fun r => r.2.1) kr else sumP (kPl0 (vH kr it) 0 10 zone step)) := by
      split
      · rw [sumP_app, sumP_1]; omega
      · rfl
    rw [hsum] at hfin
    exact hfin
  · (try simp (disch := omega) only [zb_e0, zb_n0, w32_id, w64_id, ne_eq, Classical.not_not] at c_254)
    refine x_ldc2 (pc := 257) dX7_reckon_257 (-1) tc_RX7_190 (by decide) ?_
    refine x_retv (pc := 260) ⟨dX7_reckon_260, rfl⟩ ?_
    rcases hps with ⟨-, z⟩ | ⟨j, R, z, z2, z3, -⟩
    · rw [hrb, kBill_n (fun y => y.2.2 z)] at hq
      exact hq h (FrP.rf _ _) hB
    · omega

set_option maxHeartbeats 4000000 in
set_option maxRecDepth 100000 in
theorem c_m_rec171 {m : Int} (hM : isMT ty m) {i b to zone day wt : Int} {kr : List Row} {it : IT} (hRB : RB h m i b to kr it) (hB : mB h m []) (hne : kr ≠ []) (hz : 0 ≤ zone ∧ zone ≤ 9) (htk : kTakes (vH kr it) 0 10 zone day) (hwt : wt = kWeight (vH kr it) 0 10) (hw : i64 wt) (hq : ∀ h', FrP m h h' → mB h' m (rBill kr it zone day).1 → Q (some (lV (rBill kr it zone day).2)) ty sz h') : zX D mX7_reckon (d + 3) 0 0 171 [(9, lV wt), (8, iV to), (7, iV b), (3, iV zone), (1, iV i), (0, rV m)] [] ty sz h Q := by
  have hM0 := hM
  obtain ⟨m9, m0, a1, a2, a3, a4, a5, a6, a7, a8, a9, a10, a11, a12, a13, a14, a15, a16, a17, a18, a19, a20, a21⟩ := hM
  refine x_iconst (pc := 171) dX7_reckon_171 ?_
  refine x_istore (pc := 172) dX7_reckon_172 (by decide) ?_
  refine x_iconst (pc := 174) dX7_reckon_174 ?_
  refine x_istore (pc := 175) dX7_reckon_175 (by decide) ?_
  refine x_iload (pc := 177) dX7_reckon_177 rfl ?_
  refine x_istore (pc := 179) dX7_reckon_179 (by decide) ?_
  exact x_loc _ (by exact ⟨by show _ = some (iV (b + ((0 : Nat) : Int))); rw [show b + ((0 : Nat) : Int) = b by omega]; rfl, rfl, rfl, rfl, rfl, rfl, rfl, rfl, rfl, trivial⟩) (c_m_rec181 (it := it) hM0 hw hRB (fun row step hps => c_m_rec251 hM0 hRB hB hne hz htk hwt hps hq) (kr.length + 1) 0 (-1) 0 (by omega) (Or.inl ⟨rfl, rfl, fun r hr => by simp at hr⟩) (by omega))

set_option maxHeartbeats 4000000 in
set_option maxRecDepth 100000 in
theorem c_m_rec61 {m : Int} (hM : isMT ty m) {i b to zone day : Int} {kr : List Row} {it : IT} (hRB : RB h m i b to kr it) (hB : mB h m []) (hne : kr ≠ []) (hz : 0 ≤ zone ∧ zone ≤ 9) (htk : kTakes (vH kr it) 0 10 zone day) (hq : ∀ h', FrP m h h' → mB h' m (rBill kr it zone day).1 → Q (some (lV (rBill kr it zone day).2)) ty sz h') : zX D mX7_reckon (d + 3) 0 0 61 [(8, iV to), (7, iV b), (3, iV zone), (1, iV i), (0, rV m)] [] ty sz h Q := by
  have hM0 := hM
  obtain ⟨m9, m0, a1, a2, a3, a4, a5, a6, a7, a8, a9, a10, a11, a12, a13, a14, a15, a16, a17, a18, a19, a20, a21⟩ := hM
  obtain ⟨q1, q2, q3, q4, q5, q6, q7, q8, q9⟩ := id hRB
  obtain ⟨w1, w2, w3, w4, w5⟩ := q2
  obtain ⟨v1, v2, v3, v4, v5, v6⟩ := q3
  have hb11 : (vH kr it) 0 11 = fl 77 (fun r => r.2.1) kr := (vH_K kr it).2.2.2.2.2.2.2.2.1
  have hkw : kWeight (vH kr it) 0 10 = if fl 77 (fun r => r.2.1) kr = -1 then it.2.1 else (if zdu (it.2.2.1 * it.2.2.2.1 * it.2.2.2.2.1) (fl 77 (fun r => r.2.1) kr) < it.2.1 then it.2.1 else zdu (it.2.2.1 * it.2.2.2.1 * it.2.2.2.2.1) (fl 77 (fun r => r.2.1) kr)) := by
    unfold kWeight
    rw [hb11]
    rfl
  have hvol1 : 1 * 1 ≤ it.2.2.1 * it.2.2.2.1 := Int.mul_le_mul v3.1 v4.1 (by omega) (by omega)
  have hvol2 : it.2.2.1 * it.2.2.2.1 ≤ 100000 * 100000 := Int.mul_le_mul v3.2 v4.2 (by omega) (by omega)
  have hvol3 : 1 * 1 ≤ it.2.2.1 * it.2.2.2.1 * it.2.2.2.2.1 := Int.mul_le_mul (by omega) v5.1 (by omega) (by omega)
  have hvol4 : it.2.2.1 * it.2.2.2.1 * it.2.2.2.2.1 ≤ 100000 * 100000 * 100000 := Int.mul_le_mul (by omega) v5.2 (by omega) (by omega)
  refine x_aload_n (pc := 61) dX7_reckon_61 rfl ?_
  refine x_getF (pc := 62) dX7_reckon_62 f_RX7_31 (by assumption) (by rfl) ?_
  refine x_iload_n (pc := 65) dX7_reckon_65 rfl ?_
  refine x_iald (pc := 66) dX7_reckon_66 (by assumption) (by omega) (by omega) (fun b_66 => ?_)
  rw [w2] at b_66 ⊢
  refine x_i2l (pc := 67) dX7_reckon_67 ?_
  rw [w32_id (by omega) (by omega)]
  refine x_lstore (pc := 68) dX7_reckon_68 (by decide) ?_
  refine x_aload_n (pc := 70) dX7_reckon_70 rfl ?_
  refine x_iload (pc := 71) dX7_reckon_71 rfl ?_
  refine x_iload (pc := 73) dX7_reckon_73 rfl ?_
  refine x_bipush (pc := 75) dX7_reckon_75 (by decide) ?_
  refine x_callV3 (pc := 77) dX7_reckon_77 (k_RX7_179 _ rfl) tmv_X7_onlyRow (by assumption) rfl rfl rfl ?_
  refine x_room (d' := d) (by omega) (Nat.le_refl _) (Nat.le_refl _) (c_m_onlyRow hM0 (by omega) q5 q6 q7 (fun res hpk => ?_))
  replace hpk := PK_fl q7.1 hpk
  have hrs : -1 ≤ res ∧ res < 3120 := by
    rcases hpk with ⟨z, -⟩ | ⟨j, R, z1, z2, z3, -⟩
    · omega
    · have := (List.getElem?_eq_some_iff.mp z3).1
      omega
  dsimp only [Option.toList, List.cons_append, List.nil_append]
  refine x_istore (pc := 80) dX7_reckon_80 (by decide) ?_
  refine x_iload (pc := 82) dX7_reckon_82 rfl ?_
  refine x_iconst (pc := 84) dX7_reckon_84 ?_
  refine x_icmp_eq (pc := 85) 171 dX7_reckon_85 rfl (fun c_85 => ?_) (fun c_85 => ?_)
  · (try simp (disch := omega) only [zb_e0, zb_n0, w32_id, w64_id, ne_eq, Classical.not_not] at c_85)
    --
    have hf0 : fl 77 (fun r => r.2.1) kr = -1 := by
      rcases hpk with ⟨-, z⟩ | ⟨j, R, -, z, -⟩
      · exact z _
      · omega
    rw [if_pos hf0] at hkw
    first
    | exact x_loc _ (by exact ⟨rfl, rfl, rfl, rfl, rfl, rfl, trivial⟩) (c_m_rec171 hM0 hRB hB hne hz htk hkw.symm (by omega) hq)
    | (have hw9 : kWeight (vH kr it) 0 10 = it.2.1 := by
         rw [hkw]
         first
           | (rw [if_pos (by omega)] at hzw
              by_cases hlt : zdu vol R.2.1 < it.2.1
              · rw [if_pos hlt]
              · rw [if_neg hlt]; omega)
           | (rw [if_neg (by omega)] at hzw
              by_cases hlt : zdu vol R.2.1 < it.2.1
              · rw [if_pos hlt]
              · rw [if_neg hlt]; omega)
       exact x_loc _ (by exact ⟨rfl, rfl, rfl, rfl, rfl, rfl, trivial⟩) (c_m_rec171 (wt := it.2.1) hM0 hRB hB hne hz htk hw9.symm (by omega) hq))
    | (have hw9 : kWeight (vH kr it) 0 10 = by9 + 1 := by
         rw [hkw]
         rw [if_pos (by omega)] at hzw
         rw [if_neg (by omega), hzw]
       exact x_loc _ (by exact ⟨rfl, rfl, rfl, rfl, rfl, rfl, trivial⟩) (c_m_rec171 (wt := by9 + 1) hM0 hRB hB hne hz htk hw9.symm (by omega) hq))
    | (have hw9 : kWeight (vH kr it) 0 10 = by9 := by
         rw [hkw]
         rw [if_neg (by omega)] at hzw
         rw [if_neg (by omega), hzw]
       exact x_loc _ (by exact ⟨rfl, rfl, rfl, rfl, rfl, rfl, trivial⟩) (c_m_rec171 (wt := by9) hM0 hRB hB hne hz htk hw9.symm (by omega) hq))
  · (try simp (disch := omega) only [zb_e0, zb_n0, w32_id, w64_id, ne_eq, Classical.not_not] at c_85)
    --
    rcases hpk with ⟨z, -⟩ | ⟨j, R, z1, z2, z3, z4, z5⟩
    · exact absurd z c_85
    have hRB2 := q8 R (List.mem_of_getElem? z3)
    have hR9 := hRB2.2.2.2.2.2.2.2.2.2.1 z4
    have hR10 := hRB2.2.1
    have hv : h (m + 3) res = R.2.1 := by rw [z1]; exact (q5 j R z3).2.1
    rw [z5, if_neg (by omega)] at hkw
    refine x_aload_n (pc := 88) dX7_reckon_88 rfl ?_
    refine x_getF (pc := 89) dX7_reckon_89 f_RX7_34 (by assumption) (by rfl) ?_
    refine x_iload_n (pc := 92) dX7_reckon_92 rfl ?_
    refine x_iald (pc := 93) dX7_reckon_93 (by assumption) (by omega) (by omega) (fun b_93 => ?_)
    rw [w3] at b_93 ⊢
    refine x_i2l (pc := 94) dX7_reckon_94 ?_
    rw [w32_id (by omega) (by omega)]
    refine x_aload_n (pc := 95) dX7_reckon_95 rfl ?_
    refine x_getF (pc := 96) dX7_reckon_96 f_RX7_37 (by assumption) (by rfl) ?_
    refine x_iload_n (pc := 99) dX7_reckon_99 rfl ?_
    refine x_iald (pc := 100) dX7_reckon_100 (by assumption) (by omega) (by omega) (fun b_100 => ?_)
    rw [w4] at b_100 ⊢
    refine x_i2l (pc := 101) dX7_reckon_101 ?_
    rw [w32_id (by omega) (by omega)]
    refine x_lmul (pc := 102) dX7_reckon_102 ?_
    refine x_aload_n (pc := 103) dX7_reckon_103 rfl ?_
    refine x_getF (pc := 104) dX7_reckon_104 f_RX7_40 (by assumption) (by rfl) ?_
    refine x_iload_n (pc := 107) dX7_reckon_107 rfl ?_
    refine x_iald (pc := 108) dX7_reckon_108 (by assumption) (by omega) (by omega) (fun b_108 => ?_)
    rw [w5] at b_108 ⊢
    refine x_i2l (pc := 109) dX7_reckon_109 ?_
    rw [w32_id (by omega) (by omega)]
    refine x_lmul (pc := 110) dX7_reckon_110 ?_
    generalize hvol : it.2.2.1 * it.2.2.2.1 * it.2.2.2.2.1 = vol at *
    refine x_lstore (pc := 111) dX7_reckon_111 (by decide) ?_
    refine x_lload (pc := 113) dX7_reckon_113 rfl ?_
    refine x_aload_n (pc := 115) dX7_reckon_115 rfl ?_
    refine x_getF (pc := 116) dX7_reckon_116 f_RX7_16 (by assumption) (by rfl) ?_
    refine x_iload (pc := 119) dX7_reckon_119 rfl ?_
    refine x_iald (pc := 121) dX7_reckon_121 (by assumption) (by omega) (by omega) (fun b_121 => ?_)
    rw [hv] at b_121 ⊢
    refine x_i2l (pc := 122) dX7_reckon_122 ?_
    rw [w32_id (by omega) (by omega)]
    refine x_ldiv (pc := 123) dX7_reckon_123 (by rw [w64_id (by omega) (by omega)]; omega) ?_
    rw [w64_id (by omega) (by omega), w64_id (by omega) (by omega)]
    have hzw := zdu_w (v := vol) (n := R.2.1) (by omega) (by omega)
    have hzr := zdu_rng (a := vol) (b := R.2.1) (by omega) (by omega) (by omega)
    have hby : 0 ≤ vol.tdiv R.2.1 * R.2.1 ∧ vol.tdiv R.2.1 * R.2.1 ≤ vol ∧ 0 ≤ vol.tdiv R.2.1 ∧ vol.tdiv R.2.1 ≤ vol := by
      have e : vol.tdiv R.2.1 = vol / R.2.1 := Int.tdiv_eq_ediv_of_nonneg (by omega)
      rw [e]
      have h1 := Int.emod_add_mul_ediv vol R.2.1
      have h2 := Int.emod_nonneg vol (show R.2.1 ≠ 0 by omega)
      have h3 : 0 ≤ vol / R.2.1 := Int.ediv_nonneg (by omega) (by omega)
      rw [Int.mul_comm] at h1
      have h4 : 0 ≤ vol / R.2.1 * R.2.1 := Int.mul_nonneg h3 (by omega)
      have h5 : vol / R.2.1 ≤ vol := Int.ediv_le_self _ (by omega)
      omega
    generalize hby9 : vol.tdiv R.2.1 = by9 at *
    refine x_lstore (pc := 124) dX7_reckon_124 (by decide) ?_
    refine x_lload (pc := 126) dX7_reckon_126 rfl ?_
    refine x_aload_n (pc := 128) dX7_reckon_128 rfl ?_
    refine x_getF (pc := 129) dX7_reckon_129 f_RX7_16 (by assumption) (by rfl) ?_
    refine x_iload (pc := 132) dX7_reckon_132 rfl ?_
    refine x_iald (pc := 134) dX7_reckon_134 (by assumption) (by omega) (by omega) (fun b_134 => ?_)
    rw [hv] at b_134 ⊢
    refine x_i2l (pc := 135) dX7_reckon_135 ?_
    rw [w32_id (by omega) (by omega)]
    refine x_lmul (pc := 136) dX7_reckon_136 ?_
    generalize hbn : by9 * R.2.1 = bn at *
    refine x_lload (pc := 137) dX7_reckon_137 rfl ?_
    refine x_lcmp_ge (pc := 139) 150 dX7_reckon_139 dX7_reckon_140 rfl (fun c_139 => ?_) (fun c_139 => ?_)
    · (try simp (disch := omega) only [zb_e0, zb_n0, w32_id, w64_id, ne_eq, Classical.not_not] at c_139)
      refine x_lload (pc := 150) dX7_reckon_150 rfl ?_
      refine x_lstore (pc := 152) dX7_reckon_152 (by decide) ?_
      refine x_lload (pc := 154) dX7_reckon_154 rfl ?_
      refine x_lload (pc := 156) dX7_reckon_156 rfl ?_
      refine x_lcmp_le (pc := 158) 167 dX7_reckon_158 dX7_reckon_159 rfl (fun c_158 => ?_) (fun c_158 => ?_)
      · (try simp (disch := omega) only [zb_e0, zb_n0, w32_id, w64_id, ne_eq, Classical.not_not] at c_158)
        refine x_lload (pc := 167) dX7_reckon_167 rfl ?_
        refine x_lstore (pc := 169) dX7_reckon_169 (by decide) ?_
        first
        | exact x_loc _ (by exact ⟨rfl, rfl, rfl, rfl, rfl, rfl, trivial⟩) (c_m_rec171 hM0 hRB hB hne hz htk hkw.symm (by omega) hq)
        | (have hw9 : kWeight (vH kr it) 0 10 = it.2.1 := by
             rw [hkw]
             first
               | (rw [if_pos (by omega)] at hzw
                  by_cases hlt : zdu vol R.2.1 < it.2.1
                  · rw [if_pos hlt]
                  · rw [if_neg hlt]; omega)
               | (rw [if_neg (by omega)] at hzw
                  by_cases hlt : zdu vol R.2.1 < it.2.1
                  · rw [if_pos hlt]
                  · rw [if_neg hlt]; omega)
           exact x_loc _ (by exact ⟨rfl, rfl, rfl, rfl, rfl, rfl, trivial⟩) (c_m_rec171 (wt := it.2.1) hM0 hRB hB hne hz htk hw9.symm (by omega) hq))
        | (have hw9 : kWeight (vH kr it) 0 10 = by9 + 1 := by
             rw [hkw]
             rw [if_pos (by omega)] at hzw
             rw [if_neg (by omega), hzw]
           exact x_loc _ (by exact ⟨rfl, rfl, rfl, rfl, rfl, rfl, trivial⟩) (c_m_rec171 (wt := by9 + 1) hM0 hRB hB hne hz htk hw9.symm (by omega) hq))
        | (have hw9 : kWeight (vH kr it) 0 10 = by9 := by
             rw [hkw]
             rw [if_neg (by omega)] at hzw
             rw [if_neg (by omega), hzw]
           exact x_loc _ (by exact ⟨rfl, rfl, rfl, rfl, rfl, rfl, trivial⟩) (c_m_rec171 (wt := by9) hM0 hRB hB hne hz htk hw9.symm (by omega) hq))
      · (try simp (disch := omega) only [zb_e0, zb_n0, w32_id, w64_id, ne_eq, Classical.not_not] at c_158)
        refine x_lload (pc := 162) dX7_reckon_162 rfl ?_
        refine x_goto (pc := 164) 169 dX7_reckon_164 rfl ?_
        refine x_lstore (pc := 169) dX7_reckon_169 (by decide) ?_
        first
        | exact x_loc _ (by exact ⟨rfl, rfl, rfl, rfl, rfl, rfl, trivial⟩) (c_m_rec171 hM0 hRB hB hne hz htk hkw.symm (by omega) hq)
        | (have hw9 : kWeight (vH kr it) 0 10 = it.2.1 := by
             rw [hkw]
             first
               | (rw [if_pos (by omega)] at hzw
                  by_cases hlt : zdu vol R.2.1 < it.2.1
                  · rw [if_pos hlt]
                  · rw [if_neg hlt]; omega)
               | (rw [if_neg (by omega)] at hzw
                  by_cases hlt : zdu vol R.2.1 < it.2.1
                  · rw [if_pos hlt]
                  · rw [if_neg hlt]; omega)
           exact x_loc _ (by exact ⟨rfl, rfl, rfl, rfl, rfl, rfl, trivial⟩) (c_m_rec171 (wt := it.2.1) hM0 hRB hB hne hz htk hw9.symm (by omega) hq))
        | (have hw9 : kWeight (vH kr it) 0 10 = by9 + 1 := by
             rw [hkw]
             rw [if_pos (by omega)] at hzw
             rw [if_neg (by omega), hzw]
           exact x_loc _ (by exact ⟨rfl, rfl, rfl, rfl, rfl, rfl, trivial⟩) (c_m_rec171 (wt := by9 + 1) hM0 hRB hB hne hz htk hw9.symm (by omega) hq))
        | (have hw9 : kWeight (vH kr it) 0 10 = by9 := by
             rw [hkw]
             rw [if_neg (by omega)] at hzw
             rw [if_neg (by omega), hzw]
           exact x_loc _ (by exact ⟨rfl, rfl, rfl, rfl, rfl, rfl, trivial⟩) (c_m_rec171 (wt := by9) hM0 hRB hB hne hz htk hw9.symm (by omega) hq))
    · (try simp (disch := omega) only [zb_e0, zb_n0, w32_id, w64_id, ne_eq, Classical.not_not] at c_139)
      refine x_lload (pc := 143) dX7_reckon_143 rfl ?_
      refine x_lconst (pc := 145) dX7_reckon_145 1 (by decide) ?_
      refine x_ladd (pc := 146) dX7_reckon_146 ?_
      refine x_goto (pc := 147) 152 dX7_reckon_147 rfl ?_
      refine x_lstore (pc := 152) dX7_reckon_152 (by decide) ?_
      refine x_lload (pc := 154) dX7_reckon_154 rfl ?_
      refine x_lload (pc := 156) dX7_reckon_156 rfl ?_
      refine x_lcmp_le (pc := 158) 167 dX7_reckon_158 dX7_reckon_159 rfl (fun c_158 => ?_) (fun c_158 => ?_)
      · (try simp (disch := omega) only [zb_e0, zb_n0, w32_id, w64_id, ne_eq, Classical.not_not] at c_158)
        refine x_lload (pc := 167) dX7_reckon_167 rfl ?_
        refine x_lstore (pc := 169) dX7_reckon_169 (by decide) ?_
        first
        | exact x_loc _ (by exact ⟨rfl, rfl, rfl, rfl, rfl, rfl, trivial⟩) (c_m_rec171 hM0 hRB hB hne hz htk hkw.symm (by omega) hq)
        | (have hw9 : kWeight (vH kr it) 0 10 = it.2.1 := by
             rw [hkw]
             first
               | (rw [if_pos (by omega)] at hzw
                  by_cases hlt : zdu vol R.2.1 < it.2.1
                  · rw [if_pos hlt]
                  · rw [if_neg hlt]; omega)
               | (rw [if_neg (by omega)] at hzw
                  by_cases hlt : zdu vol R.2.1 < it.2.1
                  · rw [if_pos hlt]
                  · rw [if_neg hlt]; omega)
           exact x_loc _ (by exact ⟨rfl, rfl, rfl, rfl, rfl, rfl, trivial⟩) (c_m_rec171 (wt := it.2.1) hM0 hRB hB hne hz htk hw9.symm (by omega) hq))
        | (have hw9 : kWeight (vH kr it) 0 10 = by9 + 1 := by
             rw [hkw]
             rw [if_pos (by omega)] at hzw
             rw [if_neg (by omega), hzw]
           exact x_loc _ (by exact ⟨rfl, rfl, rfl, rfl, rfl, rfl, trivial⟩) (c_m_rec171 (wt := by9 + 1) hM0 hRB hB hne hz htk hw9.symm (by omega) hq))
        | (have hw9 : kWeight (vH kr it) 0 10 = by9 := by
             rw [hkw]
             rw [if_neg (by omega)] at hzw
             rw [if_neg (by omega), hzw]
           exact x_loc _ (by exact ⟨rfl, rfl, rfl, rfl, rfl, rfl, trivial⟩) (c_m_rec171 (wt := by9) hM0 hRB hB hne hz htk hw9.symm (by omega) hq))
      · (try simp (disch := omega) only [zb_e0, zb_n0, w32_id, w64_id, ne_eq, Classical.not_not] at c_158)
        refine x_lload (pc := 162) dX7_reckon_162 rfl ?_
        refine x_goto (pc := 164) 169 dX7_reckon_164 rfl ?_
        refine x_lstore (pc := 169) dX7_reckon_169 (by decide) ?_
        first
        | exact x_loc _ (by exact ⟨rfl, rfl, rfl, rfl, rfl, rfl, trivial⟩) (c_m_rec171 hM0 hRB hB hne hz htk hkw.symm (by omega) hq)
        | (have hw9 : kWeight (vH kr it) 0 10 = it.2.1 := by
             rw [hkw]
             first
               | (rw [if_pos (by omega)] at hzw
                  by_cases hlt : zdu vol R.2.1 < it.2.1
                  · rw [if_pos hlt]
                  · rw [if_neg hlt]; omega)
               | (rw [if_neg (by omega)] at hzw
                  by_cases hlt : zdu vol R.2.1 < it.2.1
                  · rw [if_pos hlt]
                  · rw [if_neg hlt]; omega)
           exact x_loc _ (by exact ⟨rfl, rfl, rfl, rfl, rfl, rfl, trivial⟩) (c_m_rec171 (wt := it.2.1) hM0 hRB hB hne hz htk hw9.symm (by omega) hq))
        | (have hw9 : kWeight (vH kr it) 0 10 = by9 + 1 := by
             rw [hkw]
             rw [if_pos (by omega)] at hzw
             rw [if_neg (by omega), hzw]
           exact x_loc _ (by exact ⟨rfl, rfl, rfl, rfl, rfl, rfl, trivial⟩) (c_m_rec171 (wt := by9 + 1) hM0 hRB hB hne hz htk hw9.symm (by omega) hq))
        | (have hw9 : kWeight (vH kr it) 0 10 = by9 := by
             rw [hkw]
             rw [if_neg (by omega)] at hzw
             rw [if_neg (by omega), hzw]
           exact x_loc _ (by exact ⟨rfl, rfl, rfl, rfl, rfl, rfl, trivial⟩) (c_m_rec171 (wt := by9) hM0 hRB hB hne hz htk hw9.symm (by omega) hq))

end C37
