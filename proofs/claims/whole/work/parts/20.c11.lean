section C11
variable {D : va_G} {d : Nat} {ty : zT} {sz : Nat} {h : zH} {Q : zQ}
theorem okN_75 (l : List Row) (n v a0 : Int) : okN l 75 n v a0 ↔ (0 ≤ v ∧ v ≤ 9) ∧ kR v l = [] := by simp [okN]
theorem okN_83 (l : List Row) (n v a0 : Int) : okN l 83 n v a0 ↔ (0 < n ∨ lastW (curK l) < v) := by simp [okN]
theorem okN_90 (l : List Row) (n v a0 : Int) : okN l 90 n v a0 ↔ ((0 < n ∧ v ≤ 1000) ∨ (n = 0 ∧ (0 ≤ v ∧ v ≤ 9) ∧ lk 90 v (curK l) = -1)) := by simp [okN]
theorem okN_88 (l : List Row) (n v a0 : Int) : okN l 88 n v a0 ↔ (0 < n ∨ (n = 0 ∧ (0 ≤ v ∧ v ≤ 9) ∧ lk 88 v (curK l) = -1)) := by simp [okN]
theorem okN_69 (l : List Row) (n v a0 : Int) : okN l 69 n v a0 ↔ ((0 ≤ v ∧ v ≤ 9) ∧ lk 88 v (curK l) ≠ -1 ∧ (n = 0 ∨ (v ≠ a0 ∧ (exM (curK l) a0).testBit v.toNat = false))) := by simp [okN]
theorem okN_70 (l : List Row) (n v a0 : Int) : okN l 70 n v a0 ↔ (n = 0 ∨ a0 ≤ v) := by simp [okN]
theorem okN_82 (l : List Row) (n v a0 : Int) : okN l 82 n v a0 ↔ (1 ≤ v ∧ v ≤ 1000) := by simp [okN]
theorem okN_d (l : List Row) {c : Int} (n v a0 : Int) (hc : c = 68 ∨ c = 77) : okN l c n v a0 ↔ 1 ≤ v := by rcases hc with e | e <;> subst e <;> simp [okN]
theorem lastW_eq {h : zH} {a : Int} {kr : List Row} (hk : KindIs h a kr) : lastW kr = if 0 < h a 1 then h (a + 1) (h a 1 - 1) else 0 := by
  have e1 : h a 1 = (stp kr).length := by rw [hk.2.1, stp_len]
  unfold lastW
  rw [List.getLast?_eq_getElem?]
  by_cases hz : 0 < h a 1
  · rw [if_pos hz]
    have hl : (stp kr).length - 1 < (stp kr).length := by omega
    rw [List.getElem?_eq_getElem hl]
    have := (hk.2.2.1 _ _ (List.getElem?_eq_getElem hl)).1
    rw [show ((((stp kr).length - 1 : Nat)) : Int) = h a 1 - 1 by omega] at this
    exact this.symm
  · rw [if_neg hz, List.getElem?_eq_none (by omega)]

set_option maxHeartbeats 4000000 in
set_option maxRecDepth 100000 in
theorem c_r_excl {r e n v a0 : Int} {l : List Row} (hR : isRT ty r) (hE : isET ty e) (hk : RdK h r e l) (hl : l ≠ []) (hn : 0 ≤ n ∧ n ≤ 2) (hv : i10 v) (ha : n = 0 ∨ (h (r + 2) 0 = a0 ∧ 0 ≤ a0 ∧ a0 ≤ 9)) (hq : Q (some (iV (zb (okN l 69 n v a0)))) ty sz h) : zXM D mX5_isExcludable (d + 2) 0 0 [rV r, iV n, iV v] ty sz h Q := by
  obtain ⟨r9, r0, r1, r2⟩ := hR
  obtain ⟨h5, hck, hKI, hcn, hB, hne⟩ := hk.cur hl
  have hKT := hE.2.2.2 (ck l) (by omega) (by omega)
  rw [← h5] at hKI hKT
  have hKT0 := hKT
  obtain ⟨k9, k0, k1, k2, k3, k4, k5⟩ := hKT
  have hKI0 := hKI
  obtain ⟨c0, c1, c2, c3, c7, c8, c9, c10, c11, c12, c13, c14⟩ := hKI
  refine x_aload_n (pc := 0) dX5_isExcludable_0 rfl ?_
  refine y_getR 5 (pc := 1) dX5_isExcludable_1 f_RX5_35 (by assumption) rfl ?_
  refine x_ifnull (pc := 4) 29 dX5_isExcludable_4 rfl (fun c_4 => ?_) (fun c_4 => ?_)
  · (try simp (disch := omega) only [zb_e0, zb_n0, w32_id, w64_id, ne_eq, Classical.not_not] at c_4)
    omega
  · (try simp (disch := omega) only [zb_e0, zb_n0, w32_id, w64_id, ne_eq, Classical.not_not] at c_4)
    refine x_iload_n (pc := 7) dX5_isExcludable_7 rfl ?_
    refine x_callS1 (pc := 8) dX5_isExcludable_8 (k_RX5_102 _ rfl) tms_X6_isName rfl rfl ?_
    refine c_isName (by omega) ?_
    dsimp only [Option.toList, List.cons_append, List.nil_append]
    refine x_if_eq (pc := 11) 29 dX5_isExcludable_11 rfl (fun c_11 => ?_) (fun c_11 => ?_)
    · (try simp (disch := omega) only [zb_e0, zb_n0, w32_id, w64_id, ne_eq, Classical.not_not] at c_11)
      refine x_iconst (pc := 29) dX5_isExcludable_29 ?_
      refine x_retv (pc := 30) ⟨dX5_isExcludable_30, Or.inr ⟨rfl, (by decide)⟩⟩ ?_
      by_cases hm : okN l 69 n v a0
      · rw [zb_t hm] at hq
        first
          | exact hq
          | (exfalso; rw [okN_69] at hm; obtain ⟨m1, m2, m3⟩ := hm; first | omega | (rw [← (c3 v (by omega) (by omega)).2.1] at m2; omega) | (rcases m3 with m3 | ⟨m3, m4⟩ <;> first | omega | (rw [(zbit (exM_lt _ _ hB) (by omega) (by omega)).mp (by assumption)] at m4; cases m4) | simp_all))
      · rw [zb_f hm] at hq
        first
          | exact hq
          | (exfalso; apply hm; rw [okN_69, ← (c3 v (by omega) (by omega)).2.1]; refine ⟨by omega, by omega, ?_⟩; first | exact Or.inl (by omega) | (refine Or.inr ⟨by omega, ?_⟩; cases hb : (exM (curK l) a0).testBit v.toNat with | false => rfl | true => exact absurd (by assumption) ((zbit (exM_lt _ _ hB) (by omega) (by omega)).mpr hb)))
    · (try simp (disch := omega) only [zb_e0, zb_n0, w32_id, w64_id, ne_eq, Classical.not_not] at c_11)
      refine x_aload_n (pc := 14) dX5_isExcludable_14 rfl ?_
      refine y_getR 5 (pc := 15) dX5_isExcludable_15 f_RX5_35 (by assumption) rfl ?_
      refine x_getF (pc := 18) dX5_isExcludable_18 f_RX5_115 (by assumption) (by rfl) ?_
      refine x_iload_n (pc := 21) dX5_isExcludable_21 rfl ?_
      refine x_callS2 (pc := 22) dX5_isExcludable_22 (k_RX5_76 _ rfl) tms_X6_cell rfl rfl ?_
      refine c_cellIn (N := 10) (by omega) (by omega) (by assumption) (by decide) (by omega) (fun bb => ?_)
      dsimp only [Option.toList, List.cons_append, List.nil_append]
      refine x_iconst (pc := 25) dX5_isExcludable_25 ?_
      refine x_icmp_ne (pc := 26) 31 dX5_isExcludable_26 rfl (fun c_26 => ?_) (fun c_26 => ?_)
      · (try simp (disch := omega) only [zb_e0, zb_n0, w32_id, w64_id, ne_eq, Classical.not_not] at c_26)
        refine x_aload_n (pc := 31) dX5_isExcludable_31 rfl ?_
        refine x_getF (pc := 32) dX5_isExcludable_32 f_RX5_15 (by assumption) (by rfl) ?_
        refine x_iconst (pc := 35) dX5_isExcludable_35 ?_
        refine x_callS2 (pc := 36) dX5_isExcludable_36 (k_RX5_76 _ rfl) tms_X6_cell rfl rfl ?_
        refine c_cellIn (N := 3) (by omega) (by omega) (by assumption) (by decide) (by omega) (fun b3 => ?_)
        dsimp only [Option.toList, List.cons_append, List.nil_append]
        refine x_istore_n (pc := 39) dX5_isExcludable_39 (by decide) ?_
        refine x_iload_n (pc := 40) dX5_isExcludable_40 rfl ?_
        refine x_if_eq (pc := 41) 61 dX5_isExcludable_41 rfl (fun c_41 => ?_) (fun c_41 => ?_)
        · (try simp (disch := omega) only [zb_e0, zb_n0, w32_id, w64_id, ne_eq, Classical.not_not] at c_41)
          refine x_iconst (pc := 61) dX5_isExcludable_61 ?_
          refine x_goto (pc := 62) 66 dX5_isExcludable_62 rfl ?_
          refine x_retv (pc := 66) ⟨dX5_isExcludable_66, Or.inr ⟨rfl, (by decide)⟩⟩ ?_
          by_cases hm : okN l 69 n v a0
          · rw [zb_t hm] at hq
            first
              | exact hq
              | (exfalso; rw [okN_69] at hm; obtain ⟨m1, m2, m3⟩ := hm; first | omega | (rw [← (c3 v (by omega) (by omega)).2.1] at m2; omega) | (rcases m3 with m3 | ⟨m3, m4⟩ <;> first | omega | (rw [(zbit (exM_lt _ _ hB) (by omega) (by omega)).mp (by assumption)] at m4; cases m4) | simp_all))
          · rw [zb_f hm] at hq
            first
              | exact hq
              | (exfalso; apply hm; rw [okN_69, ← (c3 v (by omega) (by omega)).2.1]; refine ⟨by omega, by omega, ?_⟩; first | exact Or.inl (by omega) | (refine Or.inr ⟨by omega, ?_⟩; cases hb : (exM (curK l) a0).testBit v.toNat with | false => rfl | true => exact absurd (by assumption) ((zbit (exM_lt _ _ hB) (by omega) (by omega)).mpr hb)))
        · (try simp (disch := omega) only [zb_e0, zb_n0, w32_id, w64_id, ne_eq, Classical.not_not] at c_41)
          refine x_iload_n (pc := 44) dX5_isExcludable_44 rfl ?_
          refine x_iload_n (pc := 45) dX5_isExcludable_45 rfl ?_
          refine x_icmp_eq (pc := 46) 65 dX5_isExcludable_46 rfl (fun c_46 => ?_) (fun c_46 => ?_)
          · (try simp (disch := omega) only [zb_e0, zb_n0, w32_id, w64_id, ne_eq, Classical.not_not] at c_46)
            refine x_iconst (pc := 65) dX5_isExcludable_65 ?_
            refine x_retv (pc := 66) ⟨dX5_isExcludable_66, Or.inr ⟨rfl, (by decide)⟩⟩ ?_
            by_cases hm : okN l 69 n v a0
            · rw [zb_t hm] at hq
              first
                | exact hq
                | (exfalso; rw [okN_69] at hm; obtain ⟨m1, m2, m3⟩ := hm; first | omega | (rw [← (c3 v (by omega) (by omega)).2.1] at m2; omega) | (rcases m3 with m3 | ⟨m3, m4⟩ <;> first | omega | (rw [(zbit (exM_lt _ _ hB) (by omega) (by omega)).mp (by assumption)] at m4; cases m4) | simp_all))
            · rw [zb_f hm] at hq
              first
                | exact hq
                | (exfalso; apply hm; rw [okN_69, ← (c3 v (by omega) (by omega)).2.1]; refine ⟨by omega, by omega, ?_⟩; first | exact Or.inl (by omega) | (refine Or.inr ⟨by omega, ?_⟩; cases hb : (exM (curK l) a0).testBit v.toNat with | false => rfl | true => exact absurd (by assumption) ((zbit (exM_lt _ _ hB) (by omega) (by omega)).mpr hb)))
          · (try simp (disch := omega) only [zb_e0, zb_n0, w32_id, w64_id, ne_eq, Classical.not_not] at c_46)
            refine x_aload_n (pc := 49) dX5_isExcludable_49 rfl ?_
            refine y_getR 5 (pc := 50) dX5_isExcludable_50 f_RX5_35 (by assumption) rfl ?_
            refine x_iload_n (pc := 53) dX5_isExcludable_53 rfl ?_
            refine x_iload_n (pc := 54) dX5_isExcludable_54 rfl ?_
            refine x_callV2 (pc := 55) dX5_isExcludable_55 (k_RX5_122 _ rfl) tmv_X3_excludes (by assumption) rfl rfl rfl ?_
            have e0 : h (r + 2) 0 = a0 := by omega
            rw [e0]
            refine c_k_excludes hKT0 (by omega) ?_
            rw [(c3 a0 (by omega) (by omega)).2.2]
            dsimp only [Option.toList, List.cons_append, List.nil_append]
            refine x_if_ne (pc := 58) 65 dX5_isExcludable_58 rfl (fun c_58 => ?_) (fun c_58 => ?_)
            · (try simp (disch := omega) only [zb_e0, zb_n0, w32_id, w64_id, ne_eq, Classical.not_not] at c_58)
              refine x_iconst (pc := 65) dX5_isExcludable_65 ?_
              refine x_retv (pc := 66) ⟨dX5_isExcludable_66, Or.inr ⟨rfl, (by decide)⟩⟩ ?_
              by_cases hm : okN l 69 n v a0
              · rw [zb_t hm] at hq
                first
                  | exact hq
                  | (exfalso; rw [okN_69] at hm; obtain ⟨m1, m2, m3⟩ := hm; first | omega | (rw [← (c3 v (by omega) (by omega)).2.1] at m2; omega) | (rcases m3 with m3 | ⟨m3, m4⟩ <;> first | omega | (rw [(zbit (exM_lt _ _ hB) (by omega) (by omega)).mp (by assumption)] at m4; cases m4) | simp_all))
              · rw [zb_f hm] at hq
                first
                  | exact hq
                  | (exfalso; apply hm; rw [okN_69, ← (c3 v (by omega) (by omega)).2.1]; refine ⟨by omega, by omega, ?_⟩; first | exact Or.inl (by omega) | (refine Or.inr ⟨by omega, ?_⟩; cases hb : (exM (curK l) a0).testBit v.toNat with | false => rfl | true => exact absurd (by assumption) ((zbit (exM_lt _ _ hB) (by omega) (by omega)).mpr hb)))
            · (try simp (disch := omega) only [zb_e0, zb_n0, w32_id, w64_id, ne_eq, Classical.not_not] at c_58)
              refine x_iconst (pc := 61) dX5_isExcludable_61 ?_
              refine x_goto (pc := 62) 66 dX5_isExcludable_62 rfl ?_
              refine x_retv (pc := 66) ⟨dX5_isExcludable_66, Or.inr ⟨rfl, (by decide)⟩⟩ ?_
              by_cases hm : okN l 69 n v a0
              · rw [zb_t hm] at hq
                first
                  | exact hq
                  | (exfalso; rw [okN_69] at hm; obtain ⟨m1, m2, m3⟩ := hm; first | omega | (rw [← (c3 v (by omega) (by omega)).2.1] at m2; omega) | (rcases m3 with m3 | ⟨m3, m4⟩ <;> first | omega | (rw [(zbit (exM_lt _ _ hB) (by omega) (by omega)).mp (by assumption)] at m4; cases m4) | simp_all))
              · rw [zb_f hm] at hq
                first
                  | exact hq
                  | (exfalso; apply hm; rw [okN_69, ← (c3 v (by omega) (by omega)).2.1]; refine ⟨by omega, by omega, ?_⟩; first | exact Or.inl (by omega) | (refine Or.inr ⟨by omega, ?_⟩; cases hb : (exM (curK l) a0).testBit v.toNat with | false => rfl | true => exact absurd (by assumption) ((zbit (exM_lt _ _ hB) (by omega) (by omega)).mpr hb)))
      · (try simp (disch := omega) only [zb_e0, zb_n0, w32_id, w64_id, ne_eq, Classical.not_not] at c_26)
        refine x_iconst (pc := 29) dX5_isExcludable_29 ?_
        refine x_retv (pc := 30) ⟨dX5_isExcludable_30, Or.inr ⟨rfl, (by decide)⟩⟩ ?_
        by_cases hm : okN l 69 n v a0
        · rw [zb_t hm] at hq
          first
            | exact hq
            | (exfalso; rw [okN_69] at hm; obtain ⟨m1, m2, m3⟩ := hm; first | omega | (rw [← (c3 v (by omega) (by omega)).2.1] at m2; omega) | (rcases m3 with m3 | ⟨m3, m4⟩ <;> first | omega | (rw [(zbit (exM_lt _ _ hB) (by omega) (by omega)).mp (by assumption)] at m4; cases m4) | simp_all))
        · rw [zb_f hm] at hq
          first
            | exact hq
            | (exfalso; apply hm; rw [okN_69, ← (c3 v (by omega) (by omega)).2.1]; refine ⟨by omega, by omega, ?_⟩; first | exact Or.inl (by omega) | (refine Or.inr ⟨by omega, ?_⟩; cases hb : (exM (curK l) a0).testBit v.toNat with | false => rfl | true => exact absurd (by assumption) ((zbit (exM_lt _ _ hB) (by omega) (by omega)).mpr hb)))

set_option maxHeartbeats 4000000 in
set_option maxRecDepth 100000 in
theorem c_r_saidK {r e n v a0 : Int} {l : List Row} (hR : isRT ty r) (hE : isET ty e) (hk : RdK h r e l) (hv : i10 v) (hq : Q (some (iV (zb (okN l 75 n v a0)))) ty sz h) : zXM D mX5_isAsSaid (d + 2) 0 0 [rV r, iV 75, iV n, iV v] ty sz h Q := by
  obtain ⟨r9, r0, r1, r2⟩ := hR
  have F21 : ∀ q, ((q < 0) ↔ kR v l = []) → (0 ≤ v ∧ v ≤ 9) → zX D mX5_isAsSaid (d + 2) 0 0 21 [(0, rV r), (1, iV 75), (2, iV n), (3, iV v)] [rV q] ty sz h Q := by
    intro q hz hv2
    refine x_ifnonnull (pc := 21) 28 dX5_isAsSaid_21 rfl (fun c_21 => ?_) (fun c_21 => ?_)
    · refine x_iconst (pc := 28) dX5_isAsSaid_28 ?_
      refine x_retv (pc := 29) ⟨dX5_isAsSaid_29, Or.inr ⟨rfl, (by decide)⟩⟩ ?_
      rw [zb_f (fun m => by have := hz.mpr ((okN_75 _ _ _ _).mp m).2; omega)] at hq
      exact hq
    · refine x_iconst (pc := 24) dX5_isAsSaid_24 ?_
      refine x_goto (pc := 25) 29 dX5_isAsSaid_25 rfl ?_
      refine x_retv (pc := 29) ⟨dX5_isAsSaid_29, Or.inr ⟨rfl, (by decide)⟩⟩ ?_
      rw [zb_t ((okN_75 _ _ _ _).mpr ⟨hv2, hz.mp (by omega)⟩)] at hq
      exact hq
  refine x_iload_n (pc := 0) dX5_isAsSaid_0 rfl ?_
  refine x_bipush (pc := 1) dX5_isAsSaid_1 (by decide) ?_
  refine x_icmp_ne (pc := 3) 30 dX5_isAsSaid_3 rfl (fun c_3 => ?_) (fun c_3 => ?_)
  · (try simp (disch := omega) only [zb_e0, zb_n0, w32_id, w64_id, ne_eq, Classical.not_not] at c_3)
    exact absurd trivial c_3
  · (try simp (disch := omega) only [zb_e0, zb_n0, w32_id, w64_id, ne_eq, Classical.not_not] at c_3)
    refine x_iload_n (pc := 6) dX5_isAsSaid_6 rfl ?_
    refine x_callS1 (pc := 7) dX5_isAsSaid_7 (k_RX5_102 _ rfl) tms_X6_isName rfl rfl ?_
    refine c_isName (by omega) ?_
    dsimp only [Option.toList, List.cons_append, List.nil_append]
    refine x_if_eq (pc := 10) 28 dX5_isAsSaid_10 rfl (fun c_10 => ?_) (fun c_10 => ?_)
    · (try simp (disch := omega) only [zb_e0, zb_n0, w32_id, w64_id, ne_eq, Classical.not_not] at c_10)
      refine x_iconst (pc := 28) dX5_isAsSaid_28 ?_
      refine x_retv (pc := 29) ⟨dX5_isAsSaid_29, Or.inr ⟨rfl, (by decide)⟩⟩ ?_
      rw [zb_f (fun m => by have := ((okN_75 _ _ _ _).mp m).1; omega)] at hq
      exact hq
    · (try simp (disch := omega) only [zb_e0, zb_n0, w32_id, w64_id, ne_eq, Classical.not_not] at c_10)
      refine x_aload_n (pc := 13) dX5_isAsSaid_13 rfl ?_
      refine y_getR 4 (pc := 14) dX5_isAsSaid_14 f_RX5_31 (by assumption) rfl ?_
      rw [hk.2.1]
      refine x_iload_n (pc := 17) dX5_isAsSaid_17 rfl ?_
      refine x_callS2 (pc := 18) dX5_isAsSaid_18 (k_RX5_105 _ rfl) tms_X6_kindOf rfl rfl ?_
      have hKz := (hk.1 v (by omega) (by omega)).1
      refine c_kindOf hE (by omega) (fun hz => ?_) (fun hz => ?_)
      · refine F21 (-1) ⟨fun _ => ?_, fun _ => by omega⟩ (by omega)
        by_cases hz2 : kR v l = []
        · exact hz2
        · rw [if_neg hz2] at hKz; omega
      · refine F21 _ ⟨fun q => by have := hE.1; omega, fun q => ?_⟩ (by omega)
        rw [if_pos q] at hKz
        omega

set_option maxHeartbeats 4000000 in
set_option maxRecDepth 100000 in
theorem c_r_said {r e c n v a0 : Int} {l : List Row} (hR : isRT ty r) (hE : isET ty e) (hk : RdK h r e l) (hc : isRowL c) (hc5 : c ≠ 75) (hl : l ≠ []) (hn : 0 ≤ n ∧ n ≤ 2) (hv : i10 v) (ha : n = 0 ∨ (h (r + 2) 0 = a0 ∧ i10 a0 ∧ (c = 69 → a0 ≤ 9))) (hq : Q (some (iV (zb (okN l c n v a0)))) ty sz h) : zXM D mX5_isAsSaid (d + 3) 0 0 [rV r, iV c, iV n, iV v] ty sz h Q := by
  unfold isRowL at hc
  have hR0 := hR
  obtain ⟨r9, r0, r1, r2⟩ := hR
  obtain ⟨h5, hck, hKI, hcn, hB, hne⟩ := hk.cur hl
  have hKT := hE.2.2.2 (ck l) (by omega) (by omega)
  rw [← h5] at hKI hKT
  have hKT0 := hKT
  obtain ⟨k9, k0, k1, k2, k3, k4, k5⟩ := hKT
  have hKI0 := hKI
  obtain ⟨c0, c1, c2, c3, c7, c8, c9, c10, c11, c12, c13, c14⟩ := hKI
  refine x_iload_n (pc := 0) dX5_isAsSaid_0 rfl ?_
  refine x_bipush (pc := 1) dX5_isAsSaid_1 (by decide) ?_
  refine x_icmp_ne (pc := 3) 30 dX5_isAsSaid_3 rfl (fun c_3 => ?_) (fun c_3 => ?_)
  · (try simp (disch := omega) only [zb_e0, zb_n0, w32_id, w64_id, ne_eq, Classical.not_not] at c_3)
    refine x_aload_n (pc := 30) dX5_isAsSaid_30 rfl ?_
    refine y_getR 5 (pc := 31) dX5_isAsSaid_31 f_RX5_35 (by assumption) rfl ?_
    refine x_ifnonnull (pc := 34) 39 dX5_isAsSaid_34 rfl (fun c_34 => ?_) (fun c_34 => ?_)
    · (try simp (disch := omega) only [zb_e0, zb_n0, w32_id, w64_id, ne_eq, Classical.not_not] at c_34)
      refine x_iload_n (pc := 39) dX5_isAsSaid_39 rfl ?_
      refine sw_X5_isAsSaid_40 (fun t_40 => ?_) (fun t_40 => ?_) (fun t_40 => ?_) (fun t_40 => ?_) (fun t_40 => ?_) (fun t_40 => ?_) (fun t_40 => ?_)
      · (try simp (disch := omega) only [zb_e0, zb_n0, w32_id, w64_id, ne_eq, Classical.not_not] at t_40)
        subst t_40
        refine x_aload_n (pc := 200) dX5_isAsSaid_200 rfl ?_
        refine x_iload_n (pc := 201) dX5_isAsSaid_201 rfl ?_
        refine x_iload_n (pc := 202) dX5_isAsSaid_202 rfl ?_
        refine x_callV2 (pc := 203) dX5_isAsSaid_203 (k_RX5_118 _ rfl) tmv_X5_isExcludable (by assumption) rfl rfl rfl ?_
        refine c_r_excl (a0 := a0) hR0 hE hk hl hn hv (by omega) ?_
        dsimp only [Option.toList, List.cons_append, List.nil_append]
        refine x_retv (pc := 206) ⟨dX5_isAsSaid_206, Or.inr ⟨rfl, (zb_01 _)⟩⟩ ?_
        exact hq
      · (try simp (disch := omega) only [zb_e0, zb_n0, w32_id, w64_id, ne_eq, Classical.not_not] at t_40)
        refine x_iload_n (pc := 207) dX5_isAsSaid_207 rfl ?_
        refine x_if_eq (pc := 208) 223 dX5_isAsSaid_208 rfl (fun c_208 => ?_) (fun c_208 => ?_)
        · (try simp (disch := omega) only [zb_e0, zb_n0, w32_id, w64_id, ne_eq, Classical.not_not] at c_208)
          refine x_iconst (pc := 223) dX5_isAsSaid_223 ?_
          refine x_goto (pc := 224) 228 dX5_isAsSaid_224 rfl ?_
          refine x_retv (pc := 228) ⟨dX5_isAsSaid_228, Or.inr ⟨rfl, (by decide)⟩⟩ ?_
          subst t_40
          rw [okN_70] at hq
          first
            | (rw [zb_t (by omega)] at hq; exact hq)
            | (rw [zb_f (by omega)] at hq; exact hq)
        · (try simp (disch := omega) only [zb_e0, zb_n0, w32_id, w64_id, ne_eq, Classical.not_not] at c_208)
          refine x_iload_n (pc := 211) dX5_isAsSaid_211 rfl ?_
          refine x_aload_n (pc := 212) dX5_isAsSaid_212 rfl ?_
          refine x_getF (pc := 213) dX5_isAsSaid_213 f_RX5_15 (by assumption) (by rfl) ?_
          refine x_iconst (pc := 216) dX5_isAsSaid_216 ?_
          refine x_callS2 (pc := 217) dX5_isAsSaid_217 (k_RX5_76 _ rfl) tms_X6_cell rfl rfl ?_
          refine c_cellIn (N := 3) (by omega) (by omega) (by assumption) (by decide) (by omega) (fun b3 => ?_)
          dsimp only [Option.toList, List.cons_append, List.nil_append]
          refine x_icmp_lt (pc := 220) 227 dX5_isAsSaid_220 rfl (fun c_220 => ?_) (fun c_220 => ?_)
          · (try simp (disch := omega) only [zb_e0, zb_n0, w32_id, w64_id, ne_eq, Classical.not_not] at c_220)
            refine x_iconst (pc := 227) dX5_isAsSaid_227 ?_
            refine x_retv (pc := 228) ⟨dX5_isAsSaid_228, Or.inr ⟨rfl, (by decide)⟩⟩ ?_
            subst t_40
            rw [okN_70] at hq
            first
              | (rw [zb_t (by omega)] at hq; exact hq)
              | (rw [zb_f (by omega)] at hq; exact hq)
          · (try simp (disch := omega) only [zb_e0, zb_n0, w32_id, w64_id, ne_eq, Classical.not_not] at c_220)
            refine x_iconst (pc := 223) dX5_isAsSaid_223 ?_
            refine x_goto (pc := 224) 228 dX5_isAsSaid_224 rfl ?_
            refine x_retv (pc := 228) ⟨dX5_isAsSaid_228, Or.inr ⟨rfl, (by decide)⟩⟩ ?_
            subst t_40
            rw [okN_70] at hq
            first
              | (rw [zb_t (by omega)] at hq; exact hq)
              | (rw [zb_f (by omega)] at hq; exact hq)
      · (try simp (disch := omega) only [zb_e0, zb_n0, w32_id, w64_id, ne_eq, Classical.not_not] at t_40)
        refine x_iload_n (pc := 229) dX5_isAsSaid_229 rfl ?_
        refine x_iconst (pc := 230) dX5_isAsSaid_230 ?_
        refine x_sipush (pc := 231) dX5_isAsSaid_231 (by decide) ?_
        refine x_callS3 (pc := 234) dX5_isAsSaid_234 (k_RX5_80 _ rfl) tms_X6_isWithin rfl rfl ?_
        refine c_isWithin (by omega) (by omega) (by omega) ?_
        dsimp only [Option.toList, List.cons_append, List.nil_append]
        refine x_retv (pc := 237) ⟨dX5_isAsSaid_237, Or.inr ⟨rfl, (zb_01 _)⟩⟩ ?_
        subst t_40
        rw [okN_82] at hq
        exact hq
      · (try simp (disch := omega) only [zb_e0, zb_n0, w32_id, w64_id, ne_eq, Classical.not_not] at t_40)
        refine x_iload_n (pc := 100) dX5_isAsSaid_100 rfl ?_
        refine x_if_gt (pc := 101) 115 dX5_isAsSaid_101 rfl (fun c_101 => ?_) (fun c_101 => ?_)
        · (try simp (disch := omega) only [zb_e0, zb_n0, w32_id, w64_id, ne_eq, Classical.not_not] at c_101)
          refine x_iconst (pc := 115) dX5_isAsSaid_115 ?_
          refine x_goto (pc := 116) 120 dX5_isAsSaid_116 rfl ?_
          refine x_retv (pc := 120) ⟨dX5_isAsSaid_120, Or.inr ⟨rfl, (by decide)⟩⟩ ?_
          subst t_40
          rw [okN_83] at hq
          first
            | (rw [zb_t (by omega)] at hq; exact hq)
            | (rw [zb_f (by omega)] at hq; exact hq)
        · (try simp (disch := omega) only [zb_e0, zb_n0, w32_id, w64_id, ne_eq, Classical.not_not] at c_101)
          refine x_iload_n (pc := 104) dX5_isAsSaid_104 rfl ?_
          refine x_aload_n (pc := 105) dX5_isAsSaid_105 rfl ?_
          refine y_getR 5 (pc := 106) dX5_isAsSaid_106 f_RX5_35 (by assumption) rfl ?_
          refine x_callV0 (pc := 109) dX5_isAsSaid_109 (k_RX5_109 _ rfl) tmv_X3_lastWeight (by assumption) rfl rfl rfl ?_
          refine c_k_lastWeight hKT0 (by have := hcn.1; omega) (fun bw => ?_)
          rw [← lastW_eq hKI0] at bw ⊢
          dsimp only [Option.toList, List.cons_append, List.nil_append]
          refine x_icmp_le (pc := 112) 119 dX5_isAsSaid_112 rfl (fun c_112 => ?_) (fun c_112 => ?_)
          · (try simp (disch := omega) only [zb_e0, zb_n0, w32_id, w64_id, ne_eq, Classical.not_not] at c_112)
            refine x_iconst (pc := 119) dX5_isAsSaid_119 ?_
            refine x_retv (pc := 120) ⟨dX5_isAsSaid_120, Or.inr ⟨rfl, (by decide)⟩⟩ ?_
            subst t_40
            rw [okN_83] at hq
            first
              | (rw [zb_t (by omega)] at hq; exact hq)
              | (rw [zb_f (by omega)] at hq; exact hq)
          · (try simp (disch := omega) only [zb_e0, zb_n0, w32_id, w64_id, ne_eq, Classical.not_not] at c_112)
            refine x_iconst (pc := 115) dX5_isAsSaid_115 ?_
            refine x_goto (pc := 116) 120 dX5_isAsSaid_116 rfl ?_
            refine x_retv (pc := 120) ⟨dX5_isAsSaid_120, Or.inr ⟨rfl, (by decide)⟩⟩ ?_
            subst t_40
            rw [okN_83] at hq
            first
              | (rw [zb_t (by omega)] at hq; exact hq)
              | (rw [zb_f (by omega)] at hq; exact hq)
      · (try simp (disch := omega) only [zb_e0, zb_n0, w32_id, w64_id, ne_eq, Classical.not_not] at t_40)
        refine x_iload_n (pc := 168) dX5_isAsSaid_168 rfl ?_
        refine x_if_gt (pc := 169) 194 dX5_isAsSaid_169 rfl (fun c_169 => ?_) (fun c_169 => ?_)
        · (try simp (disch := omega) only [zb_e0, zb_n0, w32_id, w64_id, ne_eq, Classical.not_not] at c_169)
          refine x_iconst (pc := 194) dX5_isAsSaid_194 ?_
          refine x_goto (pc := 195) 199 dX5_isAsSaid_195 rfl ?_
          refine x_retv (pc := 199) ⟨dX5_isAsSaid_199, Or.inr ⟨rfl, (by decide)⟩⟩ ?_
          subst t_40
          first
            | (rw [okN_88, zb_f (by omega)] at hq; exact hq)
            | (rw [okN_88, zb_t (by omega)] at hq; exact hq)
            | (rw [okN_88, ← (c3 v (by omega) (by omega)).2.1] at hq; first | (rw [zb_f (by omega)] at hq; exact hq) | (rw [zb_t (by omega)] at hq; exact hq))
        · (try simp (disch := omega) only [zb_e0, zb_n0, w32_id, w64_id, ne_eq, Classical.not_not] at c_169)
          refine x_iload_n (pc := 172) dX5_isAsSaid_172 rfl ?_
          refine x_callS1 (pc := 173) dX5_isAsSaid_173 (k_RX5_102 _ rfl) tms_X6_isName rfl rfl ?_
          refine c_isName (by omega) ?_
          dsimp only [Option.toList, List.cons_append, List.nil_append]
          refine x_if_eq (pc := 176) 198 dX5_isAsSaid_176 rfl (fun c_176 => ?_) (fun c_176 => ?_)
          · (try simp (disch := omega) only [zb_e0, zb_n0, w32_id, w64_id, ne_eq, Classical.not_not] at c_176)
            refine x_iconst (pc := 198) dX5_isAsSaid_198 ?_
            refine x_retv (pc := 199) ⟨dX5_isAsSaid_199, Or.inr ⟨rfl, (by decide)⟩⟩ ?_
            subst t_40
            first
              | (rw [okN_88, zb_f (by omega)] at hq; exact hq)
              | (rw [okN_88, zb_t (by omega)] at hq; exact hq)
              | (rw [okN_88, ← (c3 v (by omega) (by omega)).2.1] at hq; first | (rw [zb_f (by omega)] at hq; exact hq) | (rw [zb_t (by omega)] at hq; exact hq))
          · (try simp (disch := omega) only [zb_e0, zb_n0, w32_id, w64_id, ne_eq, Classical.not_not] at c_176)
            refine x_aload_n (pc := 179) dX5_isAsSaid_179 rfl ?_
            refine y_getR 5 (pc := 180) dX5_isAsSaid_180 f_RX5_35 (by assumption) rfl ?_
            refine x_getF (pc := 183) dX5_isAsSaid_183 f_RX5_115 (by assumption) (by rfl) ?_
            refine x_iload_n (pc := 186) dX5_isAsSaid_186 rfl ?_
            refine x_callS2 (pc := 187) dX5_isAsSaid_187 (k_RX5_76 _ rfl) tms_X6_cell rfl rfl ?_
            refine c_cellIn (N := 10) (by omega) (by omega) (by assumption) (by decide) (by omega) (fun bb => ?_)
            dsimp only [Option.toList, List.cons_append, List.nil_append]
            refine x_iconst (pc := 190) dX5_isAsSaid_190 ?_
            refine x_icmp_ne (pc := 191) 198 dX5_isAsSaid_191 rfl (fun c_191 => ?_) (fun c_191 => ?_)
            · (try simp (disch := omega) only [zb_e0, zb_n0, w32_id, w64_id, ne_eq, Classical.not_not] at c_191)
              refine x_iconst (pc := 198) dX5_isAsSaid_198 ?_
              refine x_retv (pc := 199) ⟨dX5_isAsSaid_199, Or.inr ⟨rfl, (by decide)⟩⟩ ?_
              subst t_40
              first
                | (rw [okN_88, zb_f (by omega)] at hq; exact hq)
                | (rw [okN_88, zb_t (by omega)] at hq; exact hq)
                | (rw [okN_88, ← (c3 v (by omega) (by omega)).2.1] at hq; first | (rw [zb_f (by omega)] at hq; exact hq) | (rw [zb_t (by omega)] at hq; exact hq))
            · (try simp (disch := omega) only [zb_e0, zb_n0, w32_id, w64_id, ne_eq, Classical.not_not] at c_191)
              refine x_iconst (pc := 194) dX5_isAsSaid_194 ?_
              refine x_goto (pc := 195) 199 dX5_isAsSaid_195 rfl ?_
              refine x_retv (pc := 199) ⟨dX5_isAsSaid_199, Or.inr ⟨rfl, (by decide)⟩⟩ ?_
              subst t_40
              first
                | (rw [okN_88, zb_f (by omega)] at hq; exact hq)
                | (rw [okN_88, zb_t (by omega)] at hq; exact hq)
                | (rw [okN_88, ← (c3 v (by omega) (by omega)).2.1] at hq; first | (rw [zb_f (by omega)] at hq; exact hq) | (rw [zb_t (by omega)] at hq; exact hq))
      · (try simp (disch := omega) only [zb_e0, zb_n0, w32_id, w64_id, ne_eq, Classical.not_not] at t_40)
        refine x_iload_n (pc := 121) dX5_isAsSaid_121 rfl ?_
        refine x_if_le (pc := 122) 140 dX5_isAsSaid_122 rfl (fun c_122 => ?_) (fun c_122 => ?_)
        · (try simp (disch := omega) only [zb_e0, zb_n0, w32_id, w64_id, ne_eq, Classical.not_not] at c_122)
          refine x_iload_n (pc := 140) dX5_isAsSaid_140 rfl ?_
          refine x_callS1 (pc := 141) dX5_isAsSaid_141 (k_RX5_102 _ rfl) tms_X6_isName rfl rfl ?_
          refine c_isName (by omega) ?_
          dsimp only [Option.toList, List.cons_append, List.nil_append]
          refine x_if_eq (pc := 144) 166 dX5_isAsSaid_144 rfl (fun c_144 => ?_) (fun c_144 => ?_)
          · (try simp (disch := omega) only [zb_e0, zb_n0, w32_id, w64_id, ne_eq, Classical.not_not] at c_144)
            refine x_iconst (pc := 166) dX5_isAsSaid_166 ?_
            refine x_retv (pc := 167) ⟨dX5_isAsSaid_167, Or.inr ⟨rfl, (by decide)⟩⟩ ?_
            subst t_40
            first
              | (rw [okN_90, zb_f (by omega)] at hq; exact hq)
              | (rw [okN_90, zb_t (by omega)] at hq; exact hq)
              | (rw [okN_90, ← (c3 v (by omega) (by omega)).1] at hq; first | (rw [zb_f (by omega)] at hq; exact hq) | (rw [zb_t (by omega)] at hq; exact hq))
          · (try simp (disch := omega) only [zb_e0, zb_n0, w32_id, w64_id, ne_eq, Classical.not_not] at c_144)
            refine x_aload_n (pc := 147) dX5_isAsSaid_147 rfl ?_
            refine y_getR 5 (pc := 148) dX5_isAsSaid_148 f_RX5_35 (by assumption) rfl ?_
            refine x_getF (pc := 151) dX5_isAsSaid_151 f_RX5_112 (by assumption) (by rfl) ?_
            refine x_iload_n (pc := 154) dX5_isAsSaid_154 rfl ?_
            refine x_callS2 (pc := 155) dX5_isAsSaid_155 (k_RX5_76 _ rfl) tms_X6_cell rfl rfl ?_
            refine c_cellIn (N := 10) (by omega) (by omega) (by assumption) (by decide) (by omega) (fun bb => ?_)
            dsimp only [Option.toList, List.cons_append, List.nil_append]
            refine x_iconst (pc := 158) dX5_isAsSaid_158 ?_
            refine x_icmp_ne (pc := 159) 166 dX5_isAsSaid_159 rfl (fun c_159 => ?_) (fun c_159 => ?_)
            · (try simp (disch := omega) only [zb_e0, zb_n0, w32_id, w64_id, ne_eq, Classical.not_not] at c_159)
              refine x_iconst (pc := 166) dX5_isAsSaid_166 ?_
              refine x_retv (pc := 167) ⟨dX5_isAsSaid_167, Or.inr ⟨rfl, (by decide)⟩⟩ ?_
              subst t_40
              first
                | (rw [okN_90, zb_f (by omega)] at hq; exact hq)
                | (rw [okN_90, zb_t (by omega)] at hq; exact hq)
                | (rw [okN_90, ← (c3 v (by omega) (by omega)).1] at hq; first | (rw [zb_f (by omega)] at hq; exact hq) | (rw [zb_t (by omega)] at hq; exact hq))
            · (try simp (disch := omega) only [zb_e0, zb_n0, w32_id, w64_id, ne_eq, Classical.not_not] at c_159)
              refine x_iconst (pc := 162) dX5_isAsSaid_162 ?_
              refine x_goto (pc := 163) 167 dX5_isAsSaid_163 rfl ?_
              refine x_retv (pc := 167) ⟨dX5_isAsSaid_167, Or.inr ⟨rfl, (by decide)⟩⟩ ?_
              subst t_40
              first
                | (rw [okN_90, zb_f (by omega)] at hq; exact hq)
                | (rw [okN_90, zb_t (by omega)] at hq; exact hq)
                | (rw [okN_90, ← (c3 v (by omega) (by omega)).1] at hq; first | (rw [zb_f (by omega)] at hq; exact hq) | (rw [zb_t (by omega)] at hq; exact hq))
        · (try simp (disch := omega) only [zb_e0, zb_n0, w32_id, w64_id, ne_eq, Classical.not_not] at c_122)
          refine x_iload_n (pc := 125) dX5_isAsSaid_125 rfl ?_
          refine x_sipush (pc := 126) dX5_isAsSaid_126 (by decide) ?_
          refine x_icmp_gt (pc := 129) 136 dX5_isAsSaid_129 rfl (fun c_129 => ?_) (fun c_129 => ?_)
          · (try simp (disch := omega) only [zb_e0, zb_n0, w32_id, w64_id, ne_eq, Classical.not_not] at c_129)
            refine x_iconst (pc := 136) dX5_isAsSaid_136 ?_
            refine x_goto (pc := 137) 167 dX5_isAsSaid_137 rfl ?_
            refine x_retv (pc := 167) ⟨dX5_isAsSaid_167, Or.inr ⟨rfl, (by decide)⟩⟩ ?_
            subst t_40
            first
              | (rw [okN_90, zb_f (by omega)] at hq; exact hq)
              | (rw [okN_90, zb_t (by omega)] at hq; exact hq)
              | (rw [okN_90, ← (c3 v (by omega) (by omega)).1] at hq; first | (rw [zb_f (by omega)] at hq; exact hq) | (rw [zb_t (by omega)] at hq; exact hq))
          · (try simp (disch := omega) only [zb_e0, zb_n0, w32_id, w64_id, ne_eq, Classical.not_not] at c_129)
            refine x_iconst (pc := 132) dX5_isAsSaid_132 ?_
            refine x_goto (pc := 133) 167 dX5_isAsSaid_133 rfl ?_
            refine x_retv (pc := 167) ⟨dX5_isAsSaid_167, Or.inr ⟨rfl, (by decide)⟩⟩ ?_
            subst t_40
            first
              | (rw [okN_90, zb_f (by omega)] at hq; exact hq)
              | (rw [okN_90, zb_t (by omega)] at hq; exact hq)
              | (rw [okN_90, ← (c3 v (by omega) (by omega)).1] at hq; first | (rw [zb_f (by omega)] at hq; exact hq) | (rw [zb_t (by omega)] at hq; exact hq))
      · (try simp (disch := omega) only [zb_e0, zb_n0, w32_id, w64_id, ne_eq, Classical.not_not] at t_40)
        refine x_iload_n (pc := 238) dX5_isAsSaid_238 rfl ?_
        refine x_iconst (pc := 239) dX5_isAsSaid_239 ?_
        refine x_icmp_lt (pc := 240) 247 dX5_isAsSaid_240 rfl (fun c_240 => ?_) (fun c_240 => ?_)
        · (try simp (disch := omega) only [zb_e0, zb_n0, w32_id, w64_id, ne_eq, Classical.not_not] at c_240)
          refine x_iconst (pc := 247) dX5_isAsSaid_247 ?_
          refine x_retv (pc := 248) ⟨dX5_isAsSaid_248, Or.inr ⟨rfl, (by decide)⟩⟩ ?_
          rw [okN_d l n v a0 (by omega)] at hq
          first
            | (rw [zb_t (by omega)] at hq; exact hq)
            | (rw [zb_f (by omega)] at hq; exact hq)
        · (try simp (disch := omega) only [zb_e0, zb_n0, w32_id, w64_id, ne_eq, Classical.not_not] at c_240)
          refine x_iconst (pc := 243) dX5_isAsSaid_243 ?_
          refine x_goto (pc := 244) 248 dX5_isAsSaid_244 rfl ?_
          refine x_retv (pc := 248) ⟨dX5_isAsSaid_248, Or.inr ⟨rfl, (by decide)⟩⟩ ?_
          rw [okN_d l n v a0 (by omega)] at hq
          first
            | (rw [zb_t (by omega)] at hq; exact hq)
            | (rw [zb_f (by omega)] at hq; exact hq)
    · (try simp (disch := omega) only [zb_e0, zb_n0, w32_id, w64_id, ne_eq, Classical.not_not] at c_34)
      omega
  · (try simp (disch := omega) only [zb_e0, zb_n0, w32_id, w64_id, ne_eq, Classical.not_not] at c_3)
    omega

end C11
