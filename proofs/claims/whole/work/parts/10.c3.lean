section C3
variable {D : va_G} {d : Nat} {ty : zT} {sz : Nat} {h : zH} {Q : zQ}
set_option maxHeartbeats 4000000 in
set_option maxRecDepth 100000 in
theorem c_k_tk81 {a it zone day : Int} (hK : isKT ty a) (hI : isIT ty it) (hz : 0 ≤ zone ∧ zone ≤ 9) (hd : 0 ≤ day ∧ day ≤ 9999999) (hq : Q (some (iV (zb (kTakes h a it zone day)))) ty sz h) : zX D mX3_takes (d + 2) 0 0 81 [(5, iV (zb (h a 12 = -1 ∨ (h a 12 ≤ day ∧ day ≤ h a 13)))), (0, rV a), (1, rV it), (2, iV zone), (3, lV day)] [iV (zb (h a 8 = -1 ∨ (h it 2 ≤ h a 8 ∧ h it 3 ≤ h a 9 ∧ h it 4 ≤ h a 10)))] ty sz h Q := by
  have hK0 := hK
  have hI0 := hI
  obtain ⟨k9, k0, k1, k2, k3, k4, k5⟩ := hK
  obtain ⟨i9, i0⟩ := hI
  refine x_istore (pc := 81) dX3_takes_81 (by decide) ?_
  refine x_iload (pc := 83) dX3_takes_83 rfl ?_
  refine x_if_eq (pc := 85) 117 dX3_takes_85 rfl (fun c_85 => ?_) (fun c_85 => ?_)
  · (try simp (disch := omega) only [zb_e0, zb_n0, w32_id, w64_id, ne_eq, Classical.not_not] at c_85)
    refine x_iconst (pc := 117) dX3_takes_117 ?_
    refine x_retv (pc := 118) ⟨dX3_takes_118, Or.inr ⟨rfl, (by decide)⟩⟩ ?_
    first
      | (rw [zb_f (p := kTakes h a it zone day) (fun q => c_85 q.1)] at hq; exact hq)
      | (rw [zb_f (p := kTakes h a it zone day) (fun q => c_90 q.2.1)] at hq; exact hq)
      | (rw [zb_f (p := kTakes h a it zone day) (fun q => q.2.2.1 c_102)] at hq; exact hq)
      | (rw [zb_f (p := kTakes h a it zone day) (fun q => c_110 q.2.2.2)] at hq; exact hq)
      | (rw [zb_t (p := kTakes h a it zone day) ⟨c_85, c_90, c_102, c_110⟩] at hq; exact hq)
  · (try simp (disch := omega) only [zb_e0, zb_n0, w32_id, w64_id, ne_eq, Classical.not_not] at c_85)
    refine x_iload (pc := 88) dX3_takes_88 rfl ?_
    refine x_if_eq (pc := 90) 117 dX3_takes_90 rfl (fun c_90 => ?_) (fun c_90 => ?_)
    · (try simp (disch := omega) only [zb_e0, zb_n0, w32_id, w64_id, ne_eq, Classical.not_not] at c_90)
      refine x_iconst (pc := 117) dX3_takes_117 ?_
      refine x_retv (pc := 118) ⟨dX3_takes_118, Or.inr ⟨rfl, (by decide)⟩⟩ ?_
      first
        | (rw [zb_f (p := kTakes h a it zone day) (fun q => c_85 q.1)] at hq; exact hq)
        | (rw [zb_f (p := kTakes h a it zone day) (fun q => c_90 q.2.1)] at hq; exact hq)
        | (rw [zb_f (p := kTakes h a it zone day) (fun q => q.2.2.1 c_102)] at hq; exact hq)
        | (rw [zb_f (p := kTakes h a it zone day) (fun q => c_110 q.2.2.2)] at hq; exact hq)
        | (rw [zb_t (p := kTakes h a it zone day) ⟨c_85, c_90, c_102, c_110⟩] at hq; exact hq)
    · (try simp (disch := omega) only [zb_e0, zb_n0, w32_id, w64_id, ne_eq, Classical.not_not] at c_90)
      refine x_aload_n (pc := 93) dX3_takes_93 rfl ?_
      refine x_getF (pc := 94) dX3_takes_94 f_RX3_18 (by assumption) (by rfl) ?_
      refine x_iload_n (pc := 97) dX3_takes_97 rfl ?_
      refine x_callS2 (pc := 98) dX3_takes_98 (k_RX3_67 _ rfl) tms_X6_cell rfl rfl ?_
      refine c_cellIn (N := 10) (by omega) (by omega) (by assumption) (by decide) (by omega) (fun bb => ?_)
      dsimp only [Option.toList, List.cons_append, List.nil_append]
      refine x_iconst (pc := 101) dX3_takes_101 ?_
      refine x_icmp_eq (pc := 102) 117 dX3_takes_102 rfl (fun c_102 => ?_) (fun c_102 => ?_)
      · (try simp (disch := omega) only [zb_e0, zb_n0, w32_id, w64_id, ne_eq, Classical.not_not] at c_102)
        refine x_iconst (pc := 117) dX3_takes_117 ?_
        refine x_retv (pc := 118) ⟨dX3_takes_118, Or.inr ⟨rfl, (by decide)⟩⟩ ?_
        first
          | (rw [zb_f (p := kTakes h a it zone day) (fun q => c_85 q.1)] at hq; exact hq)
          | (rw [zb_f (p := kTakes h a it zone day) (fun q => c_90 q.2.1)] at hq; exact hq)
          | (rw [zb_f (p := kTakes h a it zone day) (fun q => q.2.2.1 c_102)] at hq; exact hq)
          | (rw [zb_f (p := kTakes h a it zone day) (fun q => c_110 q.2.2.2)] at hq; exact hq)
          | (rw [zb_t (p := kTakes h a it zone day) ⟨c_85, c_90, c_102, c_110⟩] at hq; exact hq)
      · (try simp (disch := omega) only [zb_e0, zb_n0, w32_id, w64_id, ne_eq, Classical.not_not] at c_102)
        refine x_aload_n (pc := 105) dX3_takes_105 rfl ?_
        refine x_aload_n (pc := 106) dX3_takes_106 rfl ?_
        refine x_callV1 (pc := 107) dX3_takes_107 (k_RX3_76 _ rfl) tmv_X3_takesServices (by assumption) rfl rfl rfl ?_
        refine c_k_takesServices hK0 hI0 ?_
        dsimp only [Option.toList, List.cons_append, List.nil_append]
        refine x_if_eq (pc := 110) 117 dX3_takes_110 rfl (fun c_110 => ?_) (fun c_110 => ?_)
        · (try simp (disch := omega) only [zb_e0, zb_n0, w32_id, w64_id, ne_eq, Classical.not_not] at c_110)
          refine x_iconst (pc := 117) dX3_takes_117 ?_
          refine x_retv (pc := 118) ⟨dX3_takes_118, Or.inr ⟨rfl, (by decide)⟩⟩ ?_
          first
            | (rw [zb_f (p := kTakes h a it zone day) (fun q => c_85 q.1)] at hq; exact hq)
            | (rw [zb_f (p := kTakes h a it zone day) (fun q => c_90 q.2.1)] at hq; exact hq)
            | (rw [zb_f (p := kTakes h a it zone day) (fun q => q.2.2.1 c_102)] at hq; exact hq)
            | (rw [zb_f (p := kTakes h a it zone day) (fun q => c_110 q.2.2.2)] at hq; exact hq)
            | (rw [zb_t (p := kTakes h a it zone day) ⟨c_85, c_90, c_102, c_110⟩] at hq; exact hq)
        · (try simp (disch := omega) only [zb_e0, zb_n0, w32_id, w64_id, ne_eq, Classical.not_not] at c_110)
          refine x_iconst (pc := 113) dX3_takes_113 ?_
          refine x_goto (pc := 114) 118 dX3_takes_114 rfl ?_
          refine x_retv (pc := 118) ⟨dX3_takes_118, Or.inr ⟨rfl, (by decide)⟩⟩ ?_
          first
            | (rw [zb_f (p := kTakes h a it zone day) (fun q => c_85 q.1)] at hq; exact hq)
            | (rw [zb_f (p := kTakes h a it zone day) (fun q => c_90 q.2.1)] at hq; exact hq)
            | (rw [zb_f (p := kTakes h a it zone day) (fun q => q.2.2.1 c_102)] at hq; exact hq)
            | (rw [zb_f (p := kTakes h a it zone day) (fun q => c_110 q.2.2.2)] at hq; exact hq)
            | (rw [zb_t (p := kTakes h a it zone day) ⟨c_85, c_90, c_102, c_110⟩] at hq; exact hq)

set_option maxHeartbeats 4000000 in
set_option maxRecDepth 100000 in
theorem c_k_tk33 {a it zone day : Int} (hK : isKT ty a) (hI : isIT ty it) (hz : 0 ≤ zone ∧ zone ≤ 9) (hd : 0 ≤ day ∧ day ≤ 9999999) (hq : Q (some (iV (zb (kTakes h a it zone day)))) ty sz h) : zX D mX3_takes (d + 2) 0 0 33 [(0, rV a), (1, rV it), (2, iV zone), (3, lV day)] [iV (zb (h a 12 = -1 ∨ (h a 12 ≤ day ∧ day ≤ h a 13)))] ty sz h Q := by
  have T := c_k_tk81 (D := D) (d := d) hK hI hz hd hq
  have hK0 := hK
  have hI0 := hI
  obtain ⟨k9, k0, k1, k2, k3, k4, k5⟩ := hK
  obtain ⟨i9, i0⟩ := hI
  refine x_istore (pc := 33) dX3_takes_33 (by decide) ?_
  refine x_aload_n (pc := 35) dX3_takes_35 rfl ?_
  refine y_getI 8 (pc := 36) dX3_takes_36 f_RX3_42 (by assumption) rfl (fun b_36 => ?_)
  refine x_iconst (pc := 39) dX3_takes_39 ?_
  refine x_icmp_eq (pc := 40) 76 dX3_takes_40 rfl (fun c_40 => ?_) (fun c_40 => ?_)
  · (try simp (disch := omega) only [zb_e0, zb_n0, w32_id, w64_id, ne_eq, Classical.not_not] at c_40)
    refine x_iconst (pc := 76) dX3_takes_76 ?_
    refine x_goto (pc := 77) 81 dX3_takes_77 rfl ?_
    refine x_loc [(5, iV (zb (h a 12 = -1 ∨ (h a 12 ≤ day ∧ day ≤ h a 13)))), (0, rV a), (1, rV it), (2, iV zone), (3, lV day)] ⟨rfl, rfl, rfl, rfl, rfl, trivial⟩ ?_
    first | (rw [zb_t (p := (h a 8 = -1 ∨ (h it 2 ≤ h a 8 ∧ h it 3 ≤ h a 9 ∧ h it 4 ≤ h a 10))) (by omega)] at T; exact T) | (rw [zb_f (p := (h a 8 = -1 ∨ (h it 2 ≤ h a 8 ∧ h it 3 ≤ h a 9 ∧ h it 4 ≤ h a 10))) (by omega)] at T; exact T)
  · (try simp (disch := omega) only [zb_e0, zb_n0, w32_id, w64_id, ne_eq, Classical.not_not] at c_40)
    refine x_aload_n (pc := 43) dX3_takes_43 rfl ?_
    refine y_getI 2 (pc := 44) dX3_takes_44 f_RX3_71 (by assumption) rfl (fun b_44 => ?_)
    refine x_aload_n (pc := 47) dX3_takes_47 rfl ?_
    refine y_getI 8 (pc := 48) dX3_takes_48 f_RX3_42 (by assumption) rfl (fun b_48 => ?_)
    refine x_icmp_gt (pc := 51) 80 dX3_takes_51 rfl (fun c_51 => ?_) (fun c_51 => ?_)
    · (try simp (disch := omega) only [zb_e0, zb_n0, w32_id, w64_id, ne_eq, Classical.not_not] at c_51)
      refine x_iconst (pc := 80) dX3_takes_80 ?_
      refine x_loc [(5, iV (zb (h a 12 = -1 ∨ (h a 12 ≤ day ∧ day ≤ h a 13)))), (0, rV a), (1, rV it), (2, iV zone), (3, lV day)] ⟨rfl, rfl, rfl, rfl, rfl, trivial⟩ ?_
      first | (rw [zb_t (p := (h a 8 = -1 ∨ (h it 2 ≤ h a 8 ∧ h it 3 ≤ h a 9 ∧ h it 4 ≤ h a 10))) (by omega)] at T; exact T) | (rw [zb_f (p := (h a 8 = -1 ∨ (h it 2 ≤ h a 8 ∧ h it 3 ≤ h a 9 ∧ h it 4 ≤ h a 10))) (by omega)] at T; exact T)
    · (try simp (disch := omega) only [zb_e0, zb_n0, w32_id, w64_id, ne_eq, Classical.not_not] at c_51)
      refine x_aload_n (pc := 54) dX3_takes_54 rfl ?_
      refine y_getI 3 (pc := 55) dX3_takes_55 f_RX3_74 (by assumption) rfl (fun b_55 => ?_)
      refine x_aload_n (pc := 58) dX3_takes_58 rfl ?_
      refine y_getI 9 (pc := 59) dX3_takes_59 f_RX3_45 (by assumption) rfl (fun b_59 => ?_)
      refine x_icmp_gt (pc := 62) 80 dX3_takes_62 rfl (fun c_62 => ?_) (fun c_62 => ?_)
      · (try simp (disch := omega) only [zb_e0, zb_n0, w32_id, w64_id, ne_eq, Classical.not_not] at c_62)
        refine x_iconst (pc := 80) dX3_takes_80 ?_
        refine x_loc [(5, iV (zb (h a 12 = -1 ∨ (h a 12 ≤ day ∧ day ≤ h a 13)))), (0, rV a), (1, rV it), (2, iV zone), (3, lV day)] ⟨rfl, rfl, rfl, rfl, rfl, trivial⟩ ?_
        first | (rw [zb_t (p := (h a 8 = -1 ∨ (h it 2 ≤ h a 8 ∧ h it 3 ≤ h a 9 ∧ h it 4 ≤ h a 10))) (by omega)] at T; exact T) | (rw [zb_f (p := (h a 8 = -1 ∨ (h it 2 ≤ h a 8 ∧ h it 3 ≤ h a 9 ∧ h it 4 ≤ h a 10))) (by omega)] at T; exact T)
      · (try simp (disch := omega) only [zb_e0, zb_n0, w32_id, w64_id, ne_eq, Classical.not_not] at c_62)
        refine x_aload_n (pc := 65) dX3_takes_65 rfl ?_
        refine y_getI 4 (pc := 66) dX3_takes_66 f_RX3_75 (by assumption) rfl (fun b_66 => ?_)
        refine x_aload_n (pc := 69) dX3_takes_69 rfl ?_
        refine y_getI 10 (pc := 70) dX3_takes_70 f_RX3_48 (by assumption) rfl (fun b_70 => ?_)
        refine x_icmp_gt (pc := 73) 80 dX3_takes_73 rfl (fun c_73 => ?_) (fun c_73 => ?_)
        · (try simp (disch := omega) only [zb_e0, zb_n0, w32_id, w64_id, ne_eq, Classical.not_not] at c_73)
          refine x_iconst (pc := 80) dX3_takes_80 ?_
          refine x_loc [(5, iV (zb (h a 12 = -1 ∨ (h a 12 ≤ day ∧ day ≤ h a 13)))), (0, rV a), (1, rV it), (2, iV zone), (3, lV day)] ⟨rfl, rfl, rfl, rfl, rfl, trivial⟩ ?_
          first | (rw [zb_t (p := (h a 8 = -1 ∨ (h it 2 ≤ h a 8 ∧ h it 3 ≤ h a 9 ∧ h it 4 ≤ h a 10))) (by omega)] at T; exact T) | (rw [zb_f (p := (h a 8 = -1 ∨ (h it 2 ≤ h a 8 ∧ h it 3 ≤ h a 9 ∧ h it 4 ≤ h a 10))) (by omega)] at T; exact T)
        · (try simp (disch := omega) only [zb_e0, zb_n0, w32_id, w64_id, ne_eq, Classical.not_not] at c_73)
          refine x_iconst (pc := 76) dX3_takes_76 ?_
          refine x_goto (pc := 77) 81 dX3_takes_77 rfl ?_
          refine x_loc [(5, iV (zb (h a 12 = -1 ∨ (h a 12 ≤ day ∧ day ≤ h a 13)))), (0, rV a), (1, rV it), (2, iV zone), (3, lV day)] ⟨rfl, rfl, rfl, rfl, rfl, trivial⟩ ?_
          first | (rw [zb_t (p := (h a 8 = -1 ∨ (h it 2 ≤ h a 8 ∧ h it 3 ≤ h a 9 ∧ h it 4 ≤ h a 10))) (by omega)] at T; exact T) | (rw [zb_f (p := (h a 8 = -1 ∨ (h it 2 ≤ h a 8 ∧ h it 3 ≤ h a 9 ∧ h it 4 ≤ h a 10))) (by omega)] at T; exact T)

set_option maxHeartbeats 4000000 in
set_option maxRecDepth 100000 in
theorem c_k_takes {a it zone day : Int} (hK : isKT ty a) (hI : isIT ty it) (hz : 0 ≤ zone ∧ zone ≤ 9) (hd : 0 ≤ day ∧ day ≤ 9999999) (hq : Q (some (iV (zb (kTakes h a it zone day)))) ty sz h) : zXM D mX3_takes (d + 2) 0 0 [rV a, rV it, iV zone, lV day] ty sz h Q := by
  have T := c_k_tk33 (D := D) (d := d) hK hI hz hd hq
  have hK0 := hK
  have hI0 := hI
  obtain ⟨k9, k0, k1, k2, k3, k4, k5⟩ := hK
  obtain ⟨i9, i0⟩ := hI
  refine x_aload_n (pc := 0) dX3_takes_0 rfl ?_
  refine y_getI 12 (pc := 1) dX3_takes_1 f_RX3_54 (by assumption) rfl (fun b_1 => ?_)
  refine x_iconst (pc := 4) dX3_takes_4 ?_
  refine x_icmp_eq (pc := 5) 28 dX3_takes_5 rfl (fun c_5 => ?_) (fun c_5 => ?_)
  · (try simp (disch := omega) only [zb_e0, zb_n0, w32_id, w64_id, ne_eq, Classical.not_not] at c_5)
    refine x_iconst (pc := 28) dX3_takes_28 ?_
    refine x_goto (pc := 29) 33 dX3_takes_29 rfl ?_
    refine x_loc [(0, rV a), (1, rV it), (2, iV zone), (3, lV day)] ⟨rfl, rfl, rfl, rfl, trivial⟩ ?_
    first | (rw [zb_t (p := (h a 12 = -1 ∨ (h a 12 ≤ day ∧ day ≤ h a 13))) (by omega)] at T; exact T) | (rw [zb_f (p := (h a 12 = -1 ∨ (h a 12 ≤ day ∧ day ≤ h a 13))) (by omega)] at T; exact T)
  · (try simp (disch := omega) only [zb_e0, zb_n0, w32_id, w64_id, ne_eq, Classical.not_not] at c_5)
    refine x_lload_n (pc := 8) dX3_takes_8 rfl ?_
    refine x_aload_n (pc := 9) dX3_takes_9 rfl ?_
    refine y_getI 12 (pc := 10) dX3_takes_10 f_RX3_54 (by assumption) rfl (fun b_10 => ?_)
    refine x_i2l (pc := 13) dX3_takes_13 ?_
    refine x_lcmp_lt (pc := 14) 32 dX3_takes_14 dX3_takes_15 rfl (fun c_14 => ?_) (fun c_14 => ?_)
    · (try simp (disch := omega) only [zb_e0, zb_n0, w32_id, w64_id, ne_eq, Classical.not_not] at c_14)
      refine x_iconst (pc := 32) dX3_takes_32 ?_
      refine x_loc [(0, rV a), (1, rV it), (2, iV zone), (3, lV day)] ⟨rfl, rfl, rfl, rfl, trivial⟩ ?_
      first | (rw [zb_t (p := (h a 12 = -1 ∨ (h a 12 ≤ day ∧ day ≤ h a 13))) (by omega)] at T; exact T) | (rw [zb_f (p := (h a 12 = -1 ∨ (h a 12 ≤ day ∧ day ≤ h a 13))) (by omega)] at T; exact T)
    · (try simp (disch := omega) only [zb_e0, zb_n0, w32_id, w64_id, ne_eq, Classical.not_not] at c_14)
      refine x_lload_n (pc := 18) dX3_takes_18 rfl ?_
      refine x_aload_n (pc := 19) dX3_takes_19 rfl ?_
      refine y_getI 13 (pc := 20) dX3_takes_20 f_RX3_57 (by assumption) rfl (fun b_20 => ?_)
      refine x_i2l (pc := 23) dX3_takes_23 ?_
      refine x_lcmp_gt (pc := 24) 32 dX3_takes_24 dX3_takes_25 rfl (fun c_24 => ?_) (fun c_24 => ?_)
      · (try simp (disch := omega) only [zb_e0, zb_n0, w32_id, w64_id, ne_eq, Classical.not_not] at c_24)
        refine x_iconst (pc := 32) dX3_takes_32 ?_
        refine x_loc [(0, rV a), (1, rV it), (2, iV zone), (3, lV day)] ⟨rfl, rfl, rfl, rfl, trivial⟩ ?_
        first | (rw [zb_t (p := (h a 12 = -1 ∨ (h a 12 ≤ day ∧ day ≤ h a 13))) (by omega)] at T; exact T) | (rw [zb_f (p := (h a 12 = -1 ∨ (h a 12 ≤ day ∧ day ≤ h a 13))) (by omega)] at T; exact T)
      · (try simp (disch := omega) only [zb_e0, zb_n0, w32_id, w64_id, ne_eq, Classical.not_not] at c_24)
        refine x_iconst (pc := 28) dX3_takes_28 ?_
        refine x_goto (pc := 29) 33 dX3_takes_29 rfl ?_
        refine x_loc [(0, rV a), (1, rV it), (2, iV zone), (3, lV day)] ⟨rfl, rfl, rfl, rfl, trivial⟩ ?_
        first | (rw [zb_t (p := (h a 12 = -1 ∨ (h a 12 ≤ day ∧ day ≤ h a 13))) (by omega)] at T; exact T) | (rw [zb_f (p := (h a 12 = -1 ∨ (h a 12 ≤ day ∧ day ≤ h a 13))) (by omega)] at T; exact T)

set_option maxHeartbeats 4000000 in
set_option maxRecDepth 100000 in
theorem c_k_weightOf {a it : Int} (hK : isKT ty a) (hI : isIT ty it) (hO : itOK h it) (hD : h a 11 = -1 ∨ (1 ≤ h a 11 ∧ h a 11 ≤ 9999999)) (hq : 1 ≤ kWeight h a it ∧ kWeight h a it ≤ 2000000000000000 → Q (some (lV (kWeight h a it))) ty sz h) : zXM D mX3_weightOf (d + 1) 0 0 [rV a, rV it] ty sz h Q := by
  obtain ⟨k9, k0, k1, k2, k3, k4, k5⟩ := hK
  obtain ⟨i9, i0⟩ := hI
  obtain ⟨o1, o2, o3, o4⟩ := hO
  obtain ⟨v1, v2⟩ := zvol o2 o3 o4
  refine x_aload_n (pc := 0) dX3_weightOf_0 rfl ?_
  refine y_getI 11 (pc := 1) dX3_weightOf_1 f_RX3_51 (by assumption) rfl (fun b_1 => ?_)
  refine x_iconst (pc := 4) dX3_weightOf_4 ?_
  refine x_icmp_ne (pc := 5) 14 dX3_weightOf_5 rfl (fun c_5 => ?_) (fun c_5 => ?_)
  · (try simp (disch := omega) only [zb_e0, zb_n0, w32_id, w64_id, ne_eq, Classical.not_not] at c_5)
    refine x_aload_n (pc := 14) dX3_weightOf_14 rfl ?_
    refine y_getI 1 (pc := 15) dX3_weightOf_15 f_RX3_86 (by assumption) rfl (fun b_15 => ?_)
    refine x_i2l (pc := 18) dX3_weightOf_18 ?_
    rw [w32_id (by omega) (by omega)]
    refine x_aload_n (pc := 19) dX3_weightOf_19 rfl ?_
    refine y_getI 2 (pc := 20) dX3_weightOf_20 f_RX3_71 (by assumption) rfl (fun b_20 => ?_)
    refine x_i2l (pc := 23) dX3_weightOf_23 ?_
    rw [w32_id (by omega) (by omega)]
    refine x_aload_n (pc := 24) dX3_weightOf_24 rfl ?_
    refine y_getI 3 (pc := 25) dX3_weightOf_25 f_RX3_74 (by assumption) rfl (fun b_25 => ?_)
    refine x_i2l (pc := 28) dX3_weightOf_28 ?_
    rw [w32_id (by omega) (by omega)]
    refine x_lmul (pc := 29) dX3_weightOf_29 ?_
    refine x_aload_n (pc := 30) dX3_weightOf_30 rfl ?_
    refine y_getI 4 (pc := 31) dX3_weightOf_31 f_RX3_75 (by assumption) rfl (fun b_31 => ?_)
    refine x_i2l (pc := 34) dX3_weightOf_34 ?_
    rw [w32_id (by omega) (by omega)]
    refine x_lmul (pc := 35) dX3_weightOf_35 ?_
    refine x_aload_n (pc := 36) dX3_weightOf_36 rfl ?_
    refine y_getI 11 (pc := 37) dX3_weightOf_37 f_RX3_51 (by assumption) rfl (fun b_37 => ?_)
    refine x_i2l (pc := 40) dX3_weightOf_40 ?_
    rw [w32_id (by omega) (by omega)]
    refine x_callS2 (pc := 41) dX3_weightOf_41 (k_RX3_89 _ rfl) tms_X6_dividedUp rfl rfl ?_
    refine c_dividedUp (by omega) (by omega) (by omega) (by omega) ?_
    have hdu : 0 ≤ zdu (h it 2 * h it 3 * h it 4) (h a 11) ∧ zdu (h it 2 * h it 3 * h it 4) (h a 11) ≤ 2000000000000000 := zdu_rng (by omega) (by omega) (by omega)
    dsimp only [Option.toList, List.cons_append, List.nil_append]
    refine x_max (pc := 44) (own := RX3) rfl dX3_weightOf_44 tl_RX3_93 rfl ?_
    refine x_retv (pc := 47) ⟨dX3_weightOf_47, rfl⟩ ?_
    unfold kWeight at hq
    rw [if_neg c_5] at hq
    rw [w64_id (by omega) (by omega), w64_id (by omega) (by omega)]
    exact hq (by split <;> omega)
  · (try simp (disch := omega) only [zb_e0, zb_n0, w32_id, w64_id, ne_eq, Classical.not_not] at c_5)
    refine x_aload_n (pc := 8) dX3_weightOf_8 rfl ?_
    refine y_getI 1 (pc := 9) dX3_weightOf_9 f_RX3_86 (by assumption) rfl (fun b_9 => ?_)
    refine x_i2l (pc := 12) dX3_weightOf_12 ?_
    rw [w32_id (by omega) (by omega)]
    refine x_retv (pc := 13) ⟨dX3_weightOf_13, rfl⟩ ?_
    unfold kWeight at hq
    rw [if_pos c_5] at hq
    exact hq (by omega)

set_option maxHeartbeats 4000000 in
set_option maxRecDepth 100000 in
theorem c_k_sF_l {a wt : Int} (hK : isKT ty a) (hs : 0 ≤ h a 1 ∧ h a 1 ≤ 10) (hw : i64 wt) (hq : -1 ≤ kStep h a wt ∧ kStep h a wt < 10 → Q (some (iV (kStep h a wt))) ty sz h) : ∀ (n : Nat) (i : Int), 0 ≤ i ∧ i ≤ h a 1 → kStep h a wt = zfst (fun i => wt ≤ h (a + 1) i) (h a 1 - i).toNat i → h a 1 - i < n → zX D mX3_stepFor (d + 1) 0 0 2 [(3, iV i), (0, rV a), (1, lV wt)] [] ty sz h Q := by
  intro n
  induction n with
  | zero =>
    intro i h1 h2 hm
    exfalso
    omega
  | succ n ih =>
    intro i h1 h2 hm
    have hK0 := hK
    obtain ⟨k9, k0, k1, k2, k3, k4, k5⟩ := hK
    refine x_iload_n (pc := 2) dX3_stepFor_2 rfl ?_
    refine x_aload_n (pc := 3) dX3_stepFor_3 rfl ?_
    refine y_getI 1 (pc := 4) dX3_stepFor_4 f_RX3_31 (by assumption) rfl (fun b_4 => ?_)
    refine x_icmp_ge (pc := 7) 32 dX3_stepFor_7 rfl (fun c_7 => ?_) (fun c_7 => ?_)
    · (try simp (disch := omega) only [zb_e0, zb_n0, w32_id, w64_id, ne_eq, Classical.not_not] at c_7)
      refine x_iconst (pc := 32) dX3_stepFor_32 ?_
      refine x_retv (pc := 33) ⟨dX3_stepFor_33, Or.inl rfl⟩ ?_
      have e : kStep h a wt = -1 := by
        rw [h2, show (h a 1 - i).toNat = 0 by omega]
        rfl
      rw [e] at hq
      exact hq (by omega)
    · (try simp (disch := omega) only [zb_e0, zb_n0, w32_id, w64_id, ne_eq, Classical.not_not] at c_7)
      refine x_aload_n (pc := 10) dX3_stepFor_10 rfl ?_
      refine x_getF (pc := 11) dX3_stepFor_11 f_RX3_9 (by assumption) (by rfl) ?_
      refine x_iload_n (pc := 14) dX3_stepFor_14 rfl ?_
      refine x_callS2 (pc := 15) dX3_stepFor_15 (k_RX3_67 _ rfl) tms_X6_cell rfl rfl ?_
      refine c_cellIn (N := 10) (by omega) (by omega) (by assumption) (by decide) (by omega) (fun bb => ?_)
      dsimp only [Option.toList, List.cons_append, List.nil_append]
      refine x_i2l (pc := 18) dX3_stepFor_18 ?_
      rw [w32_id (by omega) (by omega)]
      refine x_lload_n (pc := 19) dX3_stepFor_19 rfl ?_
      refine x_lcmp_lt (pc := 20) 26 dX3_stepFor_20 dX3_stepFor_21 rfl (fun c_20 => ?_) (fun c_20 => ?_)
      · (try simp (disch := omega) only [zb_e0, zb_n0, w32_id, w64_id, ne_eq, Classical.not_not] at c_20)
        refine x_iinc (pc := 26) dX3_stepFor_26 rfl (by decide) ?_
        refine x_goto (pc := 29) 2 dX3_stepFor_29 rfl ?_
        refine x_loc _ (by exact ⟨rfl, rfl, rfl, trivial⟩) (ih (i + 1) (by omega) ?_ (by omega))
        rw [h2, show (h a 1 - i).toNat = (h a 1 - (i + 1)).toNat + 1 by omega]
        exact zfst_n (by omega)
      · (try simp (disch := omega) only [zb_e0, zb_n0, w32_id, w64_id, ne_eq, Classical.not_not] at c_20)
        refine x_iload_n (pc := 24) dX3_stepFor_24 rfl ?_
        refine x_retv (pc := 25) ⟨dX3_stepFor_25, Or.inl rfl⟩ ?_
        have e : kStep h a wt = i := by
          rw [h2, show (h a 1 - i).toNat = (h a 1 - (i + 1)).toNat + 1 by omega]
          exact zfst_y (by omega)
        rw [e] at hq
        exact hq (by omega)

set_option maxHeartbeats 4000000 in
set_option maxRecDepth 100000 in
theorem c_k_stepFor {a wt : Int} (hK : isKT ty a) (hs : 0 ≤ h a 1 ∧ h a 1 ≤ 10) (hw : i64 wt) (hq : -1 ≤ kStep h a wt ∧ kStep h a wt < 10 → Q (some (iV (kStep h a wt))) ty sz h) : zXM D mX3_stepFor (d + 1) 0 0 [rV a, lV wt] ty sz h Q := by
  refine x_iconst (pc := 0) dX3_stepFor_0 ?_
  refine x_istore_n (pc := 1) dX3_stepFor_1 (by decide) ?_
  exact x_loc _ (by exact ⟨rfl, rfl, rfl, trivial⟩) (c_k_sF_l hK hs hw hq 11 0 (by omega) (by unfold kStep; rw [Int.sub_zero]) (by omega))

set_option maxHeartbeats 4000000 in
set_option maxRecDepth 100000 in
theorem c_k_sS_l {a b : Int} (hK : isKT ty a) (hL : isKT ty b) (hs : 0 ≤ h a 1 ∧ h a 1 ≤ 10) (he : h a 1 = h b 1) (hq : Q (some (iV (zb (kSameS h a b)))) ty sz h) : ∀ (n : Nat) (i : Int), 0 ≤ i ∧ i ≤ h a 1 → (∀ u, 0 ≤ u → u < i → h (a + 1) u = h (b + 1) u ∧ h (a + 2) u = h (b + 2) u) → h a 1 - i < n → zX D mX3_hasSameStepsAs (d + 1) 0 0 15 [(2, iV i), (0, rV a), (1, rV b)] [] ty sz h Q := by
  intro n
  induction n with
  | zero =>
    intro i h1 h2 hm
    exfalso
    omega
  | succ n ih =>
    intro i h1 h2 hm
    obtain ⟨k9, k0, k1, k2, k3, k4, k5⟩ := hK
    obtain ⟨l9, l0, l1, l2, l3, l4, l5⟩ := hL
    refine x_iload_n (pc := 15) dX3_hasSameStepsAs_15 rfl ?_
    refine x_aload_n (pc := 16) dX3_hasSameStepsAs_16 rfl ?_
    refine y_getI 1 (pc := 17) dX3_hasSameStepsAs_17 f_RX3_31 (by assumption) rfl (fun b_17 => ?_)
    refine x_icmp_ge (pc := 20) 69 dX3_hasSameStepsAs_20 rfl (fun c_20 => ?_) (fun c_20 => ?_)
    · (try simp (disch := omega) only [zb_e0, zb_n0, w32_id, w64_id, ne_eq, Classical.not_not] at c_20)
      refine x_iconst (pc := 69) dX3_hasSameStepsAs_69 ?_
      refine x_retv (pc := 70) ⟨dX3_hasSameStepsAs_70, Or.inr ⟨rfl, (by decide)⟩⟩ ?_
      rw [zb_t (p := kSameS h a b) ⟨he, fun u hu1 hu2 => h2 u hu1 (by omega)⟩] at hq
      exact hq
    · (try simp (disch := omega) only [zb_e0, zb_n0, w32_id, w64_id, ne_eq, Classical.not_not] at c_20)
      refine x_aload_n (pc := 23) dX3_hasSameStepsAs_23 rfl ?_
      refine x_getF (pc := 24) dX3_hasSameStepsAs_24 f_RX3_9 (by assumption) (by rfl) ?_
      refine x_iload_n (pc := 27) dX3_hasSameStepsAs_27 rfl ?_
      refine x_callS2 (pc := 28) dX3_hasSameStepsAs_28 (k_RX3_67 _ rfl) tms_X6_cell rfl rfl ?_
      refine c_cellIn (N := 10) (by omega) (by omega) (by assumption) (by decide) (by omega) (fun bb => ?_)
      dsimp only [Option.toList, List.cons_append, List.nil_append]
      refine x_aload_n (pc := 31) dX3_hasSameStepsAs_31 rfl ?_
      refine x_getF (pc := 32) dX3_hasSameStepsAs_32 f_RX3_9 (by assumption) (by rfl) ?_
      refine x_iload_n (pc := 35) dX3_hasSameStepsAs_35 rfl ?_
      refine x_callS2 (pc := 36) dX3_hasSameStepsAs_36 (k_RX3_67 _ rfl) tms_X6_cell rfl rfl ?_
      refine c_cellIn (N := 10) (by omega) (by omega) (by assumption) (by decide) (by omega) (fun bb => ?_)
      dsimp only [Option.toList, List.cons_append, List.nil_append]
      refine x_icmp_ne (pc := 39) 61 dX3_hasSameStepsAs_39 rfl (fun c_39 => ?_) (fun c_39 => ?_)
      · (try simp (disch := omega) only [zb_e0, zb_n0, w32_id, w64_id, ne_eq, Classical.not_not] at c_39)
        refine x_iconst (pc := 61) dX3_hasSameStepsAs_61 ?_
        refine x_retv (pc := 62) ⟨dX3_hasSameStepsAs_62, Or.inr ⟨rfl, (by decide)⟩⟩ ?_
        rw [zb_f (p := kSameS h a b) (fun q => ?_)] at hq
        · exact hq
        · have := q.2 i (by omega) (by omega)
          omega
      · (try simp (disch := omega) only [zb_e0, zb_n0, w32_id, w64_id, ne_eq, Classical.not_not] at c_39)
        refine x_aload_n (pc := 42) dX3_hasSameStepsAs_42 rfl ?_
        refine x_getF (pc := 43) dX3_hasSameStepsAs_43 f_RX3_15 (by assumption) (by rfl) ?_
        refine x_iload_n (pc := 46) dX3_hasSameStepsAs_46 rfl ?_
        refine x_callS2 (pc := 47) dX3_hasSameStepsAs_47 (k_RX3_67 _ rfl) tms_X6_cell rfl rfl ?_
        refine c_cellIn (N := 10) (by omega) (by omega) (by assumption) (by decide) (by omega) (fun bb => ?_)
        dsimp only [Option.toList, List.cons_append, List.nil_append]
        refine x_aload_n (pc := 50) dX3_hasSameStepsAs_50 rfl ?_
        refine x_getF (pc := 51) dX3_hasSameStepsAs_51 f_RX3_15 (by assumption) (by rfl) ?_
        refine x_iload_n (pc := 54) dX3_hasSameStepsAs_54 rfl ?_
        refine x_callS2 (pc := 55) dX3_hasSameStepsAs_55 (k_RX3_67 _ rfl) tms_X6_cell rfl rfl ?_
        refine c_cellIn (N := 10) (by omega) (by omega) (by assumption) (by decide) (by omega) (fun bb => ?_)
        dsimp only [Option.toList, List.cons_append, List.nil_append]
        refine x_icmp_eq (pc := 58) 63 dX3_hasSameStepsAs_58 rfl (fun c_58 => ?_) (fun c_58 => ?_)
        · (try simp (disch := omega) only [zb_e0, zb_n0, w32_id, w64_id, ne_eq, Classical.not_not] at c_58)
          refine x_iinc (pc := 63) dX3_hasSameStepsAs_63 rfl (by decide) ?_
          refine x_goto (pc := 66) 15 dX3_hasSameStepsAs_66 rfl ?_
          refine x_loc _ (by exact ⟨rfl, rfl, rfl, trivial⟩) (ih (i + 1) (by omega) (fun u hu1 hu2 => ?_) (by omega))
          by_cases e : u = i
          · subst e
            exact ⟨c_39, c_58⟩
          · exact h2 u hu1 (by omega)
        · (try simp (disch := omega) only [zb_e0, zb_n0, w32_id, w64_id, ne_eq, Classical.not_not] at c_58)
          refine x_iconst (pc := 61) dX3_hasSameStepsAs_61 ?_
          refine x_retv (pc := 62) ⟨dX3_hasSameStepsAs_62, Or.inr ⟨rfl, (by decide)⟩⟩ ?_
          rw [zb_f (p := kSameS h a b) (fun q => ?_)] at hq
          · exact hq
          · have := q.2 i (by omega) (by omega)
            omega

set_option maxHeartbeats 4000000 in
set_option maxRecDepth 100000 in
theorem c_k_sameS {a b : Int} (hK : isKT ty a) (hL : isKT ty b) (hs : 0 ≤ h a 1 ∧ h a 1 ≤ 10) (hq : Q (some (iV (zb (kSameS h a b)))) ty sz h) : zXM D mX3_hasSameStepsAs (d + 1) 0 0 [rV a, rV b] ty sz h Q := by
  have hK0 := hK
  have hL0 := hL
  obtain ⟨k9, k0, k1, k2, k3, k4, k5⟩ := hK
  obtain ⟨l9, l0, l1, l2, l3, l4, l5⟩ := hL
  refine x_aload_n (pc := 0) dX3_hasSameStepsAs_0 rfl ?_
  refine y_getI 1 (pc := 1) dX3_hasSameStepsAs_1 f_RX3_31 (by assumption) rfl (fun b_1 => ?_)
  refine x_aload_n (pc := 4) dX3_hasSameStepsAs_4 rfl ?_
  refine y_getI 1 (pc := 5) dX3_hasSameStepsAs_5 f_RX3_31 (by assumption) rfl (fun b_5 => ?_)
  refine x_icmp_eq (pc := 8) 13 dX3_hasSameStepsAs_8 rfl (fun c_8 => ?_) (fun c_8 => ?_)
  · (try simp (disch := omega) only [zb_e0, zb_n0, w32_id, w64_id, ne_eq, Classical.not_not] at c_8)
    refine x_iconst (pc := 13) dX3_hasSameStepsAs_13 ?_
    refine x_istore_n (pc := 14) dX3_hasSameStepsAs_14 (by decide) ?_
    exact x_loc _ (by exact ⟨rfl, rfl, rfl, trivial⟩) (c_k_sS_l hK0 hL0 hs c_8 hq 11 0 (by omega) (fun u h1 h2 => by omega) (by omega))
  · (try simp (disch := omega) only [zb_e0, zb_n0, w32_id, w64_id, ne_eq, Classical.not_not] at c_8)
    refine x_iconst (pc := 11) dX3_hasSameStepsAs_11 ?_
    refine x_retv (pc := 12) ⟨dX3_hasSameStepsAs_12, Or.inr ⟨rfl, (by decide)⟩⟩ ?_
    rw [zb_f (p := kSameS h a b) (fun q => c_8 q.1)] at hq
    exact hq

set_option maxHeartbeats 4000000 in
set_option maxRecDepth 100000 in
theorem c_k_sN_l {a b : Int} (hK : isKT ty a) (hL : isKT ty b) (hq : Q (some (iV (zb (kSameN h a b)))) ty sz h) : ∀ (n : Nat) (i : Int), 0 ≤ i ∧ i ≤ 10 → (∀ u, 0 ≤ u → u < i → h (a + 3) u = h (b + 3) u ∧ h (a + 4) u = h (b + 4) u ∧ h (a + 5) u = h (b + 5) u) → 10 - i < n → zX D mX3_hasSameNamesAs (d + 1) 0 0 2 [(2, iV i), (0, rV a), (1, rV b)] [] ty sz h Q := by
  intro n
  induction n with
  | zero =>
    intro i h1 h2 hm
    exfalso
    omega
  | succ n ih =>
    intro i h1 h2 hm
    obtain ⟨k9, k0, k1, k2, k3, k4, k5⟩ := hK
    obtain ⟨l9, l0, l1, l2, l3, l4, l5⟩ := hL
    refine x_iload_n (pc := 2) dX3_hasSameNamesAs_2 rfl ?_
    refine x_bipush (pc := 3) dX3_hasSameNamesAs_3 (by decide) ?_
    refine x_icmp_ge (pc := 5) 73 dX3_hasSameNamesAs_5 rfl (fun c_5 => ?_) (fun c_5 => ?_)
    · (try simp (disch := omega) only [zb_e0, zb_n0, w32_id, w64_id, ne_eq, Classical.not_not] at c_5)
      refine x_iconst (pc := 73) dX3_hasSameNamesAs_73 ?_
      refine x_retv (pc := 74) ⟨dX3_hasSameNamesAs_74, Or.inr ⟨rfl, (by decide)⟩⟩ ?_
      first
        | (rw [zb_t (p := kSameN h a b) (fun u hu1 hu2 => h2 u hu1 (by omega))] at hq; exact hq)
        | (rw [zb_f (p := kSameN h a b) (fun q => by have := q i (by omega) (by omega); omega)] at hq; exact hq)
    · (try simp (disch := omega) only [zb_e0, zb_n0, w32_id, w64_id, ne_eq, Classical.not_not] at c_5)
      refine x_aload_n (pc := 8) dX3_hasSameNamesAs_8 rfl ?_
      refine x_getF (pc := 9) dX3_hasSameNamesAs_9 f_RX3_18 (by assumption) (by rfl) ?_
      refine x_iload_n (pc := 12) dX3_hasSameNamesAs_12 rfl ?_
      refine x_callS2 (pc := 13) dX3_hasSameNamesAs_13 (k_RX3_67 _ rfl) tms_X6_cell rfl rfl ?_
      refine c_cellIn (N := 10) (by omega) (by omega) (by assumption) (by decide) (by omega) (fun bb => ?_)
      dsimp only [Option.toList, List.cons_append, List.nil_append]
      refine x_aload_n (pc := 16) dX3_hasSameNamesAs_16 rfl ?_
      refine x_getF (pc := 17) dX3_hasSameNamesAs_17 f_RX3_18 (by assumption) (by rfl) ?_
      refine x_iload_n (pc := 20) dX3_hasSameNamesAs_20 rfl ?_
      refine x_callS2 (pc := 21) dX3_hasSameNamesAs_21 (k_RX3_67 _ rfl) tms_X6_cell rfl rfl ?_
      refine c_cellIn (N := 10) (by omega) (by omega) (by assumption) (by decide) (by omega) (fun bb => ?_)
      dsimp only [Option.toList, List.cons_append, List.nil_append]
      refine x_icmp_ne (pc := 24) 65 dX3_hasSameNamesAs_24 rfl (fun c_24 => ?_) (fun c_24 => ?_)
      · (try simp (disch := omega) only [zb_e0, zb_n0, w32_id, w64_id, ne_eq, Classical.not_not] at c_24)
        refine x_iconst (pc := 65) dX3_hasSameNamesAs_65 ?_
        refine x_retv (pc := 66) ⟨dX3_hasSameNamesAs_66, Or.inr ⟨rfl, (by decide)⟩⟩ ?_
        first
          | (rw [zb_t (p := kSameN h a b) (fun u hu1 hu2 => h2 u hu1 (by omega))] at hq; exact hq)
          | (rw [zb_f (p := kSameN h a b) (fun q => by have := q i (by omega) (by omega); omega)] at hq; exact hq)
      · (try simp (disch := omega) only [zb_e0, zb_n0, w32_id, w64_id, ne_eq, Classical.not_not] at c_24)
        refine x_aload_n (pc := 27) dX3_hasSameNamesAs_27 rfl ?_
        refine x_getF (pc := 28) dX3_hasSameNamesAs_28 f_RX3_21 (by assumption) (by rfl) ?_
        refine x_iload_n (pc := 31) dX3_hasSameNamesAs_31 rfl ?_
        refine x_callS2 (pc := 32) dX3_hasSameNamesAs_32 (k_RX3_67 _ rfl) tms_X6_cell rfl rfl ?_
        refine c_cellIn (N := 10) (by omega) (by omega) (by assumption) (by decide) (by omega) (fun bb => ?_)
        dsimp only [Option.toList, List.cons_append, List.nil_append]
        refine x_aload_n (pc := 35) dX3_hasSameNamesAs_35 rfl ?_
        refine x_getF (pc := 36) dX3_hasSameNamesAs_36 f_RX3_21 (by assumption) (by rfl) ?_
        refine x_iload_n (pc := 39) dX3_hasSameNamesAs_39 rfl ?_
        refine x_callS2 (pc := 40) dX3_hasSameNamesAs_40 (k_RX3_67 _ rfl) tms_X6_cell rfl rfl ?_
        refine c_cellIn (N := 10) (by omega) (by omega) (by assumption) (by decide) (by omega) (fun bb => ?_)
        dsimp only [Option.toList, List.cons_append, List.nil_append]
        refine x_icmp_ne (pc := 43) 65 dX3_hasSameNamesAs_43 rfl (fun c_43 => ?_) (fun c_43 => ?_)
        · (try simp (disch := omega) only [zb_e0, zb_n0, w32_id, w64_id, ne_eq, Classical.not_not] at c_43)
          refine x_iconst (pc := 65) dX3_hasSameNamesAs_65 ?_
          refine x_retv (pc := 66) ⟨dX3_hasSameNamesAs_66, Or.inr ⟨rfl, (by decide)⟩⟩ ?_
          first
            | (rw [zb_t (p := kSameN h a b) (fun u hu1 hu2 => h2 u hu1 (by omega))] at hq; exact hq)
            | (rw [zb_f (p := kSameN h a b) (fun q => by have := q i (by omega) (by omega); omega)] at hq; exact hq)
        · (try simp (disch := omega) only [zb_e0, zb_n0, w32_id, w64_id, ne_eq, Classical.not_not] at c_43)
          refine x_aload_n (pc := 46) dX3_hasSameNamesAs_46 rfl ?_
          refine x_getF (pc := 47) dX3_hasSameNamesAs_47 f_RX3_24 (by assumption) (by rfl) ?_
          refine x_iload_n (pc := 50) dX3_hasSameNamesAs_50 rfl ?_
          refine x_callS2 (pc := 51) dX3_hasSameNamesAs_51 (k_RX3_67 _ rfl) tms_X6_cell rfl rfl ?_
          refine c_cellIn (N := 10) (by omega) (by omega) (by assumption) (by decide) (by omega) (fun bb => ?_)
          dsimp only [Option.toList, List.cons_append, List.nil_append]
          refine x_aload_n (pc := 54) dX3_hasSameNamesAs_54 rfl ?_
          refine x_getF (pc := 55) dX3_hasSameNamesAs_55 f_RX3_24 (by assumption) (by rfl) ?_
          refine x_iload_n (pc := 58) dX3_hasSameNamesAs_58 rfl ?_
          refine x_callS2 (pc := 59) dX3_hasSameNamesAs_59 (k_RX3_67 _ rfl) tms_X6_cell rfl rfl ?_
          refine c_cellIn (N := 10) (by omega) (by omega) (by assumption) (by decide) (by omega) (fun bb => ?_)
          dsimp only [Option.toList, List.cons_append, List.nil_append]
          refine x_icmp_eq (pc := 62) 67 dX3_hasSameNamesAs_62 rfl (fun c_62 => ?_) (fun c_62 => ?_)
          · (try simp (disch := omega) only [zb_e0, zb_n0, w32_id, w64_id, ne_eq, Classical.not_not] at c_62)
            refine x_iinc (pc := 67) dX3_hasSameNamesAs_67 rfl (by decide) ?_
            refine x_goto (pc := 70) 2 dX3_hasSameNamesAs_70 rfl ?_
            refine x_loc _ (by exact ⟨rfl, rfl, rfl, trivial⟩) (ih (i + 1) (by omega) (fun u hu1 hu2 => ?_) (by omega))
            by_cases e : u = i
            · subst e
              refine ⟨?_, ?_, ?_⟩ <;> assumption
            · exact h2 u hu1 (by omega)
          · (try simp (disch := omega) only [zb_e0, zb_n0, w32_id, w64_id, ne_eq, Classical.not_not] at c_62)
            refine x_iconst (pc := 65) dX3_hasSameNamesAs_65 ?_
            refine x_retv (pc := 66) ⟨dX3_hasSameNamesAs_66, Or.inr ⟨rfl, (by decide)⟩⟩ ?_
            first
              | (rw [zb_t (p := kSameN h a b) (fun u hu1 hu2 => h2 u hu1 (by omega))] at hq; exact hq)
              | (rw [zb_f (p := kSameN h a b) (fun q => by have := q i (by omega) (by omega); omega)] at hq; exact hq)

set_option maxHeartbeats 4000000 in
set_option maxRecDepth 100000 in
theorem c_k_sameN {a b : Int} (hK : isKT ty a) (hL : isKT ty b) (hq : Q (some (iV (zb (kSameN h a b)))) ty sz h) : zXM D mX3_hasSameNamesAs (d + 1) 0 0 [rV a, rV b] ty sz h Q := by
  refine x_iconst (pc := 0) dX3_hasSameNamesAs_0 ?_
  refine x_istore_n (pc := 1) dX3_hasSameNamesAs_1 (by decide) ?_
  exact x_loc _ (by exact ⟨rfl, rfl, rfl, trivial⟩) (c_k_sN_l hK hL hq 11 0 (by omega) (fun u h1 h2 => by omega) (by omega))

set_option maxHeartbeats 4000000 in
set_option maxRecDepth 100000 in
theorem c_k_sameL {a b : Int} (hK : isKT ty a) (hL : isKT ty b) (hq : Q (some (iV (zb (kSameL h a b)))) ty sz h) : zXM D mX3_hasSameLimitsAs d 0 0 [rV a, rV b] ty sz h Q := by
  obtain ⟨k9, k0, k1, k2, k3, k4, k5⟩ := hK
  obtain ⟨l9, l0, l1, l2, l3, l4, l5⟩ := hL
  refine x_aload_n (pc := 0) dX3_hasSameLimitsAs_0 rfl ?_
  refine y_getI 8 (pc := 1) dX3_hasSameLimitsAs_1 f_RX3_42 (by assumption) rfl (fun b_1 => ?_)
  refine x_aload_n (pc := 4) dX3_hasSameLimitsAs_4 rfl ?_
  refine y_getI 8 (pc := 5) dX3_hasSameLimitsAs_5 f_RX3_42 (by assumption) rfl (fun b_5 => ?_)
  refine x_icmp_ne (pc := 8) 81 dX3_hasSameLimitsAs_8 rfl (fun c_8 => ?_) (fun c_8 => ?_)
  · (try simp (disch := omega) only [zb_e0, zb_n0, w32_id, w64_id, ne_eq, Classical.not_not] at c_8)
    refine x_iconst (pc := 81) dX3_hasSameLimitsAs_81 ?_
    refine x_retv (pc := 82) ⟨dX3_hasSameLimitsAs_82, Or.inr ⟨rfl, (by decide)⟩⟩ ?_
    first
      | (rw [zb_t (p := kSameL h a b) ⟨by assumption, by assumption, by assumption, by assumption, by assumption, by assumption, by assumption⟩] at hq; exact hq)
      | (rw [zb_f (p := kSameL h a b) (fun q => by unfold kSameL at q; omega)] at hq; exact hq)
  · (try simp (disch := omega) only [zb_e0, zb_n0, w32_id, w64_id, ne_eq, Classical.not_not] at c_8)
    refine x_aload_n (pc := 11) dX3_hasSameLimitsAs_11 rfl ?_
    refine y_getI 9 (pc := 12) dX3_hasSameLimitsAs_12 f_RX3_45 (by assumption) rfl (fun b_12 => ?_)
    refine x_aload_n (pc := 15) dX3_hasSameLimitsAs_15 rfl ?_
    refine y_getI 9 (pc := 16) dX3_hasSameLimitsAs_16 f_RX3_45 (by assumption) rfl (fun b_16 => ?_)
    refine x_icmp_ne (pc := 19) 81 dX3_hasSameLimitsAs_19 rfl (fun c_19 => ?_) (fun c_19 => ?_)
    · (try simp (disch := omega) only [zb_e0, zb_n0, w32_id, w64_id, ne_eq, Classical.not_not] at c_19)
      refine x_iconst (pc := 81) dX3_hasSameLimitsAs_81 ?_
      refine x_retv (pc := 82) ⟨dX3_hasSameLimitsAs_82, Or.inr ⟨rfl, (by decide)⟩⟩ ?_
      first
        | (rw [zb_t (p := kSameL h a b) ⟨by assumption, by assumption, by assumption, by assumption, by assumption, by assumption, by assumption⟩] at hq; exact hq)
        | (rw [zb_f (p := kSameL h a b) (fun q => by unfold kSameL at q; omega)] at hq; exact hq)
    · (try simp (disch := omega) only [zb_e0, zb_n0, w32_id, w64_id, ne_eq, Classical.not_not] at c_19)
      refine x_aload_n (pc := 22) dX3_hasSameLimitsAs_22 rfl ?_
      refine y_getI 10 (pc := 23) dX3_hasSameLimitsAs_23 f_RX3_48 (by assumption) rfl (fun b_23 => ?_)
      refine x_aload_n (pc := 26) dX3_hasSameLimitsAs_26 rfl ?_
      refine y_getI 10 (pc := 27) dX3_hasSameLimitsAs_27 f_RX3_48 (by assumption) rfl (fun b_27 => ?_)
      refine x_icmp_ne (pc := 30) 81 dX3_hasSameLimitsAs_30 rfl (fun c_30 => ?_) (fun c_30 => ?_)
      · (try simp (disch := omega) only [zb_e0, zb_n0, w32_id, w64_id, ne_eq, Classical.not_not] at c_30)
        refine x_iconst (pc := 81) dX3_hasSameLimitsAs_81 ?_
        refine x_retv (pc := 82) ⟨dX3_hasSameLimitsAs_82, Or.inr ⟨rfl, (by decide)⟩⟩ ?_
        first
          | (rw [zb_t (p := kSameL h a b) ⟨by assumption, by assumption, by assumption, by assumption, by assumption, by assumption, by assumption⟩] at hq; exact hq)
          | (rw [zb_f (p := kSameL h a b) (fun q => by unfold kSameL at q; omega)] at hq; exact hq)
      · (try simp (disch := omega) only [zb_e0, zb_n0, w32_id, w64_id, ne_eq, Classical.not_not] at c_30)
        refine x_aload_n (pc := 33) dX3_hasSameLimitsAs_33 rfl ?_
        refine y_getI 11 (pc := 34) dX3_hasSameLimitsAs_34 f_RX3_51 (by assumption) rfl (fun b_34 => ?_)
        refine x_aload_n (pc := 37) dX3_hasSameLimitsAs_37 rfl ?_
        refine y_getI 11 (pc := 38) dX3_hasSameLimitsAs_38 f_RX3_51 (by assumption) rfl (fun b_38 => ?_)
        refine x_icmp_ne (pc := 41) 81 dX3_hasSameLimitsAs_41 rfl (fun c_41 => ?_) (fun c_41 => ?_)
        · (try simp (disch := omega) only [zb_e0, zb_n0, w32_id, w64_id, ne_eq, Classical.not_not] at c_41)
          refine x_iconst (pc := 81) dX3_hasSameLimitsAs_81 ?_
          refine x_retv (pc := 82) ⟨dX3_hasSameLimitsAs_82, Or.inr ⟨rfl, (by decide)⟩⟩ ?_
          first
            | (rw [zb_t (p := kSameL h a b) ⟨by assumption, by assumption, by assumption, by assumption, by assumption, by assumption, by assumption⟩] at hq; exact hq)
            | (rw [zb_f (p := kSameL h a b) (fun q => by unfold kSameL at q; omega)] at hq; exact hq)
        · (try simp (disch := omega) only [zb_e0, zb_n0, w32_id, w64_id, ne_eq, Classical.not_not] at c_41)
          refine x_aload_n (pc := 44) dX3_hasSameLimitsAs_44 rfl ?_
          refine y_getI 12 (pc := 45) dX3_hasSameLimitsAs_45 f_RX3_54 (by assumption) rfl (fun b_45 => ?_)
          refine x_aload_n (pc := 48) dX3_hasSameLimitsAs_48 rfl ?_
          refine y_getI 12 (pc := 49) dX3_hasSameLimitsAs_49 f_RX3_54 (by assumption) rfl (fun b_49 => ?_)
          refine x_icmp_ne (pc := 52) 81 dX3_hasSameLimitsAs_52 rfl (fun c_52 => ?_) (fun c_52 => ?_)
          · (try simp (disch := omega) only [zb_e0, zb_n0, w32_id, w64_id, ne_eq, Classical.not_not] at c_52)
            refine x_iconst (pc := 81) dX3_hasSameLimitsAs_81 ?_
            refine x_retv (pc := 82) ⟨dX3_hasSameLimitsAs_82, Or.inr ⟨rfl, (by decide)⟩⟩ ?_
            first
              | (rw [zb_t (p := kSameL h a b) ⟨by assumption, by assumption, by assumption, by assumption, by assumption, by assumption, by assumption⟩] at hq; exact hq)
              | (rw [zb_f (p := kSameL h a b) (fun q => by unfold kSameL at q; omega)] at hq; exact hq)
          · (try simp (disch := omega) only [zb_e0, zb_n0, w32_id, w64_id, ne_eq, Classical.not_not] at c_52)
            refine x_aload_n (pc := 55) dX3_hasSameLimitsAs_55 rfl ?_
            refine y_getI 13 (pc := 56) dX3_hasSameLimitsAs_56 f_RX3_57 (by assumption) rfl (fun b_56 => ?_)
            refine x_aload_n (pc := 59) dX3_hasSameLimitsAs_59 rfl ?_
            refine y_getI 13 (pc := 60) dX3_hasSameLimitsAs_60 f_RX3_57 (by assumption) rfl (fun b_60 => ?_)
            refine x_icmp_ne (pc := 63) 81 dX3_hasSameLimitsAs_63 rfl (fun c_63 => ?_) (fun c_63 => ?_)
            · (try simp (disch := omega) only [zb_e0, zb_n0, w32_id, w64_id, ne_eq, Classical.not_not] at c_63)
              refine x_iconst (pc := 81) dX3_hasSameLimitsAs_81 ?_
              refine x_retv (pc := 82) ⟨dX3_hasSameLimitsAs_82, Or.inr ⟨rfl, (by decide)⟩⟩ ?_
              first
                | (rw [zb_t (p := kSameL h a b) ⟨by assumption, by assumption, by assumption, by assumption, by assumption, by assumption, by assumption⟩] at hq; exact hq)
                | (rw [zb_f (p := kSameL h a b) (fun q => by unfold kSameL at q; omega)] at hq; exact hq)
            · (try simp (disch := omega) only [zb_e0, zb_n0, w32_id, w64_id, ne_eq, Classical.not_not] at c_63)
              refine x_aload_n (pc := 66) dX3_hasSameLimitsAs_66 rfl ?_
              refine y_getI 14 (pc := 67) dX3_hasSameLimitsAs_67 f_RX3_60 (by assumption) rfl (fun b_67 => ?_)
              refine x_aload_n (pc := 70) dX3_hasSameLimitsAs_70 rfl ?_
              refine y_getI 14 (pc := 71) dX3_hasSameLimitsAs_71 f_RX3_60 (by assumption) rfl (fun b_71 => ?_)
              refine x_icmp_ne (pc := 74) 81 dX3_hasSameLimitsAs_74 rfl (fun c_74 => ?_) (fun c_74 => ?_)
              · (try simp (disch := omega) only [zb_e0, zb_n0, w32_id, w64_id, ne_eq, Classical.not_not] at c_74)
                refine x_iconst (pc := 81) dX3_hasSameLimitsAs_81 ?_
                refine x_retv (pc := 82) ⟨dX3_hasSameLimitsAs_82, Or.inr ⟨rfl, (by decide)⟩⟩ ?_
                first
                  | (rw [zb_t (p := kSameL h a b) ⟨by assumption, by assumption, by assumption, by assumption, by assumption, by assumption, by assumption⟩] at hq; exact hq)
                  | (rw [zb_f (p := kSameL h a b) (fun q => by unfold kSameL at q; omega)] at hq; exact hq)
              · (try simp (disch := omega) only [zb_e0, zb_n0, w32_id, w64_id, ne_eq, Classical.not_not] at c_74)
                refine x_iconst (pc := 77) dX3_hasSameLimitsAs_77 ?_
                refine x_goto (pc := 78) 82 dX3_hasSameLimitsAs_78 rfl ?_
                refine x_retv (pc := 82) ⟨dX3_hasSameLimitsAs_82, Or.inr ⟨rfl, (by decide)⟩⟩ ?_
                first
                  | (rw [zb_t (p := kSameL h a b) ⟨by assumption, by assumption, by assumption, by assumption, by assumption, by assumption, by assumption⟩] at hq; exact hq)
                  | (rw [zb_f (p := kSameL h a b) (fun q => by unfold kSameL at q; omega)] at hq; exact hq)

end C3
