section C28
variable {D : va_G} {d : Nat} {ty : zT} {sz : Nat} {h : zH} {Q : zQ}
set_option maxHeartbeats 4000000 in
set_option maxRecDepth 100000 in
theorem c_m_read27F {m : Int} (hM : isMT ty m) (h4 : h m 4 ≠ -1) (hk : zX D mX7_read (d + 6) 0 0 171 [(0, rV m)] [] ty sz h Q) : zX D mX7_read (d + 6) 0 0 27 [(0, rV m)] [] ty sz h Q := by
  have hM0 := hM
  obtain ⟨m9, m0, a1, a2, a3, a4, a5, a6, a7, a8, a9, a10, a11, a12, a13, a14, a15, a16, a17, a18, a19, a20, a21⟩ := hM
  refine x_aload_n (pc := 27) dX7_read_27 rfl ?_
  refine y_getI 4 (pc := 28) dX7_read_28 f_RX7_85 (by assumption) rfl (fun b_28 => ?_)
  refine x_iconst (pc := 31) dX7_read_31 ?_
  refine x_icmp_ne (pc := 32) 132 dX7_read_32 rfl (fun c_32 => ?_) (fun c_32 => ?_)
  · (try simp (disch := omega) only [zb_e0, zb_n0, w32_id, w64_id, ne_eq, Classical.not_not] at c_32)
    refine x_aload_n (pc := 132) dX7_read_132 rfl ?_
    refine y_getI 4 (pc := 133) dX7_read_133 f_RX7_85 (by assumption) rfl (fun b_133 => ?_)
    refine x_iconst (pc := 136) dX7_read_136 ?_
    refine x_icmp_ne (pc := 137) 171 dX7_read_137 rfl (fun c_137 => ?_) (fun c_137 => ?_)
    · (try simp (disch := omega) only [zb_e0, zb_n0, w32_id, w64_id, ne_eq, Classical.not_not] at c_137)
      exact hk
    · (try simp (disch := omega) only [zb_e0, zb_n0, w32_id, w64_id, ne_eq, Classical.not_not] at c_137)
      omega
  · (try simp (disch := omega) only [zb_e0, zb_n0, w32_id, w64_id, ne_eq, Classical.not_not] at c_32)
    omega

set_option maxHeartbeats 4000000 in
set_option maxRecDepth 100000 in
theorem c_m_read50F {m : Int} (hM : isMT ty m) (h4 : h m 4 ≠ -1) (hk : zX D mX7_read (d + 6) 0 0 171 [(0, rV m)] [] ty sz h Q) : zX D mX7_read (d + 6) 0 0 50 [(0, rV m)] [] ty sz h Q := by
  have hM0 := hM
  obtain ⟨m9, m0, a1, a2, a3, a4, a5, a6, a7, a8, a9, a10, a11, a12, a13, a14, a15, a16, a17, a18, a19, a20, a21⟩ := hM
  refine x_aload_n (pc := 50) dX7_read_50 rfl ?_
  refine y_getI 4 (pc := 51) dX7_read_51 f_RX7_85 (by assumption) rfl (fun b_51 => ?_)
  refine x_iconst (pc := 54) dX7_read_54 ?_
  refine x_icmp_ne (pc := 55) 27 dX7_read_55 rfl (fun c_55 => ?_) (fun c_55 => ?_)
  · (try simp (disch := omega) only [zb_e0, zb_n0, w32_id, w64_id, ne_eq, Classical.not_not] at c_55)
    exact c_m_read27F hM0 h4 hk
  · (try simp (disch := omega) only [zb_e0, zb_n0, w32_id, w64_id, ne_eq, Classical.not_not] at c_55)
    omega

set_option maxHeartbeats 4000000 in
set_option maxRecDepth 100000 in
theorem c_m_read27E {m : Int} (hM : isMT ty m) {p : Int} {l : List Row} {T : List Int} (hP : MTx h m T) (hT : TxOK T) (hS : RS h m p l) (hn : l.length ≤ 510) (hp : p = T.length) (hF : l ≠ [] → nL 83 (curK l) = 0 → zX D mX7_read (d + 6) 0 0 171 [(0, rV m)] [] ty sz (zup h m 4 T.length) Q) (hK : (l = [] ∨ nL 83 (curK l) ≠ 0) → zX D mX7_read (d + 6) 0 0 171 [(0, rV m)] [] ty sz h Q) : zX D mX7_read (d + 6) 0 0 27 [(0, rV m)] [] ty sz h Q := by
  have hM0 := hM
  obtain ⟨m9, m0, a1, a2, a3, a4, a5, a6, a7, a8, a9, a10, a11, a12, a13, a14, a15, a16, a17, a18, a19, a20, a21⟩ := hM
  have hT1 := hT.1
  have hS0 := hS
  obtain ⟨s3, s4, s5, s6, s7, s8⟩ := hS
  have hl1 := hP.1
  refine x_aload_n (pc := 27) dX7_read_27 rfl ?_
  refine y_getI 4 (pc := 28) dX7_read_28 f_RX7_85 (by assumption) rfl (fun b_28 => ?_)
  rw [s4]
  refine x_iconst (pc := 31) dX7_read_31 ?_
  refine x_icmp_ne (pc := 32) 132 dX7_read_32 rfl (fun c_32 => ?_) (fun c_32 => ?_)
  · (try simp (disch := omega) only [zb_e0, zb_n0, w32_id, w64_id, ne_eq, Classical.not_not] at c_32)
    exact absurd trivial c_32
  · (try simp (disch := omega) only [zb_e0, zb_n0, w32_id, w64_id, ne_eq, Classical.not_not] at c_32)
    refine x_aload_n (pc := 35) dX7_read_35 rfl ?_
    refine y_getI 3 (pc := 36) dX7_read_36 f_RX7_82 (by assumption) rfl (fun b_36 => ?_)
    rw [s3]
    refine x_aload_n (pc := 39) dX7_read_39 rfl ?_
    refine y_getI 2 (pc := 40) dX7_read_40 f_RX7_79 (by assumption) rfl (fun b_40 => ?_)
    rw [hl1]
    refine x_icmp_ge (pc := 43) 132 dX7_read_43 rfl (fun c_43 => ?_) (fun c_43 => ?_)
    · (try simp (disch := omega) only [zb_e0, zb_n0, w32_id, w64_id, ne_eq, Classical.not_not] at c_43)
      refine x_aload_n (pc := 132) dX7_read_132 rfl ?_
      refine y_getI 4 (pc := 133) dX7_read_133 f_RX7_85 (by assumption) rfl (fun b_133 => ?_)
      rw [s4]
      refine x_iconst (pc := 136) dX7_read_136 ?_
      refine x_icmp_ne (pc := 137) 171 dX7_read_137 rfl (fun c_137 => ?_) (fun c_137 => ?_)
      · (try simp (disch := omega) only [zb_e0, zb_n0, w32_id, w64_id, ne_eq, Classical.not_not] at c_137)
        exact absurd trivial c_137
      · (try simp (disch := omega) only [zb_e0, zb_n0, w32_id, w64_id, ne_eq, Classical.not_not] at c_137)
        refine x_aload_n (pc := 140) dX7_read_140 rfl ?_
        refine y_getI 11 (pc := 141) dX7_read_141 f_RX7_107 (by assumption) rfl (fun b_141 => ?_)
        refine x_iconst (pc := 144) dX7_read_144 ?_
        refine x_icmp_eq (pc := 145) 171 dX7_read_145 rfl (fun c_145 => ?_) (fun c_145 => ?_)
        · (try simp (disch := omega) only [zb_e0, zb_n0, w32_id, w64_id, ne_eq, Classical.not_not] at c_145)
          --
          have hl0 : l = [] := Classical.byContradiction (fun z => by rw [if_neg z] at s7; omega)
          first
          | exact hK (Or.inl hl0)
          | (rw [mF_n (by omega)]
             exact hF hl (by omega))
          | (rw [mF_t (by omega)]
             exact hK (Or.inr (by omega)))
        · (try simp (disch := omega) only [zb_e0, zb_n0, w32_id, w64_id, ne_eq, Classical.not_not] at c_145)
          --
          have hl : l ≠ [] := fun z => c_145 (by rw [s7, if_pos z])
          obtain ⟨b, hC⟩ := hS0.cur hl hn
          have hnl := hC.len
          have hn83 := nL_le 83 (curK l)
          have hn69 := nL_le 69 (curK l)
          refine x_aload_n (pc := 148) dX7_read_148 rfl ?_
          refine x_aload_n (pc := 149) dX7_read_149 rfl ?_
          refine x_bipush (pc := 150) dX7_read_150 (by decide) ?_
          refine x_callV1 (pc := 152) dX7_read_152 (k_RX7_113 _ rfl) tmv_X7_count (by assumption) rfl rfl rfl ?_
          refine x_room (d' := d + 2) (by omega) (Nat.le_refl _) (Nat.le_refl _) (c_m_count hM0 (by omega) hC ?_)
          dsimp only [Option.toList, List.cons_append, List.nil_append]
          refine x_if_le (pc := 155) 162 dX7_read_155 rfl (fun c_155 => ?_) (fun c_155 => ?_)
          · (try simp (disch := omega) only [zb_e0, zb_n0, w32_id, w64_id, ne_eq, Classical.not_not] at c_155)
            refine x_iconst (pc := 162) dX7_read_162 ?_
            refine x_topc (b := zb ((0 : Int) < nL 83 (curK l))) (by first | exact (zb_t (by omega)).symm | exact (zb_f (by omega)).symm) ?_
            refine x_aload_n (pc := 163) dX7_read_163 rfl ?_
            refine y_getI 2 (pc := 164) dX7_read_164 f_RX7_79 (by assumption) rfl (fun b_164 => ?_)
            rw [hl1]
            refine x_callV2 (pc := 167) dX7_read_167 (k_RX7_96 _ rfl) tmv_X7_must (by assumption) rfl rfl rfl ?_
            refine x_room (d' := d) (by omega) (Nat.le_refl _) (Nat.le_refl _) (c_m_must hM0 (P := (0 : Int) < nL 83 (curK l)) (by omega) s4 (by omega) ?_)
            dsimp only [Option.toList, List.cons_append, List.nil_append]
            refine x_pop (pc := 170) dX7_read_170 rfl ?_
            first
            | exact hK (Or.inl hl0)
            | (rw [mF_n (by omega)]
               exact hF hl (by omega))
            | (rw [mF_t (by omega)]
               exact hK (Or.inr (by omega)))
          · (try simp (disch := omega) only [zb_e0, zb_n0, w32_id, w64_id, ne_eq, Classical.not_not] at c_155)
            refine x_iconst (pc := 158) dX7_read_158 ?_
            refine x_goto (pc := 159) 163 dX7_read_159 rfl ?_
            refine x_topc (b := zb ((0 : Int) < nL 83 (curK l))) (by first | exact (zb_t (by omega)).symm | exact (zb_f (by omega)).symm) ?_
            refine x_aload_n (pc := 163) dX7_read_163 rfl ?_
            refine y_getI 2 (pc := 164) dX7_read_164 f_RX7_79 (by assumption) rfl (fun b_164 => ?_)
            rw [hl1]
            refine x_callV2 (pc := 167) dX7_read_167 (k_RX7_96 _ rfl) tmv_X7_must (by assumption) rfl rfl rfl ?_
            refine x_room (d' := d) (by omega) (Nat.le_refl _) (Nat.le_refl _) (c_m_must hM0 (P := (0 : Int) < nL 83 (curK l)) (by omega) s4 (by omega) ?_)
            dsimp only [Option.toList, List.cons_append, List.nil_append]
            refine x_pop (pc := 170) dX7_read_170 rfl ?_
            first
            | exact hK (Or.inl hl0)
            | (rw [mF_n (by omega)]
               exact hF hl (by omega))
            | (rw [mF_t (by omega)]
               exact hK (Or.inr (by omega)))
    · (try simp (disch := omega) only [zb_e0, zb_n0, w32_id, w64_id, ne_eq, Classical.not_not] at c_43)
      omega

set_option maxHeartbeats 4000000 in
set_option maxRecDepth 100000 in
theorem c_m_read50 {m : Int} (hM : isMT ty m) {p : Int} {l : List Row} {T : List Int} (hP : MTx h m T) (hT : TxOK T) (hS : RS h m p l) (hp : 0 ≤ p ∧ p ≤ T.length) (hE : p = T.length → zX D mX7_read (d + 6) 0 0 27 [(0, rV m)] [] ty sz h Q) (hB : p < T.length → lookT T p ≠ 59 → zX D mX7_read (d + 6) 0 0 27 [(0, rV m)] [] ty sz (zup h m 4 p) Q) (hG : p < T.length → lookT T p = 59 → p + 1 < T.length → zX D mX7_read (d + 6) 0 0 27 [(0, rV m)] [] ty sz (zup h m 3 (p + 1)) Q) (hG2 : p < T.length → lookT T p = 59 → p + 1 = T.length → zX D mX7_read (d + 6) 0 0 27 [(0, rV m)] [] ty sz (zup (zup h m 3 (p + 1)) m 4 (p + 1)) Q) : zX D mX7_read (d + 6) 0 0 50 [(0, rV m)] [] ty sz h Q := by
  have hM0 := hM
  obtain ⟨m9, m0, a1, a2, a3, a4, a5, a6, a7, a8, a9, a10, a11, a12, a13, a14, a15, a16, a17, a18, a19, a20, a21⟩ := hM
  have hT1 := hT.1
  have hS0 := hS
  obtain ⟨s3, s4, s5, s6, s7, s8⟩ := hS
  have hl1 := hP.1
  have hlr := lookT_rng hT p
  have e4 : zup h m 3 (p + 1) m 4 = -1 := by rw [zup_app, if_neg (by omega)]; exact s4
  have e3 : zup h m 3 (p + 1) m 3 = p + 1 := by simp [zup_app]
  have e2 : zup h m 3 (p + 1) m 2 = T.length := by rw [zup_app, if_neg (by omega)]; exact hl1
  refine x_aload_n (pc := 50) dX7_read_50 rfl ?_
  refine y_getI 4 (pc := 51) dX7_read_51 f_RX7_85 (by assumption) rfl (fun b_51 => ?_)
  rw [s4]
  refine x_iconst (pc := 54) dX7_read_54 ?_
  refine x_icmp_ne (pc := 55) 27 dX7_read_55 rfl (fun c_55 => ?_) (fun c_55 => ?_)
  · (try simp (disch := omega) only [zb_e0, zb_n0, w32_id, w64_id, ne_eq, Classical.not_not] at c_55)
    exact absurd trivial c_55
  · (try simp (disch := omega) only [zb_e0, zb_n0, w32_id, w64_id, ne_eq, Classical.not_not] at c_55)
    refine x_aload_n (pc := 58) dX7_read_58 rfl ?_
    refine y_getI 3 (pc := 59) dX7_read_59 f_RX7_82 (by assumption) rfl (fun b_59 => ?_)
    rw [s3]
    refine x_aload_n (pc := 62) dX7_read_62 rfl ?_
    refine y_getI 2 (pc := 63) dX7_read_63 f_RX7_79 (by assumption) rfl (fun b_63 => ?_)
    rw [hl1]
    refine x_icmp_ge (pc := 66) 27 dX7_read_66 rfl (fun c_66 => ?_) (fun c_66 => ?_)
    · (try simp (disch := omega) only [zb_e0, zb_n0, w32_id, w64_id, ne_eq, Classical.not_not] at c_66)
      first
      | exact hE (by omega)
      | exact hB (by omega) c_91
      | (rw [mF_t (by omega)]
         exact hG (by omega) c_91 (by omega))
      | (rw [mF_n (by omega)]
         exact hG2 (by omega) c_91 (by omega))
    · (try simp (disch := omega) only [zb_e0, zb_n0, w32_id, w64_id, ne_eq, Classical.not_not] at c_66)
      refine x_aload_n (pc := 69) dX7_read_69 rfl ?_
      refine x_aload_n (pc := 70) dX7_read_70 rfl ?_
      refine x_callV0 (pc := 71) dX7_read_71 (k_RX7_88 _ rfl) tmv_X7_look (by assumption) rfl rfl rfl ?_
      refine x_room (d' := d) (by omega) (Nat.le_refl _) (Nat.le_refl _) (c_m_look hM0 hP hT (by omega) ?_)
      rw [s3]
      dsimp only [Option.toList, List.cons_append, List.nil_append]
      refine x_bipush (pc := 74) dX7_read_74 (by decide) ?_
      refine x_icmp_ne (pc := 76) 83 dX7_read_76 rfl (fun c_76 => ?_) (fun c_76 => ?_)
      · (try simp (disch := omega) only [zb_e0, zb_n0, w32_id, w64_id, ne_eq, Classical.not_not] at c_76)
        refine x_iconst (pc := 83) dX7_read_83 ?_
        refine x_topc (b := zb (lookT T p = 59)) (by first | exact (zb_t (by omega)).symm | exact (zb_f (by omega)).symm) ?_
        refine x_aload_n (pc := 84) dX7_read_84 rfl ?_
        refine y_getI 3 (pc := 85) dX7_read_85 f_RX7_82 (by assumption) rfl (fun b_85 => ?_)
        rw [s3]
        refine x_callV2 (pc := 88) dX7_read_88 (k_RX7_96 _ rfl) tmv_X7_must (by assumption) rfl rfl rfl ?_
        refine x_room (d' := d) (by omega) (Nat.le_refl _) (Nat.le_refl _) (c_m_must hM0 (P := lookT T p = 59) (by omega) s4 (by omega) ?_)
        dsimp only [Option.toList, List.cons_append, List.nil_append]
        refine x_if_eq (pc := 91) 27 dX7_read_91 rfl (fun c_91 => ?_) (fun c_91 => ?_)
        · (try simp (disch := omega) only [zb_e0, zb_n0, w32_id, w64_id, ne_eq, Classical.not_not] at c_91)
          --
          rw [mF_n c_91]
          first
          | exact hE (by omega)
          | exact hB (by omega) c_91
          | (rw [mF_t (by omega)]
             exact hG (by omega) c_91 (by omega))
          | (rw [mF_n (by omega)]
             exact hG2 (by omega) c_91 (by omega))
        · (try simp (disch := omega) only [zb_e0, zb_n0, w32_id, w64_id, ne_eq, Classical.not_not] at c_91)
          exfalso
          omega
      · (try simp (disch := omega) only [zb_e0, zb_n0, w32_id, w64_id, ne_eq, Classical.not_not] at c_76)
        refine x_iconst (pc := 79) dX7_read_79 ?_
        refine x_goto (pc := 80) 84 dX7_read_80 rfl ?_
        refine x_topc (b := zb (lookT T p = 59)) (by first | exact (zb_t (by omega)).symm | exact (zb_f (by omega)).symm) ?_
        refine x_aload_n (pc := 84) dX7_read_84 rfl ?_
        refine y_getI 3 (pc := 85) dX7_read_85 f_RX7_82 (by assumption) rfl (fun b_85 => ?_)
        rw [s3]
        refine x_callV2 (pc := 88) dX7_read_88 (k_RX7_96 _ rfl) tmv_X7_must (by assumption) rfl rfl rfl ?_
        refine x_room (d' := d) (by omega) (Nat.le_refl _) (Nat.le_refl _) (c_m_must hM0 (P := lookT T p = 59) (by omega) s4 (by omega) ?_)
        dsimp only [Option.toList, List.cons_append, List.nil_append]
        refine x_if_eq (pc := 91) 27 dX7_read_91 rfl (fun c_91 => ?_) (fun c_91 => ?_)
        · (try simp (disch := omega) only [zb_e0, zb_n0, w32_id, w64_id, ne_eq, Classical.not_not] at c_91)
          exfalso
          omega
        · (try simp (disch := omega) only [zb_e0, zb_n0, w32_id, w64_id, ne_eq, Classical.not_not] at c_91)
          --
          rw [mF_t c_91]
          refine x_aload_n (pc := 94) dX7_read_94 rfl ?_
          refine x_dup (pc := 95) dX7_read_95 rfl ?_
          refine y_getI 3 (pc := 96) dX7_read_96 f_RX7_82 (by assumption) rfl (fun b_96 => ?_)
          rw [s3]
          refine x_iconst (pc := 99) dX7_read_99 ?_
          refine x_iadd (pc := 100) dX7_read_100 ?_
          refine y_putI 3 (pc := 101) dX7_read_101 f_RX7_82 (by assumption) rfl (by rfl) (by omega) rfl ?_
          refine x_aload_n (pc := 104) dX7_read_104 rfl ?_
          refine x_aload_n (pc := 105) dX7_read_105 rfl ?_
          refine y_getI 3 (pc := 106) dX7_read_106 f_RX7_82 (by assumption) rfl (fun b_106 => ?_)
          rw [e3]
          refine x_aload_n (pc := 109) dX7_read_109 rfl ?_
          refine y_getI 2 (pc := 110) dX7_read_110 f_RX7_79 (by assumption) rfl (fun b_110 => ?_)
          rw [e2]
          refine x_icmp_ge (pc := 113) 120 dX7_read_113 rfl (fun c_113 => ?_) (fun c_113 => ?_)
          · (try simp (disch := omega) only [zb_e0, zb_n0, w32_id, w64_id, ne_eq, Classical.not_not] at c_113)
            refine x_iconst (pc := 120) dX7_read_120 ?_
            refine x_topc (b := zb (p + 1 < T.length)) (by first | exact (zb_t (by omega)).symm | exact (zb_f (by omega)).symm) ?_
            refine x_aload_n (pc := 121) dX7_read_121 rfl ?_
            refine y_getI 3 (pc := 122) dX7_read_122 f_RX7_82 (by assumption) rfl (fun b_122 => ?_)
            rw [e3]
            refine x_callV2 (pc := 125) dX7_read_125 (k_RX7_96 _ rfl) tmv_X7_must (by assumption) rfl rfl rfl ?_
            refine x_room (d' := d) (by omega) (Nat.le_refl _) (Nat.le_refl _) (c_m_must hM0 (P := p + 1 < T.length) (by omega) e4 (by omega) ?_)
            dsimp only [Option.toList, List.cons_append, List.nil_append]
            refine x_pop (pc := 128) dX7_read_128 rfl ?_
            refine x_goto (pc := 129) 27 dX7_read_129 rfl ?_
            first
            | exact hE (by omega)
            | exact hB (by omega) c_91
            | (rw [mF_t (by omega)]
               exact hG (by omega) c_91 (by omega))
            | (rw [mF_n (by omega)]
               exact hG2 (by omega) c_91 (by omega))
          · (try simp (disch := omega) only [zb_e0, zb_n0, w32_id, w64_id, ne_eq, Classical.not_not] at c_113)
            refine x_iconst (pc := 116) dX7_read_116 ?_
            refine x_goto (pc := 117) 121 dX7_read_117 rfl ?_
            refine x_topc (b := zb (p + 1 < T.length)) (by first | exact (zb_t (by omega)).symm | exact (zb_f (by omega)).symm) ?_
            refine x_aload_n (pc := 121) dX7_read_121 rfl ?_
            refine y_getI 3 (pc := 122) dX7_read_122 f_RX7_82 (by assumption) rfl (fun b_122 => ?_)
            rw [e3]
            refine x_callV2 (pc := 125) dX7_read_125 (k_RX7_96 _ rfl) tmv_X7_must (by assumption) rfl rfl rfl ?_
            refine x_room (d' := d) (by omega) (Nat.le_refl _) (Nat.le_refl _) (c_m_must hM0 (P := p + 1 < T.length) (by omega) e4 (by omega) ?_)
            dsimp only [Option.toList, List.cons_append, List.nil_append]
            refine x_pop (pc := 128) dX7_read_128 rfl ?_
            refine x_goto (pc := 129) 27 dX7_read_129 rfl ?_
            first
            | exact hE (by omega)
            | exact hB (by omega) c_91
            | (rw [mF_t (by omega)]
               exact hG (by omega) c_91 (by omega))
            | (rw [mF_n (by omega)]
               exact hG2 (by omega) c_91 (by omega))

theorem c_m_read27 {m : Int} (hM : isMT ty m) {T : List Int} (hP : MTx h m T) (hT : TxOK T) (hqF : ∀ f, parse T = .inl f → 0 ≤ f ∧ f ≤ 1500 → ∀ g, FrR m h g → g m 4 = f → zX D mX7_read (d + 6) 0 0 171 [(0, rV m)] [] ty sz g Q) (hqK : ∀ l, parse T = .inr l → 3 * (l.length : Int) ≤ T.length + 1 → ∀ g, FrR m h g → g m 4 = -1 → g (m + 6) 5 = l.length → MR g m 2600 l → WF l → zX D mX7_read (d + 6) 0 0 171 [(0, rV m)] [] ty sz g Q) : ∀ (f : Nat) (p : Int) (l : List Row) (g : zH), 0 ≤ p → p < T.length → (T.length : Int) < p + f → 3 * (l.length : Int) ≤ p → parse T = prsS T f p l → FrR m h g → RS g m p l → zX D mX7_read (d + 6) 0 0 27 [(0, rV m)] [] ty sz g Q := by
  intro f
  induction f with
  | zero =>
    intro p l g h0 h1 h2
    omega
  | succ f ih =>
    intro p l g h0 h1 h2 h3 hpa hF hS
    have hT1 := hT.1
    have hPg := hF.T hP
    have hl1 := hPg.1
    have hM0 := hM
    obtain ⟨s3, s4, s5, s6, s7, s8⟩ := id hS
    obtain ⟨m9, m0, -⟩ := id hM
    refine x_aload_n (pc := 27) dX7_read_27 rfl ?_
    refine y_getI 4 (pc := 28) dX7_read_28 f_RX7_85 (by assumption) rfl (fun b_28 => ?_)
    rw [s4]
    refine x_iconst (pc := 31) dX7_read_31 ?_
    refine x_icmp_ne (pc := 32) 132 dX7_read_32 rfl (fun c_32 => absurd rfl c_32) (fun c_32 => ?_)
    refine x_aload_n (pc := 35) dX7_read_35 rfl ?_
    refine y_getI 3 (pc := 36) dX7_read_36 f_RX7_82 (by assumption) rfl (fun b_36 => ?_)
    rw [s3]
    refine x_aload_n (pc := 39) dX7_read_39 rfl ?_
    refine y_getI 2 (pc := 40) dX7_read_40 f_RX7_79 (by assumption) rfl (fun b_40 => ?_)
    rw [hl1]
    refine x_icmp_ge (pc := 43) 132 dX7_read_43 rfl (fun c_43 => ?_) (fun c_43 => ?_)
    · simp (disch := omega) only [w32_id] at c_43
      omega
    refine x_aload_n (pc := 46) dX7_read_46 rfl ?_
    refine x_callV0 (pc := 47) dX7_read_47 (k_RX7_152 _ rfl) tmv_X7_readRow (by assumption) rfl rfl rfl ?_
    refine c_m_readRow hM0 hPg hT hS (by omega) ⟨h0, h1⟩ (fun q hr hq0 g2 hF2 hg4 => ?_) (fun p' R hr g2 hF2 hS2 => ?_)
    · dsimp only [Option.toList, List.cons_append, List.nil_append]
      have hq : parse T = .inl q := by rw [hpa, prsS_f hr]
      have hq9 : q ≤ 1500 := rowS_le hT h0 (by omega) hr
      exact c_m_read50F hM0 (by omega) (hqF q hq ⟨hq0, hq9⟩ g2 (hF.t hF2) hg4)
    · dsimp only [Option.toList, List.cons_append, List.nil_append]
      obtain ⟨ho, hg1, hg2⟩ := rowS_good h0 hr
      rw [prsS_r hr] at hpa
      have hll : ((l ++ [R]).length : Int) = l.length + 1 := by simp
      have hPg2 := hF2.T hPg
      refine c_m_read50 hM0 hPg2 hT hS2 ⟨by omega, hg2⟩ (fun he => ?_) (fun he hc => ?_) (fun he hc he2 => ?_) (fun he hc he2 => ?_)
      · rw [if_pos he] at hpa
        refine c_m_read27E hM0 hPg2 hT hS2 (by omega) he (fun _ z => ?_) (fun z => ?_)
        · rw [if_pos z] at hpa
          exact hqF _ hpa (by omega) _ ((hF.t hF2).t (FrR.m _ (Or.inr (Or.inl rfl)))) (by simp [zup_app])
        · rcases z with z | z
          · simp at z
          · rw [if_neg z] at hpa
            exact hqK _ hpa (by omega) g2 (hF.t hF2) hS2.2.1 hS2.2.2.1 hS2.2.2.2.1 hS2.2.2.2.2.2
      · rw [if_neg (by omega), if_pos hc] at hpa
        exact c_m_read27F hM0 (by simp [zup_app]; omega) (hqF _ hpa (by omega) _ ((hF.t hF2).t (FrR.m _ (Or.inr (Or.inl rfl)))) (by simp [zup_app]))
      · rw [if_neg (by omega), if_neg (fun z => z hc)] at hpa
        obtain ⟨u3, u4, u5, u6, u7, u8⟩ := hS2
        exact ih (p' + 1) (l ++ [R]) _ (by omega) he2 (by omega) (by omega) hpa ((hF.t hF2).t (FrR.m _ (Or.inl rfl))) ⟨by simp [zup_app], by simp [zup_app, u4], by rw [zup_ne (by omega)]; exact u5, u6.fr (fun q q1 q2 => zup_ne (by omega)), by rw [zup_app, if_neg (by omega)]; exact u7, u8⟩
      · rw [if_neg (by omega), if_neg (fun z => z hc)] at hpa
        have hrn : rowS T (p' + 1) (l ++ [R]) = .inl (p' + 1) := by
          refine rowS_n (fun z => ?_)
          rw [lookT_out (by omega)] at z
          have := mayB_l z
          unfold isRowL at this
          omega
        have hpb : parse T = .inl (p' + 1) := by
          rw [hpa]
          cases f with
          | zero => omega
          | succ f => exact prsS_f hrn
        exact c_m_read27F hM0 (by simp [zup_app]; omega) (hqF _ hpb (by omega) _ (((hF.t hF2).t (FrR.m _ (Or.inl rfl))).t (FrR.m _ (Or.inr (Or.inl rfl)))) (by simp [zup_app]))

end C28
