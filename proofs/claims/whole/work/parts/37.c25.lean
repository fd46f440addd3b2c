section C25
variable {D : va_G} {d : Nat} {ty : zT} {sz : Nat} {h : zH} {Q : zQ}
set_option maxHeartbeats 4000000 in
set_option maxRecDepth 100000 in
theorem c_m_once94 {m : Int} (hM : isMT ty m) {v k c a : Int} (h4 : h m 4 ≠ -1) (hq : Q none ty sz h) : zX D mX7_readOnce (d + 4) 0 0 94 [(3, iV k), (0, rV m), (1, iV c), (2, iV a)] [iV v, iV c, rV m] ty sz h Q := by
  have hM0 := hM
  obtain ⟨m9, m0, a1, a2, a3, a4, a5, a6, a7, a8, a9, a10, a11, a12, a13, a14, a15, a16, a17, a18, a19, a20, a21⟩ := hM
  refine x_iconst (pc := 94) dX7_readOnce_94 ?_
  refine x_iconst (pc := 95) dX7_readOnce_95 ?_
  refine x_callV4 (pc := 96) dX7_readOnce_96 (k_RX7_117 _ rfl) tmv_X7_add (by assumption) rfl rfl rfl ?_
  refine x_room (d' := d + 2) (by omega) (Nat.le_refl _) (Nat.le_refl _) (c_m_addF hM0 h4 ?_)
  dsimp only [Option.toList, List.cons_append, List.nil_append]
  refine x_ret (pc := 99) ⟨dX7_readOnce_99, rfl⟩ ?_
  exact hq

set_option maxHeartbeats 4000000 in
set_option maxRecDepth 100000 in
theorem c_m_once172 {m : Int} (hM : isMT ty m) {v y u k c a : Int} (h4 : h m 4 ≠ -1) (hq : Q none ty sz h) : zX D mX7_readOnce (d + 4) 0 0 172 [(5, iV y), (4, iV u), (3, iV k), (0, rV m), (1, iV c), (2, iV a)] [iV v] ty sz h Q := by
  have hM0 := hM
  obtain ⟨m9, m0, a1, a2, a3, a4, a5, a6, a7, a8, a9, a10, a11, a12, a13, a14, a15, a16, a17, a18, a19, a20, a21⟩ := hM
  refine x_goto (pc := 172) 176 dX7_readOnce_172 rfl ?_
  refine x_istore (pc := 176) dX7_readOnce_176 (by decide) ?_
  refine x_aload_n (pc := 178) dX7_readOnce_178 rfl ?_
  refine x_iload_n (pc := 179) dX7_readOnce_179 rfl ?_
  refine x_iload (pc := 180) dX7_readOnce_180 rfl ?_
  refine x_iload (pc := 182) dX7_readOnce_182 rfl ?_
  refine x_iload (pc := 184) dX7_readOnce_184 rfl ?_
  refine x_callV4 (pc := 186) dX7_readOnce_186 (k_RX7_117 _ rfl) tmv_X7_add (by assumption) rfl rfl rfl ?_
  refine x_room (d' := d + 2) (by omega) (Nat.le_refl _) (Nat.le_refl _) (c_m_addF hM0 h4 ?_)
  dsimp only [Option.toList, List.cons_append, List.nil_append]
  refine x_ret (pc := 189) ⟨dX7_readOnce_189, rfl⟩ ?_
  exact hq

set_option maxHeartbeats 4000000 in
set_option maxRecDepth 100000 in
theorem c_m_once145 {m : Int} (hM : isMT ty m) {v u k c a : Int} (h4 : h m 4 ≠ -1) (hq : Q none ty sz h) : zX D mX7_readOnce (d + 4) 0 0 145 [(4, iV u), (3, iV k), (0, rV m), (1, iV c), (2, iV a)] [iV v] ty sz h Q := by
  have hM0 := hM
  obtain ⟨m9, m0, a1, a2, a3, a4, a5, a6, a7, a8, a9, a10, a11, a12, a13, a14, a15, a16, a17, a18, a19, a20, a21⟩ := hM
  refine x_goto (pc := 145) 149 dX7_readOnce_145 rfl ?_
  refine x_istore (pc := 149) dX7_readOnce_149 (by decide) ?_
  refine x_aload_n (pc := 151) dX7_readOnce_151 rfl ?_
  refine y_getI 4 (pc := 152) dX7_readOnce_152 f_RX7_85 (by assumption) rfl (fun b_152 => ?_)
  refine x_iconst (pc := 155) dX7_readOnce_155 ?_
  refine x_icmp_ne (pc := 156) 175 dX7_readOnce_156 rfl (fun c_156 => ?_) (fun c_156 => ?_)
  · (try simp (disch := omega) only [zb_e0, zb_n0, w32_id, w64_id, ne_eq, Classical.not_not] at c_156)
    refine x_iconst (pc := 175) dX7_readOnce_175 ?_
    refine x_istore (pc := 176) dX7_readOnce_176 (by decide) ?_
    refine x_aload_n (pc := 178) dX7_readOnce_178 rfl ?_
    refine x_iload_n (pc := 179) dX7_readOnce_179 rfl ?_
    refine x_iload (pc := 180) dX7_readOnce_180 rfl ?_
    refine x_iload (pc := 182) dX7_readOnce_182 rfl ?_
    refine x_iload (pc := 184) dX7_readOnce_184 rfl ?_
    refine x_callV4 (pc := 186) dX7_readOnce_186 (k_RX7_117 _ rfl) tmv_X7_add (by assumption) rfl rfl rfl ?_
    refine x_room (d' := d + 2) (by omega) (Nat.le_refl _) (Nat.le_refl _) (c_m_addF hM0 h4 ?_)
    dsimp only [Option.toList, List.cons_append, List.nil_append]
    refine x_ret (pc := 189) ⟨dX7_readOnce_189, rfl⟩ ?_
    exact hq
  · (try simp (disch := omega) only [zb_e0, zb_n0, w32_id, w64_id, ne_eq, Classical.not_not] at c_156)
    omega

set_option maxHeartbeats 4000000 in
set_option maxRecDepth 100000 in
theorem c_m_once117 {m : Int} (hM : isMT ty m) {v k c a : Int} (h4 : h m 4 ≠ -1) (hq : Q none ty sz h) : zX D mX7_readOnce (d + 4) 0 0 117 [(3, iV k), (0, rV m), (1, iV c), (2, iV a)] [iV v] ty sz h Q := by
  have hM0 := hM
  obtain ⟨m9, m0, a1, a2, a3, a4, a5, a6, a7, a8, a9, a10, a11, a12, a13, a14, a15, a16, a17, a18, a19, a20, a21⟩ := hM
  refine x_istore (pc := 117) dX7_readOnce_117 (by decide) ?_
  refine x_aload_n (pc := 119) dX7_readOnce_119 rfl ?_
  refine y_getI 4 (pc := 120) dX7_readOnce_120 f_RX7_85 (by assumption) rfl (fun b_120 => ?_)
  refine x_iconst (pc := 123) dX7_readOnce_123 ?_
  refine x_icmp_ne (pc := 124) 148 dX7_readOnce_124 rfl (fun c_124 => ?_) (fun c_124 => ?_)
  · (try simp (disch := omega) only [zb_e0, zb_n0, w32_id, w64_id, ne_eq, Classical.not_not] at c_124)
    refine x_iconst (pc := 148) dX7_readOnce_148 ?_
    refine x_istore (pc := 149) dX7_readOnce_149 (by decide) ?_
    refine x_aload_n (pc := 151) dX7_readOnce_151 rfl ?_
    refine y_getI 4 (pc := 152) dX7_readOnce_152 f_RX7_85 (by assumption) rfl (fun b_152 => ?_)
    refine x_iconst (pc := 155) dX7_readOnce_155 ?_
    refine x_icmp_ne (pc := 156) 175 dX7_readOnce_156 rfl (fun c_156 => ?_) (fun c_156 => ?_)
    · (try simp (disch := omega) only [zb_e0, zb_n0, w32_id, w64_id, ne_eq, Classical.not_not] at c_156)
      refine x_iconst (pc := 175) dX7_readOnce_175 ?_
      refine x_istore (pc := 176) dX7_readOnce_176 (by decide) ?_
      refine x_aload_n (pc := 178) dX7_readOnce_178 rfl ?_
      refine x_iload_n (pc := 179) dX7_readOnce_179 rfl ?_
      refine x_iload (pc := 180) dX7_readOnce_180 rfl ?_
      refine x_iload (pc := 182) dX7_readOnce_182 rfl ?_
      refine x_iload (pc := 184) dX7_readOnce_184 rfl ?_
      refine x_callV4 (pc := 186) dX7_readOnce_186 (k_RX7_117 _ rfl) tmv_X7_add (by assumption) rfl rfl rfl ?_
      refine x_room (d' := d + 2) (by omega) (Nat.le_refl _) (Nat.le_refl _) (c_m_addF hM0 h4 ?_)
      dsimp only [Option.toList, List.cons_append, List.nil_append]
      refine x_ret (pc := 189) ⟨dX7_readOnce_189, rfl⟩ ?_
      exact hq
    · (try simp (disch := omega) only [zb_e0, zb_n0, w32_id, w64_id, ne_eq, Classical.not_not] at c_156)
      omega
  · (try simp (disch := omega) only [zb_e0, zb_n0, w32_id, w64_id, ne_eq, Classical.not_not] at c_124)
    omega

set_option maxHeartbeats 4000000 in
set_option maxRecDepth 100000 in
theorem c_m_readOnce77 {m : Int} (hM : isMT ty m) {p : Int} {l : List Row} {T : List Int} (hP : MTx h m T) (hT : TxOK T) (hS : RS h m (p + 1) l) (hn : l.length ≤ 510) (hp : 0 ≤ p ∧ p + 1 ≤ T.length) (hl : l ≠ []) (hc : lookT T p = 77) (hqF : ∀ f, rowS T p l = .inl f → 0 ≤ f → ∀ h', FrR m h h' → h' m 4 = f → Q none ty sz h') (hqK : ∀ p' R, rowS T p l = .inr (p', R) → ∀ h', FrR m h h' → RS h' m p' (l ++ [R]) → Q none ty sz h') : zXM D mX7_readOnce (d + 4) 0 0 [rV m, iV 77, iV p] ty sz h Q := by
  have hM0 := hM
  obtain ⟨m9, m0, a1, a2, a3, a4, a5, a6, a7, a8, a9, a10, a11, a12, a13, a14, a15, a16, a17, a18, a19, a20, a21⟩ := hM
  have hT1 := hT.1
  have hS0 := hS
  obtain ⟨s3, s4, s5, s6, s7, s8⟩ := hS
  have hnr := numR_r T (p := p + 1) (by omega) hp.2
  obtain ⟨b, hC⟩ := hS0.cur hl hn
  have hnl := hC.len
  have hn83 := nL_le 83 (curK l)
  have hn69 := nL_le 69 (curK l)
  have hnc := nL_le 77 (curK l)
  refine x_iload_n (pc := 0) dX7_readOnce_0 rfl ?_
  refine x_bipush (pc := 1) dX7_readOnce_1 (by decide) ?_
  refine x_icmp_eq (pc := 3) 24 dX7_readOnce_3 rfl (fun c_3 => ?_) (fun c_3 => ?_)
  · (try simp (disch := omega) only [zb_e0, zb_n0, w32_id, w64_id, ne_eq, Classical.not_not] at c_3)
    all_goals (first | omega | exact absurd trivial c_3 | exact absurd c_3 (by decide) | exact absurd rfl c_3)
  · (try simp (disch := omega) only [zb_e0, zb_n0, w32_id, w64_id, ne_eq, Classical.not_not] at c_3)
    refine x_iload_n (pc := 6) dX7_readOnce_6 rfl ?_
    refine x_bipush (pc := 7) dX7_readOnce_7 (by decide) ?_
    refine x_icmp_eq (pc := 9) 24 dX7_readOnce_9 rfl (fun c_9 => ?_) (fun c_9 => ?_)
    · (try simp (disch := omega) only [zb_e0, zb_n0, w32_id, w64_id, ne_eq, Classical.not_not] at c_9)
      refine x_iconst (pc := 24) dX7_readOnce_24 ?_
      refine x_goto (pc := 25) 29 dX7_readOnce_25 rfl ?_
      refine x_istore_n (pc := 29) dX7_readOnce_29 (by decide) ?_
      refine x_aload_n (pc := 30) dX7_readOnce_30 rfl ?_
      refine x_iload_n (pc := 31) dX7_readOnce_31 rfl ?_
      refine x_topc (b := zb True) (zb_t trivial).symm ?_
      refine x_iload_n (pc := 32) dX7_readOnce_32 rfl ?_
      refine x_callV2 (pc := 33) dX7_readOnce_33 (k_RX7_96 _ rfl) tmv_X7_must (by assumption) rfl rfl rfl ?_
      refine x_room (d' := d) (by omega) (Nat.le_refl _) (Nat.le_refl _) (c_m_must hM0 (P := True) (by omega) s4 (by omega) ?_)
      dsimp only [Option.toList, List.cons_append, List.nil_append]
      refine x_if_eq (pc := 36) 60 dX7_readOnce_36 rfl (fun c_36 => ?_) (fun c_36 => ?_)
      · (try simp (disch := omega) only [zb_e0, zb_n0, w32_id, w64_id, ne_eq, Classical.not_not] at c_36)
        all_goals (first | exact absurd trivial c_36 | omega)
      · (try simp (disch := omega) only [zb_e0, zb_n0, w32_id, w64_id, ne_eq, Classical.not_not] at c_36)
        --
        rw [mF_t trivial]
        refine x_aload_n (pc := 39) dX7_readOnce_39 rfl ?_
        refine x_aload_n (pc := 40) dX7_readOnce_40 rfl ?_
        refine x_iload_n (pc := 41) dX7_readOnce_41 rfl ?_
        refine x_callV1 (pc := 42) dX7_readOnce_42 (k_RX7_113 _ rfl) tmv_X7_count (by assumption) rfl rfl rfl ?_
        refine x_room (d' := d + 2) (by omega) (Nat.le_refl _) (Nat.le_refl _) (c_m_count hM0 (by omega) hC ?_)
        dsimp only [Option.toList, List.cons_append, List.nil_append]
        refine x_if_ne (pc := 45) 52 dX7_readOnce_45 rfl (fun c_45 => ?_) (fun c_45 => ?_)
        · (try simp (disch := omega) only [zb_e0, zb_n0, w32_id, w64_id, ne_eq, Classical.not_not] at c_45)
          refine x_iconst (pc := 52) dX7_readOnce_52 ?_
          refine x_topc (b := zb ((nL 77 (curK l) : Int) = 0)) (by first | exact (zb_t (by omega)).symm | exact (zb_f (by omega)).symm) ?_
          refine x_iload_n (pc := 53) dX7_readOnce_53 rfl ?_
          refine x_callV2 (pc := 54) dX7_readOnce_54 (k_RX7_96 _ rfl) tmv_X7_must (by assumption) rfl rfl rfl ?_
          refine x_room (d' := d) (by omega) (Nat.le_refl _) (Nat.le_refl _) (c_m_must hM0 (P := (nL 77 (curK l) : Int) = 0) (by omega) s4 (by omega) ?_)
          dsimp only [Option.toList, List.cons_append, List.nil_append]
          refine x_if_ne (pc := 57) 61 dX7_readOnce_57 rfl (fun c_57 => ?_) (fun c_57 => ?_)
          · (try simp (disch := omega) only [zb_e0, zb_n0, w32_id, w64_id, ne_eq, Classical.not_not] at c_57)
            exfalso
            omega
          · (try simp (disch := omega) only [zb_e0, zb_n0, w32_id, w64_id, ne_eq, Classical.not_not] at c_57)
            --
            rw [mF_n c_57]
            refine x_ret (pc := 60) ⟨dX7_readOnce_60, rfl⟩ ?_
            refine hqF p (rowS_n ?_) (by omega) _ (FrR.m h (Or.inr (Or.inl rfl))) (by simp [zup_app])
            rw [hc]
            unfold mayB
            omega
        · (try simp (disch := omega) only [zb_e0, zb_n0, w32_id, w64_id, ne_eq, Classical.not_not] at c_45)
          refine x_iconst (pc := 48) dX7_readOnce_48 ?_
          refine x_goto (pc := 49) 53 dX7_readOnce_49 rfl ?_
          refine x_topc (b := zb ((nL 77 (curK l) : Int) = 0)) (by first | exact (zb_t (by omega)).symm | exact (zb_f (by omega)).symm) ?_
          refine x_iload_n (pc := 53) dX7_readOnce_53 rfl ?_
          refine x_callV2 (pc := 54) dX7_readOnce_54 (k_RX7_96 _ rfl) tmv_X7_must (by assumption) rfl rfl rfl ?_
          refine x_room (d' := d) (by omega) (Nat.le_refl _) (Nat.le_refl _) (c_m_must hM0 (P := (nL 77 (curK l) : Int) = 0) (by omega) s4 (by omega) ?_)
          dsimp only [Option.toList, List.cons_append, List.nil_append]
          refine x_if_ne (pc := 57) 61 dX7_readOnce_57 rfl (fun c_57 => ?_) (fun c_57 => ?_)
          · (try simp (disch := omega) only [zb_e0, zb_n0, w32_id, w64_id, ne_eq, Classical.not_not] at c_57)
            --
            rw [mF_t c_57]
            have hmb : mayB l 77 := Or.inr ⟨hl, by omega⟩
            refine x_iload_n (pc := 61) dX7_readOnce_61 rfl ?_
            refine x_bipush (pc := 62) dX7_readOnce_62 (by decide) ?_
            refine x_icmp_eq (pc := 64) 73 dX7_readOnce_64 rfl (fun c_64 => ?_) (fun c_64 => ?_)
            · (try simp (disch := omega) only [zb_e0, zb_n0, w32_id, w64_id, ne_eq, Classical.not_not] at c_64)
              refine x_aload_n (pc := 73) dX7_readOnce_73 rfl ?_
              refine x_iload_n (pc := 74) dX7_readOnce_74 rfl ?_
              refine x_aload_n (pc := 75) dX7_readOnce_75 rfl ?_
              refine x_iconst (pc := 76) dX7_readOnce_76 ?_
              refine x_iload_n (pc := 77) dX7_readOnce_77 rfl ?_
              refine x_bipush (pc := 78) dX7_readOnce_78 (by decide) ?_
              refine x_icmp_ne (pc := 80) 88 dX7_readOnce_80 rfl (fun c_80 => ?_) (fun c_80 => ?_)
              · (try simp (disch := omega) only [zb_e0, zb_n0, w32_id, w64_id, ne_eq, Classical.not_not] at c_80)
                all_goals (first | omega | exact absurd trivial c_80 | exact absurd c_80 (by decide) | exact absurd rfl c_80)
              · (try simp (disch := omega) only [zb_e0, zb_n0, w32_id, w64_id, ne_eq, Classical.not_not] at c_80)
                refine x_ldc (pc := 83) dX7_readOnce_83 (9999999) tc_RX7_124 (by decide) ?_
                refine x_goto (pc := 85) 91 dX7_readOnce_85 rfl ?_
                refine x_callV2 (pc := 91) dX7_readOnce_91 (k_RX7_100 _ rfl) tmv_X7_number (by assumption) rfl rfl rfl ?_
                refine x_room (d' := d + 2) (by omega) (Nat.le_refl _) (Nat.le_refl _) (c_m_number hM0 hP hT s3 (by omega) s4 (by omega) ?_)
                by_cases hb : ¬ ((numR T (p + 1)).2 ≠ p + 1 ∧ 1 ≤ (numR T (p + 1)).1 ∧ (numR T (p + 1)).1 ≤ 9999999)
                · rw [mF_n hb]
                  dsimp only [Option.toList, List.cons_append, List.nil_append]
                  have hr := rs_b1 hc hmb (by unfold okN; omega)
                  exact x_loc _ (by exact ⟨rfl, rfl, rfl, rfl, trivial⟩) (c_m_once94 hM0 (by simp [zup_app]; omega) (hqF _ hr (by omega) _ ((FrR.m h (Or.inl rfl)).t (FrR.m _ (Or.inr (Or.inl rfl)))) (by simp [zup_app])))
                replace hb := Classical.not_not.mp hb
                rw [mF_t hb]
                have hr := rs_k1 hc hmb (by decide) (by unfold okN; omega)
                dsimp only [Option.toList, List.cons_append, List.nil_append]
                refine x_iconst (pc := 94) dX7_readOnce_94 ?_
                refine x_iconst (pc := 95) dX7_readOnce_95 ?_
                refine x_callV4 (pc := 96) dX7_readOnce_96 (k_RX7_117 _ rfl) tmv_X7_add (by assumption) rfl rfl rfl ?_
                have hg : ∀ x, m + 2 ≤ x → x ≤ m + 6 → zup h m 3 (numR T (p + 1)).2 x = h x := fun x x1 x2 => zup_ne (by omega)
                have hgo := rowS_good hp.1 hr
                refine x_room (d' := d + 2) (by omega) (Nat.le_refl _) (Nat.le_refl _) (c_m_add hM0 (N := (l.length : Int)) (by omega) (by simp [zup_app, s4]) (by rw [hg (m + 6) (by omega) (by omega)]; exact s5) (by omega) ?_)
                have hRA := RS_add (p2 := (numR T (p + 1)).2) (g := zup h m 3 (numR T (p + 1)).2) hS0 hn hgo.1 (FrR.m h (Or.inl rfl)) hg (by simp [zup_app]) (by simp [zup_app, s4]) (by rw [zup_app, if_neg (by omega), if_neg (by decide)])
                dsimp only [Option.toList, List.cons_append, List.nil_append]
                refine x_ret (pc := 99) ⟨dX7_readOnce_99, rfl⟩ ?_
                exact hqK _ _ hr _ hRA.1 hRA.2
            · (try simp (disch := omega) only [zb_e0, zb_n0, w32_id, w64_id, ne_eq, Classical.not_not] at c_64)
              all_goals (first | omega | exact absurd trivial c_64 | exact absurd c_64 (by decide) | exact absurd rfl c_64)
          · (try simp (disch := omega) only [zb_e0, zb_n0, w32_id, w64_id, ne_eq, Classical.not_not] at c_57)
            exfalso
            omega
    · (try simp (disch := omega) only [zb_e0, zb_n0, w32_id, w64_id, ne_eq, Classical.not_not] at c_9)
      all_goals (first | omega | exact absurd trivial c_9 | exact absurd c_9 (by decide) | exact absurd rfl c_9)

set_option maxHeartbeats 4000000 in
set_option maxRecDepth 100000 in
theorem c_m_readOnce82 {m : Int} (hM : isMT ty m) {p : Int} {l : List Row} {T : List Int} (hP : MTx h m T) (hT : TxOK T) (hS : RS h m (p + 1) l) (hn : l.length ≤ 510) (hp : 0 ≤ p ∧ p + 1 ≤ T.length) (hl : l ≠ []) (hc : lookT T p = 82) (hqF : ∀ f, rowS T p l = .inl f → 0 ≤ f → ∀ h', FrR m h h' → h' m 4 = f → Q none ty sz h') (hqK : ∀ p' R, rowS T p l = .inr (p', R) → ∀ h', FrR m h h' → RS h' m p' (l ++ [R]) → Q none ty sz h') : zXM D mX7_readOnce (d + 4) 0 0 [rV m, iV 82, iV p] ty sz h Q := by
  have hM0 := hM
  obtain ⟨m9, m0, a1, a2, a3, a4, a5, a6, a7, a8, a9, a10, a11, a12, a13, a14, a15, a16, a17, a18, a19, a20, a21⟩ := hM
  have hT1 := hT.1
  have hS0 := hS
  obtain ⟨s3, s4, s5, s6, s7, s8⟩ := hS
  have hnr := numR_r T (p := p + 1) (by omega) hp.2
  obtain ⟨b, hC⟩ := hS0.cur hl hn
  have hnl := hC.len
  have hn83 := nL_le 83 (curK l)
  have hn69 := nL_le 69 (curK l)
  have hnc := nL_le 82 (curK l)
  refine x_iload_n (pc := 0) dX7_readOnce_0 rfl ?_
  refine x_bipush (pc := 1) dX7_readOnce_1 (by decide) ?_
  refine x_icmp_eq (pc := 3) 24 dX7_readOnce_3 rfl (fun c_3 => ?_) (fun c_3 => ?_)
  · (try simp (disch := omega) only [zb_e0, zb_n0, w32_id, w64_id, ne_eq, Classical.not_not] at c_3)
    all_goals (first | omega | exact absurd trivial c_3 | exact absurd c_3 (by decide) | exact absurd rfl c_3)
  · (try simp (disch := omega) only [zb_e0, zb_n0, w32_id, w64_id, ne_eq, Classical.not_not] at c_3)
    refine x_iload_n (pc := 6) dX7_readOnce_6 rfl ?_
    refine x_bipush (pc := 7) dX7_readOnce_7 (by decide) ?_
    refine x_icmp_eq (pc := 9) 24 dX7_readOnce_9 rfl (fun c_9 => ?_) (fun c_9 => ?_)
    · (try simp (disch := omega) only [zb_e0, zb_n0, w32_id, w64_id, ne_eq, Classical.not_not] at c_9)
      all_goals (first | omega | exact absurd trivial c_9 | exact absurd c_9 (by decide) | exact absurd rfl c_9)
    · (try simp (disch := omega) only [zb_e0, zb_n0, w32_id, w64_id, ne_eq, Classical.not_not] at c_9)
      refine x_iload_n (pc := 12) dX7_readOnce_12 rfl ?_
      refine x_bipush (pc := 13) dX7_readOnce_13 (by decide) ?_
      refine x_icmp_eq (pc := 15) 24 dX7_readOnce_15 rfl (fun c_15 => ?_) (fun c_15 => ?_)
      · (try simp (disch := omega) only [zb_e0, zb_n0, w32_id, w64_id, ne_eq, Classical.not_not] at c_15)
        all_goals (first | omega | exact absurd trivial c_15 | exact absurd c_15 (by decide) | exact absurd rfl c_15)
      · (try simp (disch := omega) only [zb_e0, zb_n0, w32_id, w64_id, ne_eq, Classical.not_not] at c_15)
        refine x_iload_n (pc := 18) dX7_readOnce_18 rfl ?_
        refine x_bipush (pc := 19) dX7_readOnce_19 (by decide) ?_
        refine x_icmp_ne (pc := 21) 28 dX7_readOnce_21 rfl (fun c_21 => ?_) (fun c_21 => ?_)
        · (try simp (disch := omega) only [zb_e0, zb_n0, w32_id, w64_id, ne_eq, Classical.not_not] at c_21)
          all_goals (first | omega | exact absurd trivial c_21 | exact absurd c_21 (by decide) | exact absurd rfl c_21)
        · (try simp (disch := omega) only [zb_e0, zb_n0, w32_id, w64_id, ne_eq, Classical.not_not] at c_21)
          refine x_iconst (pc := 24) dX7_readOnce_24 ?_
          refine x_goto (pc := 25) 29 dX7_readOnce_25 rfl ?_
          refine x_istore_n (pc := 29) dX7_readOnce_29 (by decide) ?_
          refine x_aload_n (pc := 30) dX7_readOnce_30 rfl ?_
          refine x_iload_n (pc := 31) dX7_readOnce_31 rfl ?_
          refine x_topc (b := zb True) (zb_t trivial).symm ?_
          refine x_iload_n (pc := 32) dX7_readOnce_32 rfl ?_
          refine x_callV2 (pc := 33) dX7_readOnce_33 (k_RX7_96 _ rfl) tmv_X7_must (by assumption) rfl rfl rfl ?_
          refine x_room (d' := d) (by omega) (Nat.le_refl _) (Nat.le_refl _) (c_m_must hM0 (P := True) (by omega) s4 (by omega) ?_)
          dsimp only [Option.toList, List.cons_append, List.nil_append]
          refine x_if_eq (pc := 36) 60 dX7_readOnce_36 rfl (fun c_36 => ?_) (fun c_36 => ?_)
          · (try simp (disch := omega) only [zb_e0, zb_n0, w32_id, w64_id, ne_eq, Classical.not_not] at c_36)
            all_goals (first | exact absurd trivial c_36 | omega)
          · (try simp (disch := omega) only [zb_e0, zb_n0, w32_id, w64_id, ne_eq, Classical.not_not] at c_36)
            --
            rw [mF_t trivial]
            refine x_aload_n (pc := 39) dX7_readOnce_39 rfl ?_
            refine x_aload_n (pc := 40) dX7_readOnce_40 rfl ?_
            refine x_iload_n (pc := 41) dX7_readOnce_41 rfl ?_
            refine x_callV1 (pc := 42) dX7_readOnce_42 (k_RX7_113 _ rfl) tmv_X7_count (by assumption) rfl rfl rfl ?_
            refine x_room (d' := d + 2) (by omega) (Nat.le_refl _) (Nat.le_refl _) (c_m_count hM0 (by omega) hC ?_)
            dsimp only [Option.toList, List.cons_append, List.nil_append]
            refine x_if_ne (pc := 45) 52 dX7_readOnce_45 rfl (fun c_45 => ?_) (fun c_45 => ?_)
            · (try simp (disch := omega) only [zb_e0, zb_n0, w32_id, w64_id, ne_eq, Classical.not_not] at c_45)
              refine x_iconst (pc := 52) dX7_readOnce_52 ?_
              refine x_topc (b := zb ((nL 82 (curK l) : Int) = 0)) (by first | exact (zb_t (by omega)).symm | exact (zb_f (by omega)).symm) ?_
              refine x_iload_n (pc := 53) dX7_readOnce_53 rfl ?_
              refine x_callV2 (pc := 54) dX7_readOnce_54 (k_RX7_96 _ rfl) tmv_X7_must (by assumption) rfl rfl rfl ?_
              refine x_room (d' := d) (by omega) (Nat.le_refl _) (Nat.le_refl _) (c_m_must hM0 (P := (nL 82 (curK l) : Int) = 0) (by omega) s4 (by omega) ?_)
              dsimp only [Option.toList, List.cons_append, List.nil_append]
              refine x_if_ne (pc := 57) 61 dX7_readOnce_57 rfl (fun c_57 => ?_) (fun c_57 => ?_)
              · (try simp (disch := omega) only [zb_e0, zb_n0, w32_id, w64_id, ne_eq, Classical.not_not] at c_57)
                exfalso
                omega
              · (try simp (disch := omega) only [zb_e0, zb_n0, w32_id, w64_id, ne_eq, Classical.not_not] at c_57)
                --
                rw [mF_n c_57]
                refine x_ret (pc := 60) ⟨dX7_readOnce_60, rfl⟩ ?_
                refine hqF p (rowS_n ?_) (by omega) _ (FrR.m h (Or.inr (Or.inl rfl))) (by simp [zup_app])
                rw [hc]
                unfold mayB
                omega
            · (try simp (disch := omega) only [zb_e0, zb_n0, w32_id, w64_id, ne_eq, Classical.not_not] at c_45)
              refine x_iconst (pc := 48) dX7_readOnce_48 ?_
              refine x_goto (pc := 49) 53 dX7_readOnce_49 rfl ?_
              refine x_topc (b := zb ((nL 82 (curK l) : Int) = 0)) (by first | exact (zb_t (by omega)).symm | exact (zb_f (by omega)).symm) ?_
              refine x_iload_n (pc := 53) dX7_readOnce_53 rfl ?_
              refine x_callV2 (pc := 54) dX7_readOnce_54 (k_RX7_96 _ rfl) tmv_X7_must (by assumption) rfl rfl rfl ?_
              refine x_room (d' := d) (by omega) (Nat.le_refl _) (Nat.le_refl _) (c_m_must hM0 (P := (nL 82 (curK l) : Int) = 0) (by omega) s4 (by omega) ?_)
              dsimp only [Option.toList, List.cons_append, List.nil_append]
              refine x_if_ne (pc := 57) 61 dX7_readOnce_57 rfl (fun c_57 => ?_) (fun c_57 => ?_)
              · (try simp (disch := omega) only [zb_e0, zb_n0, w32_id, w64_id, ne_eq, Classical.not_not] at c_57)
                --
                rw [mF_t c_57]
                have hmb : mayB l 82 := Or.inr ⟨hl, by omega⟩
                refine x_iload_n (pc := 61) dX7_readOnce_61 rfl ?_
                refine x_bipush (pc := 62) dX7_readOnce_62 (by decide) ?_
                refine x_icmp_eq (pc := 64) 73 dX7_readOnce_64 rfl (fun c_64 => ?_) (fun c_64 => ?_)
                · (try simp (disch := omega) only [zb_e0, zb_n0, w32_id, w64_id, ne_eq, Classical.not_not] at c_64)
                  all_goals (first | omega | exact absurd trivial c_64 | exact absurd c_64 (by decide) | exact absurd rfl c_64)
                · (try simp (disch := omega) only [zb_e0, zb_n0, w32_id, w64_id, ne_eq, Classical.not_not] at c_64)
                  refine x_iload_n (pc := 67) dX7_readOnce_67 rfl ?_
                  refine x_bipush (pc := 68) dX7_readOnce_68 (by decide) ?_
                  refine x_icmp_ne (pc := 70) 100 dX7_readOnce_70 rfl (fun c_70 => ?_) (fun c_70 => ?_)
                  · (try simp (disch := omega) only [zb_e0, zb_n0, w32_id, w64_id, ne_eq, Classical.not_not] at c_70)
                    all_goals (first | omega | exact absurd trivial c_70 | exact absurd c_70 (by decide) | exact absurd rfl c_70)
                  · (try simp (disch := omega) only [zb_e0, zb_n0, w32_id, w64_id, ne_eq, Classical.not_not] at c_70)
                    refine x_aload_n (pc := 73) dX7_readOnce_73 rfl ?_
                    refine x_iload_n (pc := 74) dX7_readOnce_74 rfl ?_
                    refine x_aload_n (pc := 75) dX7_readOnce_75 rfl ?_
                    refine x_iconst (pc := 76) dX7_readOnce_76 ?_
                    refine x_iload_n (pc := 77) dX7_readOnce_77 rfl ?_
                    refine x_bipush (pc := 78) dX7_readOnce_78 (by decide) ?_
                    refine x_icmp_ne (pc := 80) 88 dX7_readOnce_80 rfl (fun c_80 => ?_) (fun c_80 => ?_)
                    · (try simp (disch := omega) only [zb_e0, zb_n0, w32_id, w64_id, ne_eq, Classical.not_not] at c_80)
                      refine x_sipush (pc := 88) dX7_readOnce_88 (by decide) ?_
                      refine x_callV2 (pc := 91) dX7_readOnce_91 (k_RX7_100 _ rfl) tmv_X7_number (by assumption) rfl rfl rfl ?_
                      refine x_room (d' := d + 2) (by omega) (Nat.le_refl _) (Nat.le_refl _) (c_m_number hM0 hP hT s3 (by omega) s4 (by omega) ?_)
                      by_cases hb : ¬ ((numR T (p + 1)).2 ≠ p + 1 ∧ 1 ≤ (numR T (p + 1)).1 ∧ (numR T (p + 1)).1 ≤ 1000)
                      · rw [mF_n hb]
                        dsimp only [Option.toList, List.cons_append, List.nil_append]
                        have hr := rs_b1 hc hmb (by unfold okN; omega)
                        exact x_loc _ (by exact ⟨rfl, rfl, rfl, rfl, trivial⟩) (c_m_once94 hM0 (by simp [zup_app]; omega) (hqF _ hr (by omega) _ ((FrR.m h (Or.inl rfl)).t (FrR.m _ (Or.inr (Or.inl rfl)))) (by simp [zup_app])))
                      replace hb := Classical.not_not.mp hb
                      rw [mF_t hb]
                      have hr := rs_k1 hc hmb (by decide) (by unfold okN; omega)
                      dsimp only [Option.toList, List.cons_append, List.nil_append]
                      refine x_iconst (pc := 94) dX7_readOnce_94 ?_
                      refine x_iconst (pc := 95) dX7_readOnce_95 ?_
                      refine x_callV4 (pc := 96) dX7_readOnce_96 (k_RX7_117 _ rfl) tmv_X7_add (by assumption) rfl rfl rfl ?_
                      have hg : ∀ x, m + 2 ≤ x → x ≤ m + 6 → zup h m 3 (numR T (p + 1)).2 x = h x := fun x x1 x2 => zup_ne (by omega)
                      have hgo := rowS_good hp.1 hr
                      refine x_room (d' := d + 2) (by omega) (Nat.le_refl _) (Nat.le_refl _) (c_m_add hM0 (N := (l.length : Int)) (by omega) (by simp [zup_app, s4]) (by rw [hg (m + 6) (by omega) (by omega)]; exact s5) (by omega) ?_)
                      have hRA := RS_add (p2 := (numR T (p + 1)).2) (g := zup h m 3 (numR T (p + 1)).2) hS0 hn hgo.1 (FrR.m h (Or.inl rfl)) hg (by simp [zup_app]) (by simp [zup_app, s4]) (by rw [zup_app, if_neg (by omega), if_neg (by decide)])
                      dsimp only [Option.toList, List.cons_append, List.nil_append]
                      refine x_ret (pc := 99) ⟨dX7_readOnce_99, rfl⟩ ?_
                      exact hqK _ _ hr _ hRA.1 hRA.2
                    · (try simp (disch := omega) only [zb_e0, zb_n0, w32_id, w64_id, ne_eq, Classical.not_not] at c_80)
                      all_goals (first | omega | exact absurd trivial c_80 | exact absurd c_80 (by decide) | exact absurd rfl c_80)
              · (try simp (disch := omega) only [zb_e0, zb_n0, w32_id, w64_id, ne_eq, Classical.not_not] at c_57)
                exfalso
                omega

set_option maxHeartbeats 4000000 in
set_option maxRecDepth 100000 in
theorem c_m_readOnce70 {m : Int} (hM : isMT ty m) {p : Int} {l : List Row} {T : List Int} (hP : MTx h m T) (hT : TxOK T) (hS : RS h m (p + 1) l) (hn : l.length ≤ 510) (hp : 0 ≤ p ∧ p + 1 ≤ T.length) (hl : l ≠ []) (hc : lookT T p = 70) (hqF : ∀ f, rowS T p l = .inl f → 0 ≤ f → ∀ h', FrR m h h' → h' m 4 = f → Q none ty sz h') (hqK : ∀ p' R, rowS T p l = .inr (p', R) → ∀ h', FrR m h h' → RS h' m p' (l ++ [R]) → Q none ty sz h') : zXM D mX7_readOnce (d + 4) 0 0 [rV m, iV 70, iV p] ty sz h Q := by
  have hM0 := hM
  obtain ⟨m9, m0, a1, a2, a3, a4, a5, a6, a7, a8, a9, a10, a11, a12, a13, a14, a15, a16, a17, a18, a19, a20, a21⟩ := hM
  have hT1 := hT.1
  have hS0 := hS
  obtain ⟨s3, s4, s5, s6, s7, s8⟩ := hS
  have hnr := numR_r T (p := p + 1) (by omega) hp.2
  obtain ⟨b, hC⟩ := hS0.cur hl hn
  have hnl := hC.len
  have hn83 := nL_le 83 (curK l)
  have hn69 := nL_le 69 (curK l)
  have hnc := nL_le 70 (curK l)
  refine x_iload_n (pc := 0) dX7_readOnce_0 rfl ?_
  refine x_bipush (pc := 1) dX7_readOnce_1 (by decide) ?_
  refine x_icmp_eq (pc := 3) 24 dX7_readOnce_3 rfl (fun c_3 => ?_) (fun c_3 => ?_)
  · (try simp (disch := omega) only [zb_e0, zb_n0, w32_id, w64_id, ne_eq, Classical.not_not] at c_3)
    all_goals (first | omega | exact absurd trivial c_3 | exact absurd c_3 (by decide) | exact absurd rfl c_3)
  · (try simp (disch := omega) only [zb_e0, zb_n0, w32_id, w64_id, ne_eq, Classical.not_not] at c_3)
    refine x_iload_n (pc := 6) dX7_readOnce_6 rfl ?_
    refine x_bipush (pc := 7) dX7_readOnce_7 (by decide) ?_
    refine x_icmp_eq (pc := 9) 24 dX7_readOnce_9 rfl (fun c_9 => ?_) (fun c_9 => ?_)
    · (try simp (disch := omega) only [zb_e0, zb_n0, w32_id, w64_id, ne_eq, Classical.not_not] at c_9)
      all_goals (first | omega | exact absurd trivial c_9 | exact absurd c_9 (by decide) | exact absurd rfl c_9)
    · (try simp (disch := omega) only [zb_e0, zb_n0, w32_id, w64_id, ne_eq, Classical.not_not] at c_9)
      refine x_iload_n (pc := 12) dX7_readOnce_12 rfl ?_
      refine x_bipush (pc := 13) dX7_readOnce_13 (by decide) ?_
      refine x_icmp_eq (pc := 15) 24 dX7_readOnce_15 rfl (fun c_15 => ?_) (fun c_15 => ?_)
      · (try simp (disch := omega) only [zb_e0, zb_n0, w32_id, w64_id, ne_eq, Classical.not_not] at c_15)
        refine x_iconst (pc := 24) dX7_readOnce_24 ?_
        refine x_goto (pc := 25) 29 dX7_readOnce_25 rfl ?_
        refine x_istore_n (pc := 29) dX7_readOnce_29 (by decide) ?_
        refine x_aload_n (pc := 30) dX7_readOnce_30 rfl ?_
        refine x_iload_n (pc := 31) dX7_readOnce_31 rfl ?_
        refine x_topc (b := zb True) (zb_t trivial).symm ?_
        refine x_iload_n (pc := 32) dX7_readOnce_32 rfl ?_
        refine x_callV2 (pc := 33) dX7_readOnce_33 (k_RX7_96 _ rfl) tmv_X7_must (by assumption) rfl rfl rfl ?_
        refine x_room (d' := d) (by omega) (Nat.le_refl _) (Nat.le_refl _) (c_m_must hM0 (P := True) (by omega) s4 (by omega) ?_)
        dsimp only [Option.toList, List.cons_append, List.nil_append]
        refine x_if_eq (pc := 36) 60 dX7_readOnce_36 rfl (fun c_36 => ?_) (fun c_36 => ?_)
        · (try simp (disch := omega) only [zb_e0, zb_n0, w32_id, w64_id, ne_eq, Classical.not_not] at c_36)
          all_goals (first | exact absurd trivial c_36 | omega)
        · (try simp (disch := omega) only [zb_e0, zb_n0, w32_id, w64_id, ne_eq, Classical.not_not] at c_36)
          --
          rw [mF_t trivial]
          refine x_aload_n (pc := 39) dX7_readOnce_39 rfl ?_
          refine x_aload_n (pc := 40) dX7_readOnce_40 rfl ?_
          refine x_iload_n (pc := 41) dX7_readOnce_41 rfl ?_
          refine x_callV1 (pc := 42) dX7_readOnce_42 (k_RX7_113 _ rfl) tmv_X7_count (by assumption) rfl rfl rfl ?_
          refine x_room (d' := d + 2) (by omega) (Nat.le_refl _) (Nat.le_refl _) (c_m_count hM0 (by omega) hC ?_)
          dsimp only [Option.toList, List.cons_append, List.nil_append]
          refine x_if_ne (pc := 45) 52 dX7_readOnce_45 rfl (fun c_45 => ?_) (fun c_45 => ?_)
          · (try simp (disch := omega) only [zb_e0, zb_n0, w32_id, w64_id, ne_eq, Classical.not_not] at c_45)
            refine x_iconst (pc := 52) dX7_readOnce_52 ?_
            refine x_topc (b := zb ((nL 70 (curK l) : Int) = 0)) (by first | exact (zb_t (by omega)).symm | exact (zb_f (by omega)).symm) ?_
            refine x_iload_n (pc := 53) dX7_readOnce_53 rfl ?_
            refine x_callV2 (pc := 54) dX7_readOnce_54 (k_RX7_96 _ rfl) tmv_X7_must (by assumption) rfl rfl rfl ?_
            refine x_room (d' := d) (by omega) (Nat.le_refl _) (Nat.le_refl _) (c_m_must hM0 (P := (nL 70 (curK l) : Int) = 0) (by omega) s4 (by omega) ?_)
            dsimp only [Option.toList, List.cons_append, List.nil_append]
            refine x_if_ne (pc := 57) 61 dX7_readOnce_57 rfl (fun c_57 => ?_) (fun c_57 => ?_)
            · (try simp (disch := omega) only [zb_e0, zb_n0, w32_id, w64_id, ne_eq, Classical.not_not] at c_57)
              exfalso
              omega
            · (try simp (disch := omega) only [zb_e0, zb_n0, w32_id, w64_id, ne_eq, Classical.not_not] at c_57)
              --
              rw [mF_n c_57]
              refine x_ret (pc := 60) ⟨dX7_readOnce_60, rfl⟩ ?_
              refine hqF p (rowS_n ?_) (by omega) _ (FrR.m h (Or.inr (Or.inl rfl))) (by simp [zup_app])
              rw [hc]
              unfold mayB
              omega
          · (try simp (disch := omega) only [zb_e0, zb_n0, w32_id, w64_id, ne_eq, Classical.not_not] at c_45)
            refine x_iconst (pc := 48) dX7_readOnce_48 ?_
            refine x_goto (pc := 49) 53 dX7_readOnce_49 rfl ?_
            refine x_topc (b := zb ((nL 70 (curK l) : Int) = 0)) (by first | exact (zb_t (by omega)).symm | exact (zb_f (by omega)).symm) ?_
            refine x_iload_n (pc := 53) dX7_readOnce_53 rfl ?_
            refine x_callV2 (pc := 54) dX7_readOnce_54 (k_RX7_96 _ rfl) tmv_X7_must (by assumption) rfl rfl rfl ?_
            refine x_room (d' := d) (by omega) (Nat.le_refl _) (Nat.le_refl _) (c_m_must hM0 (P := (nL 70 (curK l) : Int) = 0) (by omega) s4 (by omega) ?_)
            dsimp only [Option.toList, List.cons_append, List.nil_append]
            refine x_if_ne (pc := 57) 61 dX7_readOnce_57 rfl (fun c_57 => ?_) (fun c_57 => ?_)
            · (try simp (disch := omega) only [zb_e0, zb_n0, w32_id, w64_id, ne_eq, Classical.not_not] at c_57)
              --
              rw [mF_t c_57]
              have hmb : mayB l 70 := Or.inr ⟨hl, by omega⟩
              refine x_iload_n (pc := 61) dX7_readOnce_61 rfl ?_
              refine x_bipush (pc := 62) dX7_readOnce_62 (by decide) ?_
              refine x_icmp_eq (pc := 64) 73 dX7_readOnce_64 rfl (fun c_64 => ?_) (fun c_64 => ?_)
              · (try simp (disch := omega) only [zb_e0, zb_n0, w32_id, w64_id, ne_eq, Classical.not_not] at c_64)
                all_goals (first | omega | exact absurd trivial c_64 | exact absurd c_64 (by decide) | exact absurd rfl c_64)
              · (try simp (disch := omega) only [zb_e0, zb_n0, w32_id, w64_id, ne_eq, Classical.not_not] at c_64)
                refine x_iload_n (pc := 67) dX7_readOnce_67 rfl ?_
                refine x_bipush (pc := 68) dX7_readOnce_68 (by decide) ?_
                refine x_icmp_ne (pc := 70) 100 dX7_readOnce_70 rfl (fun c_70 => ?_) (fun c_70 => ?_)
                · (try simp (disch := omega) only [zb_e0, zb_n0, w32_id, w64_id, ne_eq, Classical.not_not] at c_70)
                  refine x_aload_n (pc := 100) dX7_readOnce_100 rfl ?_
                  refine x_iload_n (pc := 101) dX7_readOnce_101 rfl ?_
                  refine x_bipush (pc := 102) dX7_readOnce_102 (by decide) ?_
                  refine x_icmp_ne (pc := 104) 111 dX7_readOnce_104 rfl (fun c_104 => ?_) (fun c_104 => ?_)
                  · (try simp (disch := omega) only [zb_e0, zb_n0, w32_id, w64_id, ne_eq, Classical.not_not] at c_104)
                    refine x_iconst (pc := 111) dX7_readOnce_111 ?_
                    refine x_ldc (pc := 112) dX7_readOnce_112 (9999999) tc_RX7_124 (by decide) ?_
                    refine x_callV2 (pc := 114) dX7_readOnce_114 (k_RX7_100 _ rfl) tmv_X7_number (by assumption) rfl rfl rfl ?_
                    refine x_room (d' := d + 2) (by omega) (Nat.le_refl _) (Nat.le_refl _) (c_m_number hM0 hP hT s3 (by omega) s4 (by omega) ?_)
                    by_cases hb : ¬ ((numR T (p + 1)).2 ≠ p + 1 ∧ 0 ≤ (numR T (p + 1)).1 ∧ (numR T (p + 1)).1 ≤ 9999999)
                    · rw [mF_n hb]
                      dsimp only [Option.toList, List.cons_append, List.nil_append]
                      have hr := rs_b1 hc hmb (by unfold okN; omega)
                      exact x_loc _ (by exact ⟨rfl, rfl, rfl, rfl, trivial⟩) (c_m_once117 hM0 (by simp [zup_app]; omega) (hqF _ hr (by omega) _ ((FrR.m h (Or.inl rfl)).t (FrR.m _ (Or.inr (Or.inl rfl)))) (by simp [zup_app])))
                    replace hb := Classical.not_not.mp hb
                    rw [mF_t hb]
                    have hb1 : ¬ ((numR T (p + 1)).2 = p + 1 ∨ ¬ okN l 70 0 (numR T (p + 1)).1 0) := by unfold okN; omega
                    have hP1 : MTx (zup h m 3 (numR T (p + 1)).2) m T := MTx_up hP (by decide)
                    have e3 : zup h m 3 (numR T (p + 1)).2 m 3 = (numR T (p + 1)).2 := by simp [zup_app]
                    have e4 : zup h m 3 (numR T (p + 1)).2 m 4 = -1 := by simp [zup_app, s4]
                    have e42 : zup h m 3 (numR T ((numR T (p + 1)).2 + 1)).2 m 4 = -1 := by simp [zup_app, s4]
                    dsimp only [Option.toList, List.cons_append, List.nil_append]
                    refine x_istore (pc := 117) dX7_readOnce_117 (by decide) ?_
                    refine x_aload_n (pc := 119) dX7_readOnce_119 rfl ?_
                    refine y_getI 4 (pc := 120) dX7_readOnce_120 f_RX7_85 (by assumption) rfl (fun b_120 => ?_)
                    refine x_iconst (pc := 123) dX7_readOnce_123 ?_
                    refine x_icmp_ne (pc := 124) 148 dX7_readOnce_124 rfl (fun c_124 => ?_) (fun c_124 => ?_)
                    · (try simp (disch := omega) only [zb_e0, zb_n0, w32_id, w64_id, ne_eq, Classical.not_not] at c_124)
                      exact absurd e4 c_124
                    · (try simp (disch := omega) only [zb_e0, zb_n0, w32_id, w64_id, ne_eq, Classical.not_not] at c_124)
                      refine x_aload_n (pc := 127) dX7_readOnce_127 rfl ?_
                      refine x_iload_n (pc := 128) dX7_readOnce_128 rfl ?_
                      refine x_bipush (pc := 129) dX7_readOnce_129 (by decide) ?_
                      refine x_icmp_ne (pc := 131) 138 dX7_readOnce_131 rfl (fun c_131 => ?_) (fun c_131 => ?_)
                      · (try simp (disch := omega) only [zb_e0, zb_n0, w32_id, w64_id, ne_eq, Classical.not_not] at c_131)
                        refine x_iload (pc := 138) dX7_readOnce_138 rfl ?_
                        refine x_ldc (pc := 140) dX7_readOnce_140 (9999999) tc_RX7_124 (by decide) ?_
                        refine x_callV2 (pc := 142) dX7_readOnce_142 (k_RX7_125 _ rfl) tmv_X7_next (by assumption) rfl rfl rfl ?_
                        refine x_room (d' := d + 3) (by omega) (Nat.le_refl _) (Nat.le_refl _) (c_m_next hM0 hP1 hT e3 (by omega) e4 (by omega) (fun hs2 => ?_) (fun hs2 hp2 => ?_))
                        · dsimp only [Option.toList, List.cons_append, List.nil_append]
                          have hr := rs_s2 hc hmb (by decide) hb1 hs2
                          exact x_loc _ (by exact ⟨rfl, rfl, rfl, rfl, rfl, trivial⟩) (c_m_once145 hM0 (by simp [zup_app]; omega) (hqF _ hr (by omega) _ ((FrR.m h (Or.inl rfl)).t (FrR.m _ (Or.inr (Or.inl rfl)))) (by simp [zup_app])))
                        have hnr2 := numR_r T (p := (numR T (p + 1)).2 + 1) (by omega) hp2
                        rw [zup_zup, zup_zup]
                        by_cases hb2 : ¬ ((numR T ((numR T (p + 1)).2 + 1)).2 ≠ (numR T (p + 1)).2 + 1 ∧ (numR T (p + 1)).1 ≤ (numR T ((numR T (p + 1)).2 + 1)).1 ∧ (numR T ((numR T (p + 1)).2 + 1)).1 ≤ 9999999)
                        · rw [mF_n hb2]
                          dsimp only [Option.toList, List.cons_append, List.nil_append]
                          have hr := rs_b2 hc hmb (by decide) hb1 hs2 (by unfold okN; omega)
                          exact x_loc _ (by exact ⟨rfl, rfl, rfl, rfl, rfl, trivial⟩) (c_m_once145 hM0 (by simp [zup_app]; omega) (hqF _ hr (by omega) _ ((FrR.m h (Or.inl rfl)).t (FrR.m _ (Or.inr (Or.inl rfl)))) (by simp [zup_app])))
                        replace hb2 := Classical.not_not.mp hb2
                        rw [mF_t hb2]
                        have hr := rs_k2 hc hmb (by decide) hb1 hs2 (by unfold okN; omega)
                        dsimp only [Option.toList, List.cons_append, List.nil_append]
                        refine x_goto (pc := 145) 149 dX7_readOnce_145 rfl ?_
                        refine x_istore (pc := 149) dX7_readOnce_149 (by decide) ?_
                        refine x_aload_n (pc := 151) dX7_readOnce_151 rfl ?_
                        refine y_getI 4 (pc := 152) dX7_readOnce_152 f_RX7_85 (by assumption) rfl (fun b_152 => ?_)
                        refine x_iconst (pc := 155) dX7_readOnce_155 ?_
                        refine x_icmp_ne (pc := 156) 175 dX7_readOnce_156 rfl (fun c_156 => ?_) (fun c_156 => ?_)
                        · (try simp (disch := omega) only [zb_e0, zb_n0, w32_id, w64_id, ne_eq, Classical.not_not] at c_156)
                          exact absurd e42 c_156
                        · (try simp (disch := omega) only [zb_e0, zb_n0, w32_id, w64_id, ne_eq, Classical.not_not] at c_156)
                          refine x_iload_n (pc := 159) dX7_readOnce_159 rfl ?_
                          refine x_bipush (pc := 160) dX7_readOnce_160 (by decide) ?_
                          refine x_icmp_ne (pc := 162) 175 dX7_readOnce_162 rfl (fun c_162 => ?_) (fun c_162 => ?_)
                          · (try simp (disch := omega) only [zb_e0, zb_n0, w32_id, w64_id, ne_eq, Classical.not_not] at c_162)
                            refine x_iconst (pc := 175) dX7_readOnce_175 ?_
                            refine x_istore (pc := 176) dX7_readOnce_176 (by decide) ?_
                            refine x_aload_n (pc := 178) dX7_readOnce_178 rfl ?_
                            refine x_iload_n (pc := 179) dX7_readOnce_179 rfl ?_
                            refine x_iload (pc := 180) dX7_readOnce_180 rfl ?_
                            refine x_iload (pc := 182) dX7_readOnce_182 rfl ?_
                            refine x_iload (pc := 184) dX7_readOnce_184 rfl ?_
                            refine x_callV4 (pc := 186) dX7_readOnce_186 (k_RX7_117 _ rfl) tmv_X7_add (by assumption) rfl rfl rfl ?_
                            have hg : ∀ x, m + 2 ≤ x → x ≤ m + 6 → zup h m 3 (numR T ((numR T (p + 1)).2 + 1)).2 x = h x := fun x x1 x2 => zup_ne (by omega)
                            have hgo := rowS_good hp.1 hr
                            refine x_room (d' := d + 2) (by omega) (Nat.le_refl _) (Nat.le_refl _) (c_m_add hM0 (N := (l.length : Int)) (by omega) (by simp [zup_app, s4]) (by rw [hg (m + 6) (by omega) (by omega)]; exact s5) (by omega) ?_)
                            have hRA := RS_add (p2 := (numR T ((numR T (p + 1)).2 + 1)).2) (g := zup h m 3 (numR T ((numR T (p + 1)).2 + 1)).2) hS0 hn hgo.1 (FrR.m h (Or.inl rfl)) hg (by simp [zup_app]) (by simp [zup_app, s4]) (by rw [zup_app, if_neg (by omega), if_neg (by decide)])
                            dsimp only [Option.toList, List.cons_append, List.nil_append]
                            refine x_ret (pc := 189) ⟨dX7_readOnce_189, rfl⟩ ?_
                            exact hqK _ _ hr _ hRA.1 hRA.2
                          · (try simp (disch := omega) only [zb_e0, zb_n0, w32_id, w64_id, ne_eq, Classical.not_not] at c_162)
                            all_goals (first | omega | exact absurd trivial c_162 | exact absurd c_162 (by decide) | exact absurd rfl c_162)
                      · (try simp (disch := omega) only [zb_e0, zb_n0, w32_id, w64_id, ne_eq, Classical.not_not] at c_131)
                        all_goals (first | omega | exact absurd trivial c_131 | exact absurd c_131 (by decide) | exact absurd rfl c_131)
                  · (try simp (disch := omega) only [zb_e0, zb_n0, w32_id, w64_id, ne_eq, Classical.not_not] at c_104)
                    all_goals (first | omega | exact absurd trivial c_104 | exact absurd c_104 (by decide) | exact absurd rfl c_104)
                · (try simp (disch := omega) only [zb_e0, zb_n0, w32_id, w64_id, ne_eq, Classical.not_not] at c_70)
                  all_goals (first | omega | exact absurd trivial c_70 | exact absurd c_70 (by decide) | exact absurd rfl c_70)
            · (try simp (disch := omega) only [zb_e0, zb_n0, w32_id, w64_id, ne_eq, Classical.not_not] at c_57)
              exfalso
              omega
      · (try simp (disch := omega) only [zb_e0, zb_n0, w32_id, w64_id, ne_eq, Classical.not_not] at c_15)
        all_goals (first | omega | exact absurd trivial c_15 | exact absurd c_15 (by decide) | exact absurd rfl c_15)

set_option maxHeartbeats 4000000 in
set_option maxRecDepth 100000 in
theorem c_m_readOnce68 {m : Int} (hM : isMT ty m) {p : Int} {l : List Row} {T : List Int} (hP : MTx h m T) (hT : TxOK T) (hS : RS h m (p + 1) l) (hn : l.length ≤ 510) (hp : 0 ≤ p ∧ p + 1 ≤ T.length) (hl : l ≠ []) (hc : lookT T p = 68) (hqF : ∀ f, rowS T p l = .inl f → 0 ≤ f → ∀ h', FrR m h h' → h' m 4 = f → Q none ty sz h') (hqK : ∀ p' R, rowS T p l = .inr (p', R) → ∀ h', FrR m h h' → RS h' m p' (l ++ [R]) → Q none ty sz h') : zXM D mX7_readOnce (d + 4) 0 0 [rV m, iV 68, iV p] ty sz h Q := by
  have hM0 := hM
  obtain ⟨m9, m0, a1, a2, a3, a4, a5, a6, a7, a8, a9, a10, a11, a12, a13, a14, a15, a16, a17, a18, a19, a20, a21⟩ := hM
  have hT1 := hT.1
  have hS0 := hS
  obtain ⟨s3, s4, s5, s6, s7, s8⟩ := hS
  have hnr := numR_r T (p := p + 1) (by omega) hp.2
  obtain ⟨b, hC⟩ := hS0.cur hl hn
  have hnl := hC.len
  have hn83 := nL_le 83 (curK l)
  have hn69 := nL_le 69 (curK l)
  have hnc := nL_le 68 (curK l)
  refine x_iload_n (pc := 0) dX7_readOnce_0 rfl ?_
  refine x_bipush (pc := 1) dX7_readOnce_1 (by decide) ?_
  refine x_icmp_eq (pc := 3) 24 dX7_readOnce_3 rfl (fun c_3 => ?_) (fun c_3 => ?_)
  · (try simp (disch := omega) only [zb_e0, zb_n0, w32_id, w64_id, ne_eq, Classical.not_not] at c_3)
    refine x_iconst (pc := 24) dX7_readOnce_24 ?_
    refine x_goto (pc := 25) 29 dX7_readOnce_25 rfl ?_
    refine x_istore_n (pc := 29) dX7_readOnce_29 (by decide) ?_
    refine x_aload_n (pc := 30) dX7_readOnce_30 rfl ?_
    refine x_iload_n (pc := 31) dX7_readOnce_31 rfl ?_
    refine x_topc (b := zb True) (zb_t trivial).symm ?_
    refine x_iload_n (pc := 32) dX7_readOnce_32 rfl ?_
    refine x_callV2 (pc := 33) dX7_readOnce_33 (k_RX7_96 _ rfl) tmv_X7_must (by assumption) rfl rfl rfl ?_
    refine x_room (d' := d) (by omega) (Nat.le_refl _) (Nat.le_refl _) (c_m_must hM0 (P := True) (by omega) s4 (by omega) ?_)
    dsimp only [Option.toList, List.cons_append, List.nil_append]
    refine x_if_eq (pc := 36) 60 dX7_readOnce_36 rfl (fun c_36 => ?_) (fun c_36 => ?_)
    · (try simp (disch := omega) only [zb_e0, zb_n0, w32_id, w64_id, ne_eq, Classical.not_not] at c_36)
      all_goals (first | exact absurd trivial c_36 | omega)
    · (try simp (disch := omega) only [zb_e0, zb_n0, w32_id, w64_id, ne_eq, Classical.not_not] at c_36)
      --
      rw [mF_t trivial]
      refine x_aload_n (pc := 39) dX7_readOnce_39 rfl ?_
      refine x_aload_n (pc := 40) dX7_readOnce_40 rfl ?_
      refine x_iload_n (pc := 41) dX7_readOnce_41 rfl ?_
      refine x_callV1 (pc := 42) dX7_readOnce_42 (k_RX7_113 _ rfl) tmv_X7_count (by assumption) rfl rfl rfl ?_
      refine x_room (d' := d + 2) (by omega) (Nat.le_refl _) (Nat.le_refl _) (c_m_count hM0 (by omega) hC ?_)
      dsimp only [Option.toList, List.cons_append, List.nil_append]
      refine x_if_ne (pc := 45) 52 dX7_readOnce_45 rfl (fun c_45 => ?_) (fun c_45 => ?_)
      · (try simp (disch := omega) only [zb_e0, zb_n0, w32_id, w64_id, ne_eq, Classical.not_not] at c_45)
        refine x_iconst (pc := 52) dX7_readOnce_52 ?_
        refine x_topc (b := zb ((nL 68 (curK l) : Int) = 0)) (by first | exact (zb_t (by omega)).symm | exact (zb_f (by omega)).symm) ?_
        refine x_iload_n (pc := 53) dX7_readOnce_53 rfl ?_
        refine x_callV2 (pc := 54) dX7_readOnce_54 (k_RX7_96 _ rfl) tmv_X7_must (by assumption) rfl rfl rfl ?_
        refine x_room (d' := d) (by omega) (Nat.le_refl _) (Nat.le_refl _) (c_m_must hM0 (P := (nL 68 (curK l) : Int) = 0) (by omega) s4 (by omega) ?_)
        dsimp only [Option.toList, List.cons_append, List.nil_append]
        refine x_if_ne (pc := 57) 61 dX7_readOnce_57 rfl (fun c_57 => ?_) (fun c_57 => ?_)
        · (try simp (disch := omega) only [zb_e0, zb_n0, w32_id, w64_id, ne_eq, Classical.not_not] at c_57)
          exfalso
          omega
        · (try simp (disch := omega) only [zb_e0, zb_n0, w32_id, w64_id, ne_eq, Classical.not_not] at c_57)
          --
          rw [mF_n c_57]
          refine x_ret (pc := 60) ⟨dX7_readOnce_60, rfl⟩ ?_
          refine hqF p (rowS_n ?_) (by omega) _ (FrR.m h (Or.inr (Or.inl rfl))) (by simp [zup_app])
          rw [hc]
          unfold mayB
          omega
      · (try simp (disch := omega) only [zb_e0, zb_n0, w32_id, w64_id, ne_eq, Classical.not_not] at c_45)
        refine x_iconst (pc := 48) dX7_readOnce_48 ?_
        refine x_goto (pc := 49) 53 dX7_readOnce_49 rfl ?_
        refine x_topc (b := zb ((nL 68 (curK l) : Int) = 0)) (by first | exact (zb_t (by omega)).symm | exact (zb_f (by omega)).symm) ?_
        refine x_iload_n (pc := 53) dX7_readOnce_53 rfl ?_
        refine x_callV2 (pc := 54) dX7_readOnce_54 (k_RX7_96 _ rfl) tmv_X7_must (by assumption) rfl rfl rfl ?_
        refine x_room (d' := d) (by omega) (Nat.le_refl _) (Nat.le_refl _) (c_m_must hM0 (P := (nL 68 (curK l) : Int) = 0) (by omega) s4 (by omega) ?_)
        dsimp only [Option.toList, List.cons_append, List.nil_append]
        refine x_if_ne (pc := 57) 61 dX7_readOnce_57 rfl (fun c_57 => ?_) (fun c_57 => ?_)
        · (try simp (disch := omega) only [zb_e0, zb_n0, w32_id, w64_id, ne_eq, Classical.not_not] at c_57)
          --
          rw [mF_t c_57]
          have hmb : mayB l 68 := Or.inr ⟨hl, by omega⟩
          refine x_iload_n (pc := 61) dX7_readOnce_61 rfl ?_
          refine x_bipush (pc := 62) dX7_readOnce_62 (by decide) ?_
          refine x_icmp_eq (pc := 64) 73 dX7_readOnce_64 rfl (fun c_64 => ?_) (fun c_64 => ?_)
          · (try simp (disch := omega) only [zb_e0, zb_n0, w32_id, w64_id, ne_eq, Classical.not_not] at c_64)
            all_goals (first | omega | exact absurd trivial c_64 | exact absurd c_64 (by decide) | exact absurd rfl c_64)
          · (try simp (disch := omega) only [zb_e0, zb_n0, w32_id, w64_id, ne_eq, Classical.not_not] at c_64)
            refine x_iload_n (pc := 67) dX7_readOnce_67 rfl ?_
            refine x_bipush (pc := 68) dX7_readOnce_68 (by decide) ?_
            refine x_icmp_ne (pc := 70) 100 dX7_readOnce_70 rfl (fun c_70 => ?_) (fun c_70 => ?_)
            · (try simp (disch := omega) only [zb_e0, zb_n0, w32_id, w64_id, ne_eq, Classical.not_not] at c_70)
              refine x_aload_n (pc := 100) dX7_readOnce_100 rfl ?_
              refine x_iload_n (pc := 101) dX7_readOnce_101 rfl ?_
              refine x_bipush (pc := 102) dX7_readOnce_102 (by decide) ?_
              refine x_icmp_ne (pc := 104) 111 dX7_readOnce_104 rfl (fun c_104 => ?_) (fun c_104 => ?_)
              · (try simp (disch := omega) only [zb_e0, zb_n0, w32_id, w64_id, ne_eq, Classical.not_not] at c_104)
                all_goals (first | omega | exact absurd trivial c_104 | exact absurd c_104 (by decide) | exact absurd rfl c_104)
              · (try simp (disch := omega) only [zb_e0, zb_n0, w32_id, w64_id, ne_eq, Classical.not_not] at c_104)
                refine x_iconst (pc := 107) dX7_readOnce_107 ?_
                refine x_goto (pc := 108) 112 dX7_readOnce_108 rfl ?_
                refine x_ldc (pc := 112) dX7_readOnce_112 (9999999) tc_RX7_124 (by decide) ?_
                refine x_callV2 (pc := 114) dX7_readOnce_114 (k_RX7_100 _ rfl) tmv_X7_number (by assumption) rfl rfl rfl ?_
                refine x_room (d' := d + 2) (by omega) (Nat.le_refl _) (Nat.le_refl _) (c_m_number hM0 hP hT s3 (by omega) s4 (by omega) ?_)
                by_cases hb : ¬ ((numR T (p + 1)).2 ≠ p + 1 ∧ 1 ≤ (numR T (p + 1)).1 ∧ (numR T (p + 1)).1 ≤ 9999999)
                · rw [mF_n hb]
                  dsimp only [Option.toList, List.cons_append, List.nil_append]
                  have hr := rs_b1 hc hmb (by unfold okN; omega)
                  exact x_loc _ (by exact ⟨rfl, rfl, rfl, rfl, trivial⟩) (c_m_once117 hM0 (by simp [zup_app]; omega) (hqF _ hr (by omega) _ ((FrR.m h (Or.inl rfl)).t (FrR.m _ (Or.inr (Or.inl rfl)))) (by simp [zup_app])))
                replace hb := Classical.not_not.mp hb
                rw [mF_t hb]
                have hb1 : ¬ ((numR T (p + 1)).2 = p + 1 ∨ ¬ okN l 68 0 (numR T (p + 1)).1 0) := by unfold okN; omega
                have hP1 : MTx (zup h m 3 (numR T (p + 1)).2) m T := MTx_up hP (by decide)
                have e3 : zup h m 3 (numR T (p + 1)).2 m 3 = (numR T (p + 1)).2 := by simp [zup_app]
                have e4 : zup h m 3 (numR T (p + 1)).2 m 4 = -1 := by simp [zup_app, s4]
                have e42 : zup h m 3 (numR T ((numR T (p + 1)).2 + 1)).2 m 4 = -1 := by simp [zup_app, s4]
                dsimp only [Option.toList, List.cons_append, List.nil_append]
                refine x_istore (pc := 117) dX7_readOnce_117 (by decide) ?_
                refine x_aload_n (pc := 119) dX7_readOnce_119 rfl ?_
                refine y_getI 4 (pc := 120) dX7_readOnce_120 f_RX7_85 (by assumption) rfl (fun b_120 => ?_)
                refine x_iconst (pc := 123) dX7_readOnce_123 ?_
                refine x_icmp_ne (pc := 124) 148 dX7_readOnce_124 rfl (fun c_124 => ?_) (fun c_124 => ?_)
                · (try simp (disch := omega) only [zb_e0, zb_n0, w32_id, w64_id, ne_eq, Classical.not_not] at c_124)
                  exact absurd e4 c_124
                · (try simp (disch := omega) only [zb_e0, zb_n0, w32_id, w64_id, ne_eq, Classical.not_not] at c_124)
                  refine x_aload_n (pc := 127) dX7_readOnce_127 rfl ?_
                  refine x_iload_n (pc := 128) dX7_readOnce_128 rfl ?_
                  refine x_bipush (pc := 129) dX7_readOnce_129 (by decide) ?_
                  refine x_icmp_ne (pc := 131) 138 dX7_readOnce_131 rfl (fun c_131 => ?_) (fun c_131 => ?_)
                  · (try simp (disch := omega) only [zb_e0, zb_n0, w32_id, w64_id, ne_eq, Classical.not_not] at c_131)
                    all_goals (first | omega | exact absurd trivial c_131 | exact absurd c_131 (by decide) | exact absurd rfl c_131)
                  · (try simp (disch := omega) only [zb_e0, zb_n0, w32_id, w64_id, ne_eq, Classical.not_not] at c_131)
                    refine x_iconst (pc := 134) dX7_readOnce_134 ?_
                    refine x_goto (pc := 135) 140 dX7_readOnce_135 rfl ?_
                    refine x_ldc (pc := 140) dX7_readOnce_140 (9999999) tc_RX7_124 (by decide) ?_
                    refine x_callV2 (pc := 142) dX7_readOnce_142 (k_RX7_125 _ rfl) tmv_X7_next (by assumption) rfl rfl rfl ?_
                    refine x_room (d' := d + 3) (by omega) (Nat.le_refl _) (Nat.le_refl _) (c_m_next hM0 hP1 hT e3 (by omega) e4 (by omega) (fun hs2 => ?_) (fun hs2 hp2 => ?_))
                    · dsimp only [Option.toList, List.cons_append, List.nil_append]
                      have hr := rs_s2 hc hmb (by decide) hb1 hs2
                      exact x_loc _ (by exact ⟨rfl, rfl, rfl, rfl, rfl, trivial⟩) (c_m_once145 hM0 (by simp [zup_app]; omega) (hqF _ hr (by omega) _ ((FrR.m h (Or.inl rfl)).t (FrR.m _ (Or.inr (Or.inl rfl)))) (by simp [zup_app])))
                    have hnr2 := numR_r T (p := (numR T (p + 1)).2 + 1) (by omega) hp2
                    rw [zup_zup, zup_zup]
                    by_cases hb2 : ¬ ((numR T ((numR T (p + 1)).2 + 1)).2 ≠ (numR T (p + 1)).2 + 1 ∧ 1 ≤ (numR T ((numR T (p + 1)).2 + 1)).1 ∧ (numR T ((numR T (p + 1)).2 + 1)).1 ≤ 9999999)
                    · rw [mF_n hb2]
                      dsimp only [Option.toList, List.cons_append, List.nil_append]
                      have hr := rs_b2 hc hmb (by decide) hb1 hs2 (by unfold okN; omega)
                      exact x_loc _ (by exact ⟨rfl, rfl, rfl, rfl, rfl, trivial⟩) (c_m_once145 hM0 (by simp [zup_app]; omega) (hqF _ hr (by omega) _ ((FrR.m h (Or.inl rfl)).t (FrR.m _ (Or.inr (Or.inl rfl)))) (by simp [zup_app])))
                    replace hb2 := Classical.not_not.mp hb2
                    rw [mF_t hb2]
                    have hbb2 : ¬ ((numR T ((numR T (p + 1)).2 + 1)).2 = (numR T (p + 1)).2 + 1 ∨ ¬ okN l 68 1 (numR T ((numR T (p + 1)).2 + 1)).1 (numR T (p + 1)).1) := by unfold okN; omega
                    have hP2 : MTx (zup h m 3 (numR T ((numR T (p + 1)).2 + 1)).2) m T := MTx_up hP (by decide)
                    have e32 : zup h m 3 (numR T ((numR T (p + 1)).2 + 1)).2 m 3 = (numR T ((numR T (p + 1)).2 + 1)).2 := by simp [zup_app]
                    dsimp only [Option.toList, List.cons_append, List.nil_append]
                    refine x_goto (pc := 145) 149 dX7_readOnce_145 rfl ?_
                    refine x_istore (pc := 149) dX7_readOnce_149 (by decide) ?_
                    refine x_aload_n (pc := 151) dX7_readOnce_151 rfl ?_
                    refine y_getI 4 (pc := 152) dX7_readOnce_152 f_RX7_85 (by assumption) rfl (fun b_152 => ?_)
                    refine x_iconst (pc := 155) dX7_readOnce_155 ?_
                    refine x_icmp_ne (pc := 156) 175 dX7_readOnce_156 rfl (fun c_156 => ?_) (fun c_156 => ?_)
                    · (try simp (disch := omega) only [zb_e0, zb_n0, w32_id, w64_id, ne_eq, Classical.not_not] at c_156)
                      exact absurd e42 c_156
                    · (try simp (disch := omega) only [zb_e0, zb_n0, w32_id, w64_id, ne_eq, Classical.not_not] at c_156)
                      refine x_iload_n (pc := 159) dX7_readOnce_159 rfl ?_
                      refine x_bipush (pc := 160) dX7_readOnce_160 (by decide) ?_
                      refine x_icmp_ne (pc := 162) 175 dX7_readOnce_162 rfl (fun c_162 => ?_) (fun c_162 => ?_)
                      · (try simp (disch := omega) only [zb_e0, zb_n0, w32_id, w64_id, ne_eq, Classical.not_not] at c_162)
                        all_goals (first | omega | exact absurd trivial c_162 | exact absurd c_162 (by decide) | exact absurd rfl c_162)
                      · (try simp (disch := omega) only [zb_e0, zb_n0, w32_id, w64_id, ne_eq, Classical.not_not] at c_162)
                        refine x_aload_n (pc := 165) dX7_readOnce_165 rfl ?_
                        refine x_iconst (pc := 166) dX7_readOnce_166 ?_
                        refine x_ldc (pc := 167) dX7_readOnce_167 (9999999) tc_RX7_124 (by decide) ?_
                        refine x_callV2 (pc := 169) dX7_readOnce_169 (k_RX7_125 _ rfl) tmv_X7_next (by assumption) rfl rfl rfl ?_
                        refine x_room (d' := d + 3) (by omega) (Nat.le_refl _) (Nat.le_refl _) (c_m_next hM0 hP2 hT e32 (by omega) e42 (by omega) (fun hs3 => ?_) (fun hs3 hp3 => ?_))
                        · dsimp only [Option.toList, List.cons_append, List.nil_append]
                          have hr := rs_s3 hc hmb (by decide) hb1 hs2 hbb2 rfl hs3
                          exact x_loc _ (by exact ⟨rfl, rfl, rfl, rfl, rfl, rfl, trivial⟩) (c_m_once172 hM0 (by simp [zup_app]; omega) (hqF _ hr (by omega) _ ((FrR.m h (Or.inl rfl)).t (FrR.m _ (Or.inr (Or.inl rfl)))) (by simp [zup_app])))
                        have hnr3 := numR_r T (p := (numR T ((numR T (p + 1)).2 + 1)).2 + 1) (by omega) hp3
                        rw [zup_zup, zup_zup]
                        by_cases hb3 : ¬ ((numR T ((numR T ((numR T (p + 1)).2 + 1)).2 + 1)).2 ≠ (numR T ((numR T (p + 1)).2 + 1)).2 + 1 ∧ 1 ≤ (numR T ((numR T ((numR T (p + 1)).2 + 1)).2 + 1)).1 ∧ (numR T ((numR T ((numR T (p + 1)).2 + 1)).2 + 1)).1 ≤ 9999999)
                        · rw [mF_n hb3]
                          dsimp only [Option.toList, List.cons_append, List.nil_append]
                          have hr := rs_b3 hc hmb (by decide) hb1 hs2 hbb2 rfl hs3 (by unfold okN; omega)
                          exact x_loc _ (by exact ⟨rfl, rfl, rfl, rfl, rfl, rfl, trivial⟩) (c_m_once172 hM0 (by simp [zup_app]; omega) (hqF _ hr (by omega) _ ((FrR.m h (Or.inl rfl)).t (FrR.m _ (Or.inr (Or.inl rfl)))) (by simp [zup_app])))
                        replace hb3 := Classical.not_not.mp hb3
                        rw [mF_t hb3]
                        have hr := rs_k3 hc hmb (by decide) hb1 hs2 hbb2 rfl hs3 (by unfold okN; omega)
                        dsimp only [Option.toList, List.cons_append, List.nil_append]
                        refine x_goto (pc := 172) 176 dX7_readOnce_172 rfl ?_
                        refine x_istore (pc := 176) dX7_readOnce_176 (by decide) ?_
                        refine x_aload_n (pc := 178) dX7_readOnce_178 rfl ?_
                        refine x_iload_n (pc := 179) dX7_readOnce_179 rfl ?_
                        refine x_iload (pc := 180) dX7_readOnce_180 rfl ?_
                        refine x_iload (pc := 182) dX7_readOnce_182 rfl ?_
                        refine x_iload (pc := 184) dX7_readOnce_184 rfl ?_
                        refine x_callV4 (pc := 186) dX7_readOnce_186 (k_RX7_117 _ rfl) tmv_X7_add (by assumption) rfl rfl rfl ?_
                        have hg : ∀ x, m + 2 ≤ x → x ≤ m + 6 → zup h m 3 (numR T ((numR T ((numR T (p + 1)).2 + 1)).2 + 1)).2 x = h x := fun x x1 x2 => zup_ne (by omega)
                        have hgo := rowS_good hp.1 hr
                        refine x_room (d' := d + 2) (by omega) (Nat.le_refl _) (Nat.le_refl _) (c_m_add hM0 (N := (l.length : Int)) (by omega) (by simp [zup_app, s4]) (by rw [hg (m + 6) (by omega) (by omega)]; exact s5) (by omega) ?_)
                        have hRA := RS_add (p2 := (numR T ((numR T ((numR T (p + 1)).2 + 1)).2 + 1)).2) (g := zup h m 3 (numR T ((numR T ((numR T (p + 1)).2 + 1)).2 + 1)).2) hS0 hn hgo.1 (FrR.m h (Or.inl rfl)) hg (by simp [zup_app]) (by simp [zup_app, s4]) (by rw [zup_app, if_neg (by omega), if_neg (by decide)])
                        dsimp only [Option.toList, List.cons_append, List.nil_append]
                        refine x_ret (pc := 189) ⟨dX7_readOnce_189, rfl⟩ ?_
                        exact hqK _ _ hr _ hRA.1 hRA.2
            · (try simp (disch := omega) only [zb_e0, zb_n0, w32_id, w64_id, ne_eq, Classical.not_not] at c_70)
              all_goals (first | omega | exact absurd trivial c_70 | exact absurd c_70 (by decide) | exact absurd rfl c_70)
        · (try simp (disch := omega) only [zb_e0, zb_n0, w32_id, w64_id, ne_eq, Classical.not_not] at c_57)
          exfalso
          omega
  · (try simp (disch := omega) only [zb_e0, zb_n0, w32_id, w64_id, ne_eq, Classical.not_not] at c_3)
    all_goals (first | omega | exact absurd trivial c_3 | exact absurd c_3 (by decide) | exact absurd rfl c_3)

set_option maxHeartbeats 4000000 in
set_option maxRecDepth 100000 in
theorem c_m_readOnceU {m : Int} (hM : isMT ty m) {p c : Int} (hcc : i32 c ∧ i32 p ∧ p ≠ -1) (h4 : h m 4 = -1) (hu : c ≠ 68 ∧ c ≠ 77 ∧ c ≠ 70 ∧ c ≠ 82) (hq : Q none ty sz (zup h m 4 p)) : zXM D mX7_readOnce (d + 4) 0 0 [rV m, iV c, iV p] ty sz h Q := by
  have hM0 := hM
  obtain ⟨m9, m0, a1, a2, a3, a4, a5, a6, a7, a8, a9, a10, a11, a12, a13, a14, a15, a16, a17, a18, a19, a20, a21⟩ := hM
  refine x_iload_n (pc := 0) dX7_readOnce_0 rfl ?_
  refine x_bipush (pc := 1) dX7_readOnce_1 (by decide) ?_
  refine x_icmp_eq (pc := 3) 24 dX7_readOnce_3 rfl (fun c_3 => ?_) (fun c_3 => ?_)
  · (try simp (disch := omega) only [zb_e0, zb_n0, w32_id, w64_id, ne_eq, Classical.not_not] at c_3)
    omega
  · (try simp (disch := omega) only [zb_e0, zb_n0, w32_id, w64_id, ne_eq, Classical.not_not] at c_3)
    refine x_iload_n (pc := 6) dX7_readOnce_6 rfl ?_
    refine x_bipush (pc := 7) dX7_readOnce_7 (by decide) ?_
    refine x_icmp_eq (pc := 9) 24 dX7_readOnce_9 rfl (fun c_9 => ?_) (fun c_9 => ?_)
    · (try simp (disch := omega) only [zb_e0, zb_n0, w32_id, w64_id, ne_eq, Classical.not_not] at c_9)
      omega
    · (try simp (disch := omega) only [zb_e0, zb_n0, w32_id, w64_id, ne_eq, Classical.not_not] at c_9)
      refine x_iload_n (pc := 12) dX7_readOnce_12 rfl ?_
      refine x_bipush (pc := 13) dX7_readOnce_13 (by decide) ?_
      refine x_icmp_eq (pc := 15) 24 dX7_readOnce_15 rfl (fun c_15 => ?_) (fun c_15 => ?_)
      · (try simp (disch := omega) only [zb_e0, zb_n0, w32_id, w64_id, ne_eq, Classical.not_not] at c_15)
        omega
      · (try simp (disch := omega) only [zb_e0, zb_n0, w32_id, w64_id, ne_eq, Classical.not_not] at c_15)
        refine x_iload_n (pc := 18) dX7_readOnce_18 rfl ?_
        refine x_bipush (pc := 19) dX7_readOnce_19 (by decide) ?_
        refine x_icmp_ne (pc := 21) 28 dX7_readOnce_21 rfl (fun c_21 => ?_) (fun c_21 => ?_)
        · (try simp (disch := omega) only [zb_e0, zb_n0, w32_id, w64_id, ne_eq, Classical.not_not] at c_21)
          refine x_iconst (pc := 28) dX7_readOnce_28 ?_
          refine x_istore_n (pc := 29) dX7_readOnce_29 (by decide) ?_
          refine x_aload_n (pc := 30) dX7_readOnce_30 rfl ?_
          refine x_iload_n (pc := 31) dX7_readOnce_31 rfl ?_
          refine x_topc (b := zb False) (zb_f (fun z => z)).symm ?_
          refine x_iload_n (pc := 32) dX7_readOnce_32 rfl ?_
          refine x_callV2 (pc := 33) dX7_readOnce_33 (k_RX7_96 _ rfl) tmv_X7_must (by assumption) rfl rfl rfl ?_
          refine x_room (d' := d) (by omega) (Nat.le_refl _) (Nat.le_refl _) (c_m_must hM0 (P := False) (by omega) h4 (by omega) ?_)
          rw [mF_n (fun z => z)]
          dsimp only [Option.toList, List.cons_append, List.nil_append]
          refine x_if_eq (pc := 36) 60 dX7_readOnce_36 rfl (fun c_36 => ?_) (fun c_36 => ?_)
          · (try simp (disch := omega) only [zb_e0, zb_n0, w32_id, w64_id, ne_eq, Classical.not_not] at c_36)
            refine x_ret (pc := 60) ⟨dX7_readOnce_60, rfl⟩ ?_
            exact hq
          · (try simp (disch := omega) only [zb_e0, zb_n0, w32_id, w64_id, ne_eq, Classical.not_not] at c_36)
            all_goals (first | exact absurd c_36 (fun z => z (fun y => y)) | exact c_36.elim | exact absurd trivial c_36 | (simp at c_36))
        · (try simp (disch := omega) only [zb_e0, zb_n0, w32_id, w64_id, ne_eq, Classical.not_not] at c_21)
          omega

end C25
