section C26
variable {D : va_G} {d : Nat} {ty : zT} {sz : Nat} {h : zH} {Q : zQ}
set_option maxHeartbeats 4000000 in
set_option maxRecDepth 100000 in
theorem c_m_readRow {m : Int} (hM : isMT ty m) {p : Int} {l : List Row} {T : List Int} (hP : MTx h m T) (hT : TxOK T) (hS : RS h m p l) (hn : l.length ≤ 510) (hp : 0 ≤ p ∧ p < T.length) (hqF : ∀ f, rowS T p l = .inl f → 0 ≤ f → ∀ h', FrR m h h' → h' m 4 = f → Q none ty sz h') (hqK : ∀ p' R, rowS T p l = .inr (p', R) → ∀ h', FrR m h h' → RS h' m p' (l ++ [R]) → Q none ty sz h') : zXM D mX7_readRow (d + 5) 0 0 [rV m] ty sz h Q := by
  have hM0 := hM
  obtain ⟨m9, m0, a1, a2, a3, a4, a5, a6, a7, a8, a9, a10, a11, a12, a13, a14, a15, a16, a17, a18, a19, a20, a21⟩ := hM
  have hT1 := hT.1
  have hlr := lookT_rng hT p
  obtain ⟨s3, s4, s5, s6, s7, s8⟩ := id hS
  have h11 : h m 11 = -1 ↔ l = [] := by
    rw [s7]
    by_cases z : l = []
    · simp [z]
    · rw [if_neg z]
      exact ⟨fun q => by omega, fun q => absurd q z⟩
  have hF0 : FrR m h (zup h m 3 (p + 1)) := FrR.m h (Or.inl rfl)
  have hP1 := hF0.T hP
  have hp1 : 0 ≤ p ∧ p + 1 ≤ T.length := by omega
  have hS1 : RS (zup h m 3 (p + 1)) m (p + 1) l := by
    refine ⟨by simp [zup_app], by simp [zup_app, s4], by rw [zup_ne (by omega)]; exact s5, s6.fr (fun q q1 q2 => zup_ne (by omega)), by rw [zup_app, if_neg (by omega)]; exact s7, s8⟩
  refine x_aload_n (pc := 0) dX7_readRow_0 rfl ?_
  refine y_getI 3 (pc := 1) dX7_readRow_1 f_RX7_82 (by assumption) rfl (fun b_1 => ?_)
  rw [s3]
  refine x_istore_n (pc := 4) dX7_readRow_4 (by decide) ?_
  refine x_aload_n (pc := 5) dX7_readRow_5 rfl ?_
  refine x_callV0 (pc := 6) dX7_readRow_6 (k_RX7_88 _ rfl) tmv_X7_look (by assumption) rfl rfl rfl ?_
  refine x_room (d' := d) (by omega) (Nat.le_refl _) (Nat.le_refl _) (c_m_look hM0 hP hT (by omega) ?_)
  rw [s3]
  dsimp only [Option.toList, List.cons_append, List.nil_append]
  refine x_istore_n (pc := 9) dX7_readRow_9 (by decide) ?_
  refine x_aload_n (pc := 10) dX7_readRow_10 rfl ?_
  refine x_iload_n (pc := 11) dX7_readRow_11 rfl ?_
  refine x_bipush (pc := 12) dX7_readRow_12 (by decide) ?_
  refine x_icmp_eq (pc := 14) 25 dX7_readRow_14 rfl (fun c_14 => ?_) (fun c_14 => ?_)
  · (try simp (disch := omega) only [zb_e0, zb_n0, w32_id, w64_id, ne_eq, Classical.not_not] at c_14)
    refine x_iconst (pc := 25) dX7_readRow_25 ?_
    refine x_goto (pc := 26) 30 dX7_readRow_26 rfl ?_
    refine x_topc (b := zb (lookT T p = 75 ∨ l ≠ [])) (by first | exact (zb_t (show lookT T p = 75 ∨ l ≠ [] from Or.inl (by assumption))).symm | exact (zb_t (show lookT T p = 75 ∨ l ≠ [] from Or.inr (fun z => by have := h11.mpr z; omega))).symm | exact (zb_f (fun z : lookT T p = 75 ∨ l ≠ [] => z.elim (by assumption) (fun y => y (h11.mp (by omega))))).symm) ?_
    refine x_iload_n (pc := 30) dX7_readRow_30 rfl ?_
    refine x_callV2 (pc := 31) dX7_readRow_31 (k_RX7_96 _ rfl) tmv_X7_must (by assumption) rfl rfl rfl ?_
    refine x_room (d' := d) (by omega) (Nat.le_refl _) (Nat.le_refl _) (c_m_must hM0 (P := lookT T p = 75 ∨ l ≠ []) (by omega) s4 (by omega) ?_)
    dsimp only [Option.toList, List.cons_append, List.nil_append]
    refine x_if_ne (pc := 34) 38 dX7_readRow_34 rfl (fun c_34 => ?_) (fun c_34 => ?_)
    · (try simp (disch := omega) only [zb_e0, zb_n0, w32_id, w64_id, ne_eq, Classical.not_not] at c_34)
      --
      rw [mF_t c_34]
      have hl9 : lookT T p ≠ 75 → l ≠ [] := fun z => c_34.resolve_left z
      refine x_aload_n (pc := 38) dX7_readRow_38 rfl ?_
      refine x_dup (pc := 39) dX7_readRow_39 rfl ?_
      refine y_getI 3 (pc := 40) dX7_readRow_40 f_RX7_82 (by assumption) rfl (fun b_40 => ?_)
      rw [s3]
      refine x_iconst (pc := 43) dX7_readRow_43 ?_
      refine x_iadd (pc := 44) dX7_readRow_44 ?_
      refine y_putI 3 (pc := 45) dX7_readRow_45 f_RX7_82 (by assumption) rfl (by rfl) (by omega) rfl ?_
      refine x_iload_n (pc := 48) dX7_readRow_48 rfl ?_
      refine x_bipush (pc := 49) dX7_readRow_49 (by decide) ?_
      refine x_icmp_ne (pc := 51) 62 dX7_readRow_51 rfl (fun c_51 => ?_) (fun c_51 => ?_)
      · (try simp (disch := omega) only [zb_e0, zb_n0, w32_id, w64_id, ne_eq, Classical.not_not] at c_51)
        refine x_iload_n (pc := 62) dX7_readRow_62 rfl ?_
        refine x_bipush (pc := 63) dX7_readRow_63 (by decide) ?_
        refine x_icmp_ne (pc := 65) 76 dX7_readRow_65 rfl (fun c_65 => ?_) (fun c_65 => ?_)
        · (try simp (disch := omega) only [zb_e0, zb_n0, w32_id, w64_id, ne_eq, Classical.not_not] at c_65)
          refine x_iload_n (pc := 76) dX7_readRow_76 rfl ?_
          refine x_bipush (pc := 77) dX7_readRow_77 (by decide) ?_
          refine x_icmp_eq (pc := 79) 88 dX7_readRow_79 rfl (fun c_79 => ?_) (fun c_79 => ?_)
          · (try simp (disch := omega) only [zb_e0, zb_n0, w32_id, w64_id, ne_eq, Classical.not_not] at c_79)
            refine x_aload_n (pc := 88) dX7_readRow_88 rfl ?_
            refine x_iload_n (pc := 89) dX7_readRow_89 rfl ?_
            refine x_iload_n (pc := 90) dX7_readRow_90 rfl ?_
            refine x_bipush (pc := 91) dX7_readRow_91 (by decide) ?_
            refine x_icmp_ne (pc := 93) 102 dX7_readRow_93 rfl (fun c_93 => ?_) (fun c_93 => ?_)
            · (try simp (disch := omega) only [zb_e0, zb_n0, w32_id, w64_id, ne_eq, Classical.not_not] at c_93)
              have hc88 : lookT T p = 88 := by omega
              have hl : l ≠ [] := hl9 (by omega)
              refine x_ldc (pc := 102) dX7_readRow_102 (9999999) tc_RX7_124 (by decide) ?_
              refine x_callV2 (pc := 104) dX7_readRow_104 (k_RX7_142 _ rfl) tmv_X7_readOnceEach (by assumption) rfl rfl rfl ?_
              rw [hc88]
              refine c_m_readEach88 hM0 hP1 hT hS1 hn hp1 hl hc88 (fun f hf hf0 g hF hg4 => ?_) (fun p' R hr g hF hS2 => ?_)
              · dsimp only [Option.toList, List.cons_append, List.nil_append]
                refine x_goto (pc := 107) 130 dX7_readRow_107 rfl ?_
                refine x_ret (pc := 130) ⟨dX7_readRow_130, rfl⟩ ?_
                exact hqF f hf hf0 g (hF0.t hF) hg4
              · dsimp only [Option.toList, List.cons_append, List.nil_append]
                refine x_goto (pc := 107) 130 dX7_readRow_107 rfl ?_
                refine x_ret (pc := 130) ⟨dX7_readRow_130, rfl⟩ ?_
                exact hqK p' R hr g (hF0.t hF) hS2
            · (try simp (disch := omega) only [zb_e0, zb_n0, w32_id, w64_id, ne_eq, Classical.not_not] at c_93)
              have hc90 : lookT T p = 90 := by omega
              have hl : l ≠ [] := hl9 (by omega)
              refine x_sipush (pc := 96) dX7_readRow_96 (by decide) ?_
              refine x_goto (pc := 99) 104 dX7_readRow_99 rfl ?_
              refine x_callV2 (pc := 104) dX7_readRow_104 (k_RX7_142 _ rfl) tmv_X7_readOnceEach (by assumption) rfl rfl rfl ?_
              rw [hc90]
              refine c_m_readEach90 hM0 hP1 hT hS1 hn hp1 hl hc90 (fun f hf hf0 g hF hg4 => ?_) (fun p' R hr g hF hS2 => ?_)
              · dsimp only [Option.toList, List.cons_append, List.nil_append]
                refine x_goto (pc := 107) 130 dX7_readRow_107 rfl ?_
                refine x_ret (pc := 130) ⟨dX7_readRow_130, rfl⟩ ?_
                exact hqF f hf hf0 g (hF0.t hF) hg4
              · dsimp only [Option.toList, List.cons_append, List.nil_append]
                refine x_goto (pc := 107) 130 dX7_readRow_107 rfl ?_
                refine x_ret (pc := 130) ⟨dX7_readRow_130, rfl⟩ ?_
                exact hqK p' R hr g (hF0.t hF) hS2
          · (try simp (disch := omega) only [zb_e0, zb_n0, w32_id, w64_id, ne_eq, Classical.not_not] at c_79)
            refine x_iload_n (pc := 82) dX7_readRow_82 rfl ?_
            refine x_bipush (pc := 83) dX7_readRow_83 (by decide) ?_
            refine x_icmp_ne (pc := 85) 110 dX7_readRow_85 rfl (fun c_85 => ?_) (fun c_85 => ?_)
            · (try simp (disch := omega) only [zb_e0, zb_n0, w32_id, w64_id, ne_eq, Classical.not_not] at c_85)
              refine x_iload_n (pc := 110) dX7_readRow_110 rfl ?_
              refine x_bipush (pc := 111) dX7_readRow_111 (by decide) ?_
              refine x_icmp_ne (pc := 113) 124 dX7_readRow_113 rfl (fun c_113 => ?_) (fun c_113 => ?_)
              · (try simp (disch := omega) only [zb_e0, zb_n0, w32_id, w64_id, ne_eq, Classical.not_not] at c_113)
                refine x_aload_n (pc := 124) dX7_readRow_124 rfl ?_
                refine x_iload_n (pc := 125) dX7_readRow_125 rfl ?_
                refine x_iload_n (pc := 126) dX7_readRow_126 rfl ?_
                refine x_callV2 (pc := 127) dX7_readRow_127 (k_RX7_149 _ rfl) tmv_X7_readOnce (by assumption) rfl rfl rfl ?_
                have hl : l ≠ [] := hl9 (by omega)
                rcases Classical.em (lookT T p = 68) with hc | n68
                · rw [hc]
                  refine c_m_readOnce68 hM0 hP1 hT hS1 hn hp1 hl hc (fun f hf hf0 g hF hg4 => ?_) (fun p' R hr g hF hS2 => ?_)
                  · dsimp only [Option.toList, List.cons_append, List.nil_append]
                    refine x_ret (pc := 130) ⟨dX7_readRow_130, rfl⟩ ?_
                    exact hqF f hf hf0 g (hF0.t hF) hg4
                  · dsimp only [Option.toList, List.cons_append, List.nil_append]
                    refine x_ret (pc := 130) ⟨dX7_readRow_130, rfl⟩ ?_
                    exact hqK p' R hr g (hF0.t hF) hS2
                rcases Classical.em (lookT T p = 77) with hc | n77
                · rw [hc]
                  refine c_m_readOnce77 hM0 hP1 hT hS1 hn hp1 hl hc (fun f hf hf0 g hF hg4 => ?_) (fun p' R hr g hF hS2 => ?_)
                  · dsimp only [Option.toList, List.cons_append, List.nil_append]
                    refine x_ret (pc := 130) ⟨dX7_readRow_130, rfl⟩ ?_
                    exact hqF f hf hf0 g (hF0.t hF) hg4
                  · dsimp only [Option.toList, List.cons_append, List.nil_append]
                    refine x_ret (pc := 130) ⟨dX7_readRow_130, rfl⟩ ?_
                    exact hqK p' R hr g (hF0.t hF) hS2
                rcases Classical.em (lookT T p = 70) with hc | n70
                · rw [hc]
                  refine c_m_readOnce70 hM0 hP1 hT hS1 hn hp1 hl hc (fun f hf hf0 g hF hg4 => ?_) (fun p' R hr g hF hS2 => ?_)
                  · dsimp only [Option.toList, List.cons_append, List.nil_append]
                    refine x_ret (pc := 130) ⟨dX7_readRow_130, rfl⟩ ?_
                    exact hqF f hf hf0 g (hF0.t hF) hg4
                  · dsimp only [Option.toList, List.cons_append, List.nil_append]
                    refine x_ret (pc := 130) ⟨dX7_readRow_130, rfl⟩ ?_
                    exact hqK p' R hr g (hF0.t hF) hS2
                rcases Classical.em (lookT T p = 82) with hc | n82
                · rw [hc]
                  refine c_m_readOnce82 hM0 hP1 hT hS1 hn hp1 hl hc (fun f hf hf0 g hF hg4 => ?_) (fun p' R hr g hF hS2 => ?_)
                  · dsimp only [Option.toList, List.cons_append, List.nil_append]
                    refine x_ret (pc := 130) ⟨dX7_readRow_130, rfl⟩ ?_
                    exact hqF f hf hf0 g (hF0.t hF) hg4
                  · dsimp only [Option.toList, List.cons_append, List.nil_append]
                    refine x_ret (pc := 130) ⟨dX7_readRow_130, rfl⟩ ?_
                    exact hqK p' R hr g (hF0.t hF) hS2
                refine c_m_readOnceU hM0 (by omega) (by simp [zup_app, s4]) ⟨n68, n77, n70, n82⟩ ?_
                dsimp only [Option.toList, List.cons_append, List.nil_append]
                refine x_ret (pc := 130) ⟨dX7_readRow_130, rfl⟩ ?_
                refine hqF p (rowS_n (fun z => ?_)) (by omega) _ (hF0.t (FrR.m _ (Or.inr (Or.inl rfl)))) (by simp [zup_app])
                have := mayB_l z
                unfold isRowL at this
                omega
              · (try simp (disch := omega) only [zb_e0, zb_n0, w32_id, w64_id, ne_eq, Classical.not_not] at c_113)
                refine x_aload_n (pc := 116) dX7_readRow_116 rfl ?_
                refine x_iload_n (pc := 117) dX7_readRow_117 rfl ?_
                refine x_callV1 (pc := 118) dX7_readRow_118 (k_RX7_146 _ rfl) tmv_X7_readApart (by assumption) rfl rfl rfl ?_
                have hl : l ≠ [] := hl9 (by omega)
                refine c_m_readApart hM0 hP1 hT hS1 hn hp1 hl c_113 (fun f hf hf0 g hF hg4 => ?_) (fun p' R hr g hF hS2 => ?_)
                · dsimp only [Option.toList, List.cons_append, List.nil_append]
                  refine x_goto (pc := 121) 130 dX7_readRow_121 rfl ?_
                  refine x_ret (pc := 130) ⟨dX7_readRow_130, rfl⟩ ?_
                  exact hqF f hf hf0 g (hF0.t hF) hg4
                · dsimp only [Option.toList, List.cons_append, List.nil_append]
                  refine x_goto (pc := 121) 130 dX7_readRow_121 rfl ?_
                  refine x_ret (pc := 130) ⟨dX7_readRow_130, rfl⟩ ?_
                  exact hqK p' R hr g (hF0.t hF) hS2
            · (try simp (disch := omega) only [zb_e0, zb_n0, w32_id, w64_id, ne_eq, Classical.not_not] at c_85)
              refine x_aload_n (pc := 88) dX7_readRow_88 rfl ?_
              refine x_iload_n (pc := 89) dX7_readRow_89 rfl ?_
              refine x_iload_n (pc := 90) dX7_readRow_90 rfl ?_
              refine x_bipush (pc := 91) dX7_readRow_91 (by decide) ?_
              refine x_icmp_ne (pc := 93) 102 dX7_readRow_93 rfl (fun c_93 => ?_) (fun c_93 => ?_)
              · (try simp (disch := omega) only [zb_e0, zb_n0, w32_id, w64_id, ne_eq, Classical.not_not] at c_93)
                have hc88 : lookT T p = 88 := by omega
                have hl : l ≠ [] := hl9 (by omega)
                refine x_ldc (pc := 102) dX7_readRow_102 (9999999) tc_RX7_124 (by decide) ?_
                refine x_callV2 (pc := 104) dX7_readRow_104 (k_RX7_142 _ rfl) tmv_X7_readOnceEach (by assumption) rfl rfl rfl ?_
                rw [hc88]
                refine c_m_readEach88 hM0 hP1 hT hS1 hn hp1 hl hc88 (fun f hf hf0 g hF hg4 => ?_) (fun p' R hr g hF hS2 => ?_)
                · dsimp only [Option.toList, List.cons_append, List.nil_append]
                  refine x_goto (pc := 107) 130 dX7_readRow_107 rfl ?_
                  refine x_ret (pc := 130) ⟨dX7_readRow_130, rfl⟩ ?_
                  exact hqF f hf hf0 g (hF0.t hF) hg4
                · dsimp only [Option.toList, List.cons_append, List.nil_append]
                  refine x_goto (pc := 107) 130 dX7_readRow_107 rfl ?_
                  refine x_ret (pc := 130) ⟨dX7_readRow_130, rfl⟩ ?_
                  exact hqK p' R hr g (hF0.t hF) hS2
              · (try simp (disch := omega) only [zb_e0, zb_n0, w32_id, w64_id, ne_eq, Classical.not_not] at c_93)
                have hc90 : lookT T p = 90 := by omega
                have hl : l ≠ [] := hl9 (by omega)
                refine x_sipush (pc := 96) dX7_readRow_96 (by decide) ?_
                refine x_goto (pc := 99) 104 dX7_readRow_99 rfl ?_
                refine x_callV2 (pc := 104) dX7_readRow_104 (k_RX7_142 _ rfl) tmv_X7_readOnceEach (by assumption) rfl rfl rfl ?_
                rw [hc90]
                refine c_m_readEach90 hM0 hP1 hT hS1 hn hp1 hl hc90 (fun f hf hf0 g hF hg4 => ?_) (fun p' R hr g hF hS2 => ?_)
                · dsimp only [Option.toList, List.cons_append, List.nil_append]
                  refine x_goto (pc := 107) 130 dX7_readRow_107 rfl ?_
                  refine x_ret (pc := 130) ⟨dX7_readRow_130, rfl⟩ ?_
                  exact hqF f hf hf0 g (hF0.t hF) hg4
                · dsimp only [Option.toList, List.cons_append, List.nil_append]
                  refine x_goto (pc := 107) 130 dX7_readRow_107 rfl ?_
                  refine x_ret (pc := 130) ⟨dX7_readRow_130, rfl⟩ ?_
                  exact hqK p' R hr g (hF0.t hF) hS2
        · (try simp (disch := omega) only [zb_e0, zb_n0, w32_id, w64_id, ne_eq, Classical.not_not] at c_65)
          refine x_aload_n (pc := 68) dX7_readRow_68 rfl ?_
          refine x_iload_n (pc := 69) dX7_readRow_69 rfl ?_
          refine x_callV1 (pc := 70) dX7_readRow_70 (k_RX7_139 _ rfl) tmv_X7_readStep (by assumption) rfl rfl rfl ?_
          have hl : l ≠ [] := hl9 (by omega)
          refine c_m_readStep hM0 hP1 hT hS1 hn hp1 hl c_65 (fun f hf hf0 g hF hg4 => ?_) (fun p' R hr g hF hS2 => ?_)
          · dsimp only [Option.toList, List.cons_append, List.nil_append]
            refine x_goto (pc := 73) 130 dX7_readRow_73 rfl ?_
            refine x_ret (pc := 130) ⟨dX7_readRow_130, rfl⟩ ?_
            exact hqF f hf hf0 g (hF0.t hF) hg4
          · dsimp only [Option.toList, List.cons_append, List.nil_append]
            refine x_goto (pc := 73) 130 dX7_readRow_73 rfl ?_
            refine x_ret (pc := 130) ⟨dX7_readRow_130, rfl⟩ ?_
            exact hqK p' R hr g (hF0.t hF) hS2
      · (try simp (disch := omega) only [zb_e0, zb_n0, w32_id, w64_id, ne_eq, Classical.not_not] at c_51)
        refine x_aload_n (pc := 54) dX7_readRow_54 rfl ?_
        refine x_iload_n (pc := 55) dX7_readRow_55 rfl ?_
        refine x_callV1 (pc := 56) dX7_readRow_56 (k_RX7_135 _ rfl) tmv_X7_readKind (by assumption) rfl rfl rfl ?_
        refine c_m_readKind hM0 hP1 hT hS1 hn hp1 c_51 (fun f hf hf0 g hF hg4 => ?_) (fun p' R hr g hF hS2 => ?_)
        · dsimp only [Option.toList, List.cons_append, List.nil_append]
          refine x_goto (pc := 59) 130 dX7_readRow_59 rfl ?_
          refine x_ret (pc := 130) ⟨dX7_readRow_130, rfl⟩ ?_
          exact hqF f hf hf0 g (hF0.t hF) hg4
        · dsimp only [Option.toList, List.cons_append, List.nil_append]
          refine x_goto (pc := 59) 130 dX7_readRow_59 rfl ?_
          refine x_ret (pc := 130) ⟨dX7_readRow_130, rfl⟩ ?_
          exact hqK p' R hr g (hF0.t hF) hS2
    · (try simp (disch := omega) only [zb_e0, zb_n0, w32_id, w64_id, ne_eq, Classical.not_not] at c_34)
      --
      rw [mF_n c_34]
      refine x_ret (pc := 37) ⟨dX7_readRow_37, rfl⟩ ?_
      refine hqF p (rowS_n (fun z => ?_)) (by omega) _ (FrR.m h (Or.inr (Or.inl rfl))) (by simp [zup_app])
      unfold mayB at z
      rcases z with ⟨z, -⟩ | ⟨z, -⟩
      · exact c_34 (Or.inl z)
      · exact c_34 (Or.inr z)
  · (try simp (disch := omega) only [zb_e0, zb_n0, w32_id, w64_id, ne_eq, Classical.not_not] at c_14)
    refine x_aload_n (pc := 17) dX7_readRow_17 rfl ?_
    refine y_getI 11 (pc := 18) dX7_readRow_18 f_RX7_107 (by assumption) rfl (fun b_18 => ?_)
    refine x_iconst (pc := 21) dX7_readRow_21 ?_
    refine x_icmp_eq (pc := 22) 29 dX7_readRow_22 rfl (fun c_22 => ?_) (fun c_22 => ?_)
    · (try simp (disch := omega) only [zb_e0, zb_n0, w32_id, w64_id, ne_eq, Classical.not_not] at c_22)
      refine x_iconst (pc := 29) dX7_readRow_29 ?_
      refine x_topc (b := zb (lookT T p = 75 ∨ l ≠ [])) (by first | exact (zb_t (show lookT T p = 75 ∨ l ≠ [] from Or.inl (by assumption))).symm | exact (zb_t (show lookT T p = 75 ∨ l ≠ [] from Or.inr (fun z => by have := h11.mpr z; omega))).symm | exact (zb_f (fun z : lookT T p = 75 ∨ l ≠ [] => z.elim (by assumption) (fun y => y (h11.mp (by omega))))).symm) ?_
      refine x_iload_n (pc := 30) dX7_readRow_30 rfl ?_
      refine x_callV2 (pc := 31) dX7_readRow_31 (k_RX7_96 _ rfl) tmv_X7_must (by assumption) rfl rfl rfl ?_
      refine x_room (d' := d) (by omega) (Nat.le_refl _) (Nat.le_refl _) (c_m_must hM0 (P := lookT T p = 75 ∨ l ≠ []) (by omega) s4 (by omega) ?_)
      dsimp only [Option.toList, List.cons_append, List.nil_append]
      refine x_if_ne (pc := 34) 38 dX7_readRow_34 rfl (fun c_34 => ?_) (fun c_34 => ?_)
      · (try simp (disch := omega) only [zb_e0, zb_n0, w32_id, w64_id, ne_eq, Classical.not_not] at c_34)
        --
        rw [mF_t c_34]
        have hl9 : lookT T p ≠ 75 → l ≠ [] := fun z => c_34.resolve_left z
        refine x_aload_n (pc := 38) dX7_readRow_38 rfl ?_
        refine x_dup (pc := 39) dX7_readRow_39 rfl ?_
        refine y_getI 3 (pc := 40) dX7_readRow_40 f_RX7_82 (by assumption) rfl (fun b_40 => ?_)
        rw [s3]
        refine x_iconst (pc := 43) dX7_readRow_43 ?_
        refine x_iadd (pc := 44) dX7_readRow_44 ?_
        refine y_putI 3 (pc := 45) dX7_readRow_45 f_RX7_82 (by assumption) rfl (by rfl) (by omega) rfl ?_
        refine x_iload_n (pc := 48) dX7_readRow_48 rfl ?_
        refine x_bipush (pc := 49) dX7_readRow_49 (by decide) ?_
        refine x_icmp_ne (pc := 51) 62 dX7_readRow_51 rfl (fun c_51 => ?_) (fun c_51 => ?_)
        · (try simp (disch := omega) only [zb_e0, zb_n0, w32_id, w64_id, ne_eq, Classical.not_not] at c_51)
          refine x_iload_n (pc := 62) dX7_readRow_62 rfl ?_
          refine x_bipush (pc := 63) dX7_readRow_63 (by decide) ?_
          refine x_icmp_ne (pc := 65) 76 dX7_readRow_65 rfl (fun c_65 => ?_) (fun c_65 => ?_)
          · (try simp (disch := omega) only [zb_e0, zb_n0, w32_id, w64_id, ne_eq, Classical.not_not] at c_65)
            refine x_iload_n (pc := 76) dX7_readRow_76 rfl ?_
            refine x_bipush (pc := 77) dX7_readRow_77 (by decide) ?_
            refine x_icmp_eq (pc := 79) 88 dX7_readRow_79 rfl (fun c_79 => ?_) (fun c_79 => ?_)
            · (try simp (disch := omega) only [zb_e0, zb_n0, w32_id, w64_id, ne_eq, Classical.not_not] at c_79)
              refine x_aload_n (pc := 88) dX7_readRow_88 rfl ?_
              refine x_iload_n (pc := 89) dX7_readRow_89 rfl ?_
              refine x_iload_n (pc := 90) dX7_readRow_90 rfl ?_
              refine x_bipush (pc := 91) dX7_readRow_91 (by decide) ?_
              refine x_icmp_ne (pc := 93) 102 dX7_readRow_93 rfl (fun c_93 => ?_) (fun c_93 => ?_)
              · (try simp (disch := omega) only [zb_e0, zb_n0, w32_id, w64_id, ne_eq, Classical.not_not] at c_93)
                have hc88 : lookT T p = 88 := by omega
                have hl : l ≠ [] := hl9 (by omega)
                refine x_ldc (pc := 102) dX7_readRow_102 (9999999) tc_RX7_124 (by decide) ?_
                refine x_callV2 (pc := 104) dX7_readRow_104 (k_RX7_142 _ rfl) tmv_X7_readOnceEach (by assumption) rfl rfl rfl ?_
                rw [hc88]
                refine c_m_readEach88 hM0 hP1 hT hS1 hn hp1 hl hc88 (fun f hf hf0 g hF hg4 => ?_) (fun p' R hr g hF hS2 => ?_)
                · dsimp only [Option.toList, List.cons_append, List.nil_append]
                  refine x_goto (pc := 107) 130 dX7_readRow_107 rfl ?_
                  refine x_ret (pc := 130) ⟨dX7_readRow_130, rfl⟩ ?_
                  exact hqF f hf hf0 g (hF0.t hF) hg4
                · dsimp only [Option.toList, List.cons_append, List.nil_append]
                  refine x_goto (pc := 107) 130 dX7_readRow_107 rfl ?_
                  refine x_ret (pc := 130) ⟨dX7_readRow_130, rfl⟩ ?_
                  exact hqK p' R hr g (hF0.t hF) hS2
              · (try simp (disch := omega) only [zb_e0, zb_n0, w32_id, w64_id, ne_eq, Classical.not_not] at c_93)
                have hc90 : lookT T p = 90 := by omega
                have hl : l ≠ [] := hl9 (by omega)
                refine x_sipush (pc := 96) dX7_readRow_96 (by decide) ?_
                refine x_goto (pc := 99) 104 dX7_readRow_99 rfl ?_
                refine x_callV2 (pc := 104) dX7_readRow_104 (k_RX7_142 _ rfl) tmv_X7_readOnceEach (by assumption) rfl rfl rfl ?_
                rw [hc90]
                refine c_m_readEach90 hM0 hP1 hT hS1 hn hp1 hl hc90 (fun f hf hf0 g hF hg4 => ?_) (fun p' R hr g hF hS2 => ?_)
                · dsimp only [Option.toList, List.cons_append, List.nil_append]
                  refine x_goto (pc := 107) 130 dX7_readRow_107 rfl ?_
                  refine x_ret (pc := 130) ⟨dX7_readRow_130, rfl⟩ ?_
                  exact hqF f hf hf0 g (hF0.t hF) hg4
                · dsimp only [Option.toList, List.cons_append, List.nil_append]
                  refine x_goto (pc := 107) 130 dX7_readRow_107 rfl ?_
                  refine x_ret (pc := 130) ⟨dX7_readRow_130, rfl⟩ ?_
                  exact hqK p' R hr g (hF0.t hF) hS2
            · (try simp (disch := omega) only [zb_e0, zb_n0, w32_id, w64_id, ne_eq, Classical.not_not] at c_79)
              refine x_iload_n (pc := 82) dX7_readRow_82 rfl ?_
              refine x_bipush (pc := 83) dX7_readRow_83 (by decide) ?_
              refine x_icmp_ne (pc := 85) 110 dX7_readRow_85 rfl (fun c_85 => ?_) (fun c_85 => ?_)
              · (try simp (disch := omega) only [zb_e0, zb_n0, w32_id, w64_id, ne_eq, Classical.not_not] at c_85)
                refine x_iload_n (pc := 110) dX7_readRow_110 rfl ?_
                refine x_bipush (pc := 111) dX7_readRow_111 (by decide) ?_
                refine x_icmp_ne (pc := 113) 124 dX7_readRow_113 rfl (fun c_113 => ?_) (fun c_113 => ?_)
                · (try simp (disch := omega) only [zb_e0, zb_n0, w32_id, w64_id, ne_eq, Classical.not_not] at c_113)
                  refine x_aload_n (pc := 124) dX7_readRow_124 rfl ?_
                  refine x_iload_n (pc := 125) dX7_readRow_125 rfl ?_
                  refine x_iload_n (pc := 126) dX7_readRow_126 rfl ?_
                  refine x_callV2 (pc := 127) dX7_readRow_127 (k_RX7_149 _ rfl) tmv_X7_readOnce (by assumption) rfl rfl rfl ?_
                  have hl : l ≠ [] := hl9 (by omega)
                  rcases Classical.em (lookT T p = 68) with hc | n68
                  · rw [hc]
                    refine c_m_readOnce68 hM0 hP1 hT hS1 hn hp1 hl hc (fun f hf hf0 g hF hg4 => ?_) (fun p' R hr g hF hS2 => ?_)
                    · dsimp only [Option.toList, List.cons_append, List.nil_append]
                      refine x_ret (pc := 130) ⟨dX7_readRow_130, rfl⟩ ?_
                      exact hqF f hf hf0 g (hF0.t hF) hg4
                    · dsimp only [Option.toList, List.cons_append, List.nil_append]
                      refine x_ret (pc := 130) ⟨dX7_readRow_130, rfl⟩ ?_
                      exact hqK p' R hr g (hF0.t hF) hS2
                  rcases Classical.em (lookT T p = 77) with hc | n77
                  · rw [hc]
                    refine c_m_readOnce77 hM0 hP1 hT hS1 hn hp1 hl hc (fun f hf hf0 g hF hg4 => ?_) (fun p' R hr g hF hS2 => ?_)
                    · dsimp only [Option.toList, List.cons_append, List.nil_append]
                      refine x_ret (pc := 130) ⟨dX7_readRow_130, rfl⟩ ?_
                      exact hqF f hf hf0 g (hF0.t hF) hg4
                    · dsimp only [Option.toList, List.cons_append, List.nil_append]
                      refine x_ret (pc := 130) ⟨dX7_readRow_130, rfl⟩ ?_
                      exact hqK p' R hr g (hF0.t hF) hS2
                  rcases Classical.em (lookT T p = 70) with hc | n70
                  · rw [hc]
                    refine c_m_readOnce70 hM0 hP1 hT hS1 hn hp1 hl hc (fun f hf hf0 g hF hg4 => ?_) (fun p' R hr g hF hS2 => ?_)
                    · dsimp only [Option.toList, List.cons_append, List.nil_append]
                      refine x_ret (pc := 130) ⟨dX7_readRow_130, rfl⟩ ?_
                      exact hqF f hf hf0 g (hF0.t hF) hg4
                    · dsimp only [Option.toList, List.cons_append, List.nil_append]
                      refine x_ret (pc := 130) ⟨dX7_readRow_130, rfl⟩ ?_
                      exact hqK p' R hr g (hF0.t hF) hS2
                  rcases Classical.em (lookT T p = 82) with hc | n82
                  · rw [hc]
                    refine c_m_readOnce82 hM0 hP1 hT hS1 hn hp1 hl hc (fun f hf hf0 g hF hg4 => ?_) (fun p' R hr g hF hS2 => ?_)
                    · dsimp only [Option.toList, List.cons_append, List.nil_append]
                      refine x_ret (pc := 130) ⟨dX7_readRow_130, rfl⟩ ?_
                      exact hqF f hf hf0 g (hF0.t hF) hg4
                    · dsimp only [Option.toList, List.cons_append, List.nil_append]
                      refine x_ret (pc := 130) ⟨dX7_readRow_130, rfl⟩ ?_
                      exact hqK p' R hr g (hF0.t hF) hS2
                  refine c_m_readOnceU hM0 (by omega) (by simp [zup_app, s4]) ⟨n68, n77, n70, n82⟩ ?_
                  dsimp only [Option.toList, List.cons_append, List.nil_append]
                  refine x_ret (pc := 130) ⟨dX7_readRow_130, rfl⟩ ?_
                  refine hqF p (rowS_n (fun z => ?_)) (by omega) _ (hF0.t (FrR.m _ (Or.inr (Or.inl rfl)))) (by simp [zup_app])
                  have := mayB_l z
                  unfold isRowL at this
                  omega
                · (try simp (disch := omega) only [zb_e0, zb_n0, w32_id, w64_id, ne_eq, Classical.not_not] at c_113)
                  refine x_aload_n (pc := 116) dX7_readRow_116 rfl ?_
                  refine x_iload_n (pc := 117) dX7_readRow_117 rfl ?_
                  refine x_callV1 (pc := 118) dX7_readRow_118 (k_RX7_146 _ rfl) tmv_X7_readApart (by assumption) rfl rfl rfl ?_
                  have hl : l ≠ [] := hl9 (by omega)
                  refine c_m_readApart hM0 hP1 hT hS1 hn hp1 hl c_113 (fun f hf hf0 g hF hg4 => ?_) (fun p' R hr g hF hS2 => ?_)
                  · dsimp only [Option.toList, List.cons_append, List.nil_append]
                    refine x_goto (pc := 121) 130 dX7_readRow_121 rfl ?_
                    refine x_ret (pc := 130) ⟨dX7_readRow_130, rfl⟩ ?_
                    exact hqF f hf hf0 g (hF0.t hF) hg4
                  · dsimp only [Option.toList, List.cons_append, List.nil_append]
                    refine x_goto (pc := 121) 130 dX7_readRow_121 rfl ?_
                    refine x_ret (pc := 130) ⟨dX7_readRow_130, rfl⟩ ?_
                    exact hqK p' R hr g (hF0.t hF) hS2
              · (try simp (disch := omega) only [zb_e0, zb_n0, w32_id, w64_id, ne_eq, Classical.not_not] at c_85)
                refine x_aload_n (pc := 88) dX7_readRow_88 rfl ?_
                refine x_iload_n (pc := 89) dX7_readRow_89 rfl ?_
                refine x_iload_n (pc := 90) dX7_readRow_90 rfl ?_
                refine x_bipush (pc := 91) dX7_readRow_91 (by decide) ?_
                refine x_icmp_ne (pc := 93) 102 dX7_readRow_93 rfl (fun c_93 => ?_) (fun c_93 => ?_)
                · (try simp (disch := omega) only [zb_e0, zb_n0, w32_id, w64_id, ne_eq, Classical.not_not] at c_93)
                  have hc88 : lookT T p = 88 := by omega
                  have hl : l ≠ [] := hl9 (by omega)
                  refine x_ldc (pc := 102) dX7_readRow_102 (9999999) tc_RX7_124 (by decide) ?_
                  refine x_callV2 (pc := 104) dX7_readRow_104 (k_RX7_142 _ rfl) tmv_X7_readOnceEach (by assumption) rfl rfl rfl ?_
                  rw [hc88]
                  refine c_m_readEach88 hM0 hP1 hT hS1 hn hp1 hl hc88 (fun f hf hf0 g hF hg4 => ?_) (fun p' R hr g hF hS2 => ?_)
                  · dsimp only [Option.toList, List.cons_append, List.nil_append]
                    refine x_goto (pc := 107) 130 dX7_readRow_107 rfl ?_
                    refine x_ret (pc := 130) ⟨dX7_readRow_130, rfl⟩ ?_
                    exact hqF f hf hf0 g (hF0.t hF) hg4
                  · dsimp only [Option.toList, List.cons_append, List.nil_append]
                    refine x_goto (pc := 107) 130 dX7_readRow_107 rfl ?_
                    refine x_ret (pc := 130) ⟨dX7_readRow_130, rfl⟩ ?_
                    exact hqK p' R hr g (hF0.t hF) hS2
                · (try simp (disch := omega) only [zb_e0, zb_n0, w32_id, w64_id, ne_eq, Classical.not_not] at c_93)
                  have hc90 : lookT T p = 90 := by omega
                  have hl : l ≠ [] := hl9 (by omega)
                  refine x_sipush (pc := 96) dX7_readRow_96 (by decide) ?_
                  refine x_goto (pc := 99) 104 dX7_readRow_99 rfl ?_
                  refine x_callV2 (pc := 104) dX7_readRow_104 (k_RX7_142 _ rfl) tmv_X7_readOnceEach (by assumption) rfl rfl rfl ?_
                  rw [hc90]
                  refine c_m_readEach90 hM0 hP1 hT hS1 hn hp1 hl hc90 (fun f hf hf0 g hF hg4 => ?_) (fun p' R hr g hF hS2 => ?_)
                  · dsimp only [Option.toList, List.cons_append, List.nil_append]
                    refine x_goto (pc := 107) 130 dX7_readRow_107 rfl ?_
                    refine x_ret (pc := 130) ⟨dX7_readRow_130, rfl⟩ ?_
                    exact hqF f hf hf0 g (hF0.t hF) hg4
                  · dsimp only [Option.toList, List.cons_append, List.nil_append]
                    refine x_goto (pc := 107) 130 dX7_readRow_107 rfl ?_
                    refine x_ret (pc := 130) ⟨dX7_readRow_130, rfl⟩ ?_
                    exact hqK p' R hr g (hF0.t hF) hS2
          · (try simp (disch := omega) only [zb_e0, zb_n0, w32_id, w64_id, ne_eq, Classical.not_not] at c_65)
            refine x_aload_n (pc := 68) dX7_readRow_68 rfl ?_
            refine x_iload_n (pc := 69) dX7_readRow_69 rfl ?_
            refine x_callV1 (pc := 70) dX7_readRow_70 (k_RX7_139 _ rfl) tmv_X7_readStep (by assumption) rfl rfl rfl ?_
            have hl : l ≠ [] := hl9 (by omega)
            refine c_m_readStep hM0 hP1 hT hS1 hn hp1 hl c_65 (fun f hf hf0 g hF hg4 => ?_) (fun p' R hr g hF hS2 => ?_)
            · dsimp only [Option.toList, List.cons_append, List.nil_append]
              refine x_goto (pc := 73) 130 dX7_readRow_73 rfl ?_
              refine x_ret (pc := 130) ⟨dX7_readRow_130, rfl⟩ ?_
              exact hqF f hf hf0 g (hF0.t hF) hg4
            · dsimp only [Option.toList, List.cons_append, List.nil_append]
              refine x_goto (pc := 73) 130 dX7_readRow_73 rfl ?_
              refine x_ret (pc := 130) ⟨dX7_readRow_130, rfl⟩ ?_
              exact hqK p' R hr g (hF0.t hF) hS2
        · (try simp (disch := omega) only [zb_e0, zb_n0, w32_id, w64_id, ne_eq, Classical.not_not] at c_51)
          refine x_aload_n (pc := 54) dX7_readRow_54 rfl ?_
          refine x_iload_n (pc := 55) dX7_readRow_55 rfl ?_
          refine x_callV1 (pc := 56) dX7_readRow_56 (k_RX7_135 _ rfl) tmv_X7_readKind (by assumption) rfl rfl rfl ?_
          refine c_m_readKind hM0 hP1 hT hS1 hn hp1 c_51 (fun f hf hf0 g hF hg4 => ?_) (fun p' R hr g hF hS2 => ?_)
          · dsimp only [Option.toList, List.cons_append, List.nil_append]
            refine x_goto (pc := 59) 130 dX7_readRow_59 rfl ?_
            refine x_ret (pc := 130) ⟨dX7_readRow_130, rfl⟩ ?_
            exact hqF f hf hf0 g (hF0.t hF) hg4
          · dsimp only [Option.toList, List.cons_append, List.nil_append]
            refine x_goto (pc := 59) 130 dX7_readRow_59 rfl ?_
            refine x_ret (pc := 130) ⟨dX7_readRow_130, rfl⟩ ?_
            exact hqK p' R hr g (hF0.t hF) hS2
      · (try simp (disch := omega) only [zb_e0, zb_n0, w32_id, w64_id, ne_eq, Classical.not_not] at c_34)
        --
        rw [mF_n c_34]
        refine x_ret (pc := 37) ⟨dX7_readRow_37, rfl⟩ ?_
        refine hqF p (rowS_n (fun z => ?_)) (by omega) _ (FrR.m h (Or.inr (Or.inl rfl))) (by simp [zup_app])
        unfold mayB at z
        rcases z with ⟨z, -⟩ | ⟨z, -⟩
        · exact c_34 (Or.inl z)
        · exact c_34 (Or.inr z)
    · (try simp (disch := omega) only [zb_e0, zb_n0, w32_id, w64_id, ne_eq, Classical.not_not] at c_22)
      refine x_iconst (pc := 25) dX7_readRow_25 ?_
      refine x_goto (pc := 26) 30 dX7_readRow_26 rfl ?_
      refine x_topc (b := zb (lookT T p = 75 ∨ l ≠ [])) (by first | exact (zb_t (show lookT T p = 75 ∨ l ≠ [] from Or.inl (by assumption))).symm | exact (zb_t (show lookT T p = 75 ∨ l ≠ [] from Or.inr (fun z => by have := h11.mpr z; omega))).symm | exact (zb_f (fun z : lookT T p = 75 ∨ l ≠ [] => z.elim (by assumption) (fun y => y (h11.mp (by omega))))).symm) ?_
      refine x_iload_n (pc := 30) dX7_readRow_30 rfl ?_
      refine x_callV2 (pc := 31) dX7_readRow_31 (k_RX7_96 _ rfl) tmv_X7_must (by assumption) rfl rfl rfl ?_
      refine x_room (d' := d) (by omega) (Nat.le_refl _) (Nat.le_refl _) (c_m_must hM0 (P := lookT T p = 75 ∨ l ≠ []) (by omega) s4 (by omega) ?_)
      dsimp only [Option.toList, List.cons_append, List.nil_append]
      refine x_if_ne (pc := 34) 38 dX7_readRow_34 rfl (fun c_34 => ?_) (fun c_34 => ?_)
      · (try simp (disch := omega) only [zb_e0, zb_n0, w32_id, w64_id, ne_eq, Classical.not_not] at c_34)
        --
        rw [mF_t c_34]
        have hl9 : lookT T p ≠ 75 → l ≠ [] := fun z => c_34.resolve_left z
        refine x_aload_n (pc := 38) dX7_readRow_38 rfl ?_
        refine x_dup (pc := 39) dX7_readRow_39 rfl ?_
        refine y_getI 3 (pc := 40) dX7_readRow_40 f_RX7_82 (by assumption) rfl (fun b_40 => ?_)
        rw [s3]
        refine x_iconst (pc := 43) dX7_readRow_43 ?_
        refine x_iadd (pc := 44) dX7_readRow_44 ?_
        refine y_putI 3 (pc := 45) dX7_readRow_45 f_RX7_82 (by assumption) rfl (by rfl) (by omega) rfl ?_
        refine x_iload_n (pc := 48) dX7_readRow_48 rfl ?_
        refine x_bipush (pc := 49) dX7_readRow_49 (by decide) ?_
        refine x_icmp_ne (pc := 51) 62 dX7_readRow_51 rfl (fun c_51 => ?_) (fun c_51 => ?_)
        · (try simp (disch := omega) only [zb_e0, zb_n0, w32_id, w64_id, ne_eq, Classical.not_not] at c_51)
          refine x_iload_n (pc := 62) dX7_readRow_62 rfl ?_
          refine x_bipush (pc := 63) dX7_readRow_63 (by decide) ?_
          refine x_icmp_ne (pc := 65) 76 dX7_readRow_65 rfl (fun c_65 => ?_) (fun c_65 => ?_)
          · (try simp (disch := omega) only [zb_e0, zb_n0, w32_id, w64_id, ne_eq, Classical.not_not] at c_65)
            refine x_iload_n (pc := 76) dX7_readRow_76 rfl ?_
            refine x_bipush (pc := 77) dX7_readRow_77 (by decide) ?_
            refine x_icmp_eq (pc := 79) 88 dX7_readRow_79 rfl (fun c_79 => ?_) (fun c_79 => ?_)
            · (try simp (disch := omega) only [zb_e0, zb_n0, w32_id, w64_id, ne_eq, Classical.not_not] at c_79)
              refine x_aload_n (pc := 88) dX7_readRow_88 rfl ?_
              refine x_iload_n (pc := 89) dX7_readRow_89 rfl ?_
              refine x_iload_n (pc := 90) dX7_readRow_90 rfl ?_
              refine x_bipush (pc := 91) dX7_readRow_91 (by decide) ?_
              refine x_icmp_ne (pc := 93) 102 dX7_readRow_93 rfl (fun c_93 => ?_) (fun c_93 => ?_)
              · (try simp (disch := omega) only [zb_e0, zb_n0, w32_id, w64_id, ne_eq, Classical.not_not] at c_93)
                have hc88 : lookT T p = 88 := by omega
                have hl : l ≠ [] := hl9 (by omega)
                refine x_ldc (pc := 102) dX7_readRow_102 (9999999) tc_RX7_124 (by decide) ?_
                refine x_callV2 (pc := 104) dX7_readRow_104 (k_RX7_142 _ rfl) tmv_X7_readOnceEach (by assumption) rfl rfl rfl ?_
                rw [hc88]
                refine c_m_readEach88 hM0 hP1 hT hS1 hn hp1 hl hc88 (fun f hf hf0 g hF hg4 => ?_) (fun p' R hr g hF hS2 => ?_)
                · dsimp only [Option.toList, List.cons_append, List.nil_append]
                  refine x_goto (pc := 107) 130 dX7_readRow_107 rfl ?_
                  refine x_ret (pc := 130) ⟨dX7_readRow_130, rfl⟩ ?_
                  exact hqF f hf hf0 g (hF0.t hF) hg4
                · dsimp only [Option.toList, List.cons_append, List.nil_append]
                  refine x_goto (pc := 107) 130 dX7_readRow_107 rfl ?_
                  refine x_ret (pc := 130) ⟨dX7_readRow_130, rfl⟩ ?_
                  exact hqK p' R hr g (hF0.t hF) hS2
              · (try simp (disch := omega) only [zb_e0, zb_n0, w32_id, w64_id, ne_eq, Classical.not_not] at c_93)
                have hc90 : lookT T p = 90 := by omega
                have hl : l ≠ [] := hl9 (by omega)
                refine x_sipush (pc := 96) dX7_readRow_96 (by decide) ?_
                refine x_goto (pc := 99) 104 dX7_readRow_99 rfl ?_
                refine x_callV2 (pc := 104) dX7_readRow_104 (k_RX7_142 _ rfl) tmv_X7_readOnceEach (by assumption) rfl rfl rfl ?_
                rw [hc90]
                refine c_m_readEach90 hM0 hP1 hT hS1 hn hp1 hl hc90 (fun f hf hf0 g hF hg4 => ?_) (fun p' R hr g hF hS2 => ?_)
                · dsimp only [Option.toList, List.cons_append, List.nil_append]
                  refine x_goto (pc := 107) 130 dX7_readRow_107 rfl ?_
                  refine x_ret (pc := 130) ⟨dX7_readRow_130, rfl⟩ ?_
                  exact hqF f hf hf0 g (hF0.t hF) hg4
                · dsimp only [Option.toList, List.cons_append, List.nil_append]
                  refine x_goto (pc := 107) 130 dX7_readRow_107 rfl ?_
                  refine x_ret (pc := 130) ⟨dX7_readRow_130, rfl⟩ ?_
                  exact hqK p' R hr g (hF0.t hF) hS2
            · (try simp (disch := omega) only [zb_e0, zb_n0, w32_id, w64_id, ne_eq, Classical.not_not] at c_79)
              refine x_iload_n (pc := 82) dX7_readRow_82 rfl ?_
              refine x_bipush (pc := 83) dX7_readRow_83 (by decide) ?_
              refine x_icmp_ne (pc := 85) 110 dX7_readRow_85 rfl (fun c_85 => ?_) (fun c_85 => ?_)
              · (try simp (disch := omega) only [zb_e0, zb_n0, w32_id, w64_id, ne_eq, Classical.not_not] at c_85)
                refine x_iload_n (pc := 110) dX7_readRow_110 rfl ?_
                refine x_bipush (pc := 111) dX7_readRow_111 (by decide) ?_
                refine x_icmp_ne (pc := 113) 124 dX7_readRow_113 rfl (fun c_113 => ?_) (fun c_113 => ?_)
                · (try simp (disch := omega) only [zb_e0, zb_n0, w32_id, w64_id, ne_eq, Classical.not_not] at c_113)
                  refine x_aload_n (pc := 124) dX7_readRow_124 rfl ?_
                  refine x_iload_n (pc := 125) dX7_readRow_125 rfl ?_
                  refine x_iload_n (pc := 126) dX7_readRow_126 rfl ?_
                  refine x_callV2 (pc := 127) dX7_readRow_127 (k_RX7_149 _ rfl) tmv_X7_readOnce (by assumption) rfl rfl rfl ?_
                  have hl : l ≠ [] := hl9 (by omega)
                  rcases Classical.em (lookT T p = 68) with hc | n68
                  · rw [hc]
                    refine c_m_readOnce68 hM0 hP1 hT hS1 hn hp1 hl hc (fun f hf hf0 g hF hg4 => ?_) (fun p' R hr g hF hS2 => ?_)
                    · dsimp only [Option.toList, List.cons_append, List.nil_append]
                      refine x_ret (pc := 130) ⟨dX7_readRow_130, rfl⟩ ?_
                      exact hqF f hf hf0 g (hF0.t hF) hg4
                    · dsimp only [Option.toList, List.cons_append, List.nil_append]
                      refine x_ret (pc := 130) ⟨dX7_readRow_130, rfl⟩ ?_
                      exact hqK p' R hr g (hF0.t hF) hS2
                  rcases Classical.em (lookT T p = 77) with hc | n77
                  · rw [hc]
                    refine c_m_readOnce77 hM0 hP1 hT hS1 hn hp1 hl hc (fun f hf hf0 g hF hg4 => ?_) (fun p' R hr g hF hS2 => ?_)
                    · dsimp only [Option.toList, List.cons_append, List.nil_append]
                      refine x_ret (pc := 130) ⟨dX7_readRow_130, rfl⟩ ?_
                      exact hqF f hf hf0 g (hF0.t hF) hg4
                    · dsimp only [Option.toList, List.cons_append, List.nil_append]
                      refine x_ret (pc := 130) ⟨dX7_readRow_130, rfl⟩ ?_
                      exact hqK p' R hr g (hF0.t hF) hS2
                  rcases Classical.em (lookT T p = 70) with hc | n70
                  · rw [hc]
                    refine c_m_readOnce70 hM0 hP1 hT hS1 hn hp1 hl hc (fun f hf hf0 g hF hg4 => ?_) (fun p' R hr g hF hS2 => ?_)
                    · dsimp only [Option.toList, List.cons_append, List.nil_append]
                      refine x_ret (pc := 130) ⟨dX7_readRow_130, rfl⟩ ?_
                      exact hqF f hf hf0 g (hF0.t hF) hg4
                    · dsimp only [Option.toList, List.cons_append, List.nil_append]
                      refine x_ret (pc := 130) ⟨dX7_readRow_130, rfl⟩ ?_
                      exact hqK p' R hr g (hF0.t hF) hS2
                  rcases Classical.em (lookT T p = 82) with hc | n82
                  · rw [hc]
                    refine c_m_readOnce82 hM0 hP1 hT hS1 hn hp1 hl hc (fun f hf hf0 g hF hg4 => ?_) (fun p' R hr g hF hS2 => ?_)
                    · dsimp only [Option.toList, List.cons_append, List.nil_append]
                      refine x_ret (pc := 130) ⟨dX7_readRow_130, rfl⟩ ?_
                      exact hqF f hf hf0 g (hF0.t hF) hg4
                    · dsimp only [Option.toList, List.cons_append, List.nil_append]
                      refine x_ret (pc := 130) ⟨dX7_readRow_130, rfl⟩ ?_
                      exact hqK p' R hr g (hF0.t hF) hS2
                  refine c_m_readOnceU hM0 (by omega) (by simp [zup_app, s4]) ⟨n68, n77, n70, n82⟩ ?_
                  dsimp only [Option.toList, List.cons_append, List.nil_append]
                  refine x_ret (pc := 130) ⟨dX7_readRow_130, rfl⟩ ?_
                  refine hqF p (rowS_n (fun z => ?_)) (by omega) _ (hF0.t (FrR.m _ (Or.inr (Or.inl rfl)))) (by simp [zup_app])
                  have := mayB_l z
                  unfold isRowL at this
                  omega
                · (try simp (disch := omega) only [zb_e0, zb_n0, w32_id, w64_id, ne_eq, Classical.not_not] at c_113)
                  refine x_aload_n (pc := 116) dX7_readRow_116 rfl ?_
                  refine x_iload_n (pc := 117) dX7_readRow_117 rfl ?_
                  refine x_callV1 (pc := 118) dX7_readRow_118 (k_RX7_146 _ rfl) tmv_X7_readApart (by assumption) rfl rfl rfl ?_
                  have hl : l ≠ [] := hl9 (by omega)
                  refine c_m_readApart hM0 hP1 hT hS1 hn hp1 hl c_113 (fun f hf hf0 g hF hg4 => ?_) (fun p' R hr g hF hS2 => ?_)
                  · dsimp only [Option.toList, List.cons_append, List.nil_append]
                    refine x_goto (pc := 121) 130 dX7_readRow_121 rfl ?_
                    refine x_ret (pc := 130) ⟨dX7_readRow_130, rfl⟩ ?_
                    exact hqF f hf hf0 g (hF0.t hF) hg4
                  · dsimp only [Option.toList, List.cons_append, List.nil_append]
                    refine x_goto (pc := 121) 130 dX7_readRow_121 rfl ?_
                    refine x_ret (pc := 130) ⟨dX7_readRow_130, rfl⟩ ?_
                    exact hqK p' R hr g (hF0.t hF) hS2
              · (try simp (disch := omega) only [zb_e0, zb_n0, w32_id, w64_id, ne_eq, Classical.not_not] at c_85)
                refine x_aload_n (pc := 88) dX7_readRow_88 rfl ?_
                refine x_iload_n (pc := 89) dX7_readRow_89 rfl ?_
                refine x_iload_n (pc := 90) dX7_readRow_90 rfl ?_
                refine x_bipush (pc := 91) dX7_readRow_91 (by decide) ?_
                refine x_icmp_ne (pc := 93) 102 dX7_readRow_93 rfl (fun c_93 => ?_) (fun c_93 => ?_)
                · (try simp (disch := omega) only [zb_e0, zb_n0, w32_id, w64_id, ne_eq, Classical.not_not] at c_93)
                  have hc88 : lookT T p = 88 := by omega
                  have hl : l ≠ [] := hl9 (by omega)
                  refine x_ldc (pc := 102) dX7_readRow_102 (9999999) tc_RX7_124 (by decide) ?_
                  refine x_callV2 (pc := 104) dX7_readRow_104 (k_RX7_142 _ rfl) tmv_X7_readOnceEach (by assumption) rfl rfl rfl ?_
                  rw [hc88]
                  refine c_m_readEach88 hM0 hP1 hT hS1 hn hp1 hl hc88 (fun f hf hf0 g hF hg4 => ?_) (fun p' R hr g hF hS2 => ?_)
                  · dsimp only [Option.toList, List.cons_append, List.nil_append]
                    refine x_goto (pc := 107) 130 dX7_readRow_107 rfl ?_
                    refine x_ret (pc := 130) ⟨dX7_readRow_130, rfl⟩ ?_
                    exact hqF f hf hf0 g (hF0.t hF) hg4
                  · dsimp only [Option.toList, List.cons_append, List.nil_append]
                    refine x_goto (pc := 107) 130 dX7_readRow_107 rfl ?_
                    refine x_ret (pc := 130) ⟨dX7_readRow_130, rfl⟩ ?_
                    exact hqK p' R hr g (hF0.t hF) hS2
                · (try simp (disch := omega) only [zb_e0, zb_n0, w32_id, w64_id, ne_eq, Classical.not_not] at c_93)
                  have hc90 : lookT T p = 90 := by omega
                  have hl : l ≠ [] := hl9 (by omega)
                  refine x_sipush (pc := 96) dX7_readRow_96 (by decide) ?_
                  refine x_goto (pc := 99) 104 dX7_readRow_99 rfl ?_
                  refine x_callV2 (pc := 104) dX7_readRow_104 (k_RX7_142 _ rfl) tmv_X7_readOnceEach (by assumption) rfl rfl rfl ?_
                  rw [hc90]
                  refine c_m_readEach90 hM0 hP1 hT hS1 hn hp1 hl hc90 (fun f hf hf0 g hF hg4 => ?_) (fun p' R hr g hF hS2 => ?_)
                  · dsimp only [Option.toList, List.cons_append, List.nil_append]
                    refine x_goto (pc := 107) 130 dX7_readRow_107 rfl ?_
                    refine x_ret (pc := 130) ⟨dX7_readRow_130, rfl⟩ ?_
                    exact hqF f hf hf0 g (hF0.t hF) hg4
                  · dsimp only [Option.toList, List.cons_append, List.nil_append]
                    refine x_goto (pc := 107) 130 dX7_readRow_107 rfl ?_
                    refine x_ret (pc := 130) ⟨dX7_readRow_130, rfl⟩ ?_
                    exact hqK p' R hr g (hF0.t hF) hS2
          · (try simp (disch := omega) only [zb_e0, zb_n0, w32_id, w64_id, ne_eq, Classical.not_not] at c_65)
            refine x_aload_n (pc := 68) dX7_readRow_68 rfl ?_
            refine x_iload_n (pc := 69) dX7_readRow_69 rfl ?_
            refine x_callV1 (pc := 70) dX7_readRow_70 (k_RX7_139 _ rfl) tmv_X7_readStep (by assumption) rfl rfl rfl ?_
            have hl : l ≠ [] := hl9 (by omega)
            refine c_m_readStep hM0 hP1 hT hS1 hn hp1 hl c_65 (fun f hf hf0 g hF hg4 => ?_) (fun p' R hr g hF hS2 => ?_)
            · dsimp only [Option.toList, List.cons_append, List.nil_append]
              refine x_goto (pc := 73) 130 dX7_readRow_73 rfl ?_
              refine x_ret (pc := 130) ⟨dX7_readRow_130, rfl⟩ ?_
              exact hqF f hf hf0 g (hF0.t hF) hg4
            · dsimp only [Option.toList, List.cons_append, List.nil_append]
              refine x_goto (pc := 73) 130 dX7_readRow_73 rfl ?_
              refine x_ret (pc := 130) ⟨dX7_readRow_130, rfl⟩ ?_
              exact hqK p' R hr g (hF0.t hF) hS2
        · (try simp (disch := omega) only [zb_e0, zb_n0, w32_id, w64_id, ne_eq, Classical.not_not] at c_51)
          refine x_aload_n (pc := 54) dX7_readRow_54 rfl ?_
          refine x_iload_n (pc := 55) dX7_readRow_55 rfl ?_
          refine x_callV1 (pc := 56) dX7_readRow_56 (k_RX7_135 _ rfl) tmv_X7_readKind (by assumption) rfl rfl rfl ?_
          refine c_m_readKind hM0 hP1 hT hS1 hn hp1 c_51 (fun f hf hf0 g hF hg4 => ?_) (fun p' R hr g hF hS2 => ?_)
          · dsimp only [Option.toList, List.cons_append, List.nil_append]
            refine x_goto (pc := 59) 130 dX7_readRow_59 rfl ?_
            refine x_ret (pc := 130) ⟨dX7_readRow_130, rfl⟩ ?_
            exact hqF f hf hf0 g (hF0.t hF) hg4
          · dsimp only [Option.toList, List.cons_append, List.nil_append]
            refine x_goto (pc := 59) 130 dX7_readRow_59 rfl ?_
            refine x_ret (pc := 130) ⟨dX7_readRow_130, rfl⟩ ?_
            exact hqK p' R hr g (hF0.t hF) hS2
      · (try simp (disch := omega) only [zb_e0, zb_n0, w32_id, w64_id, ne_eq, Classical.not_not] at c_34)
        --
        rw [mF_n c_34]
        refine x_ret (pc := 37) ⟨dX7_readRow_37, rfl⟩ ?_
        refine hqF p (rowS_n (fun z => ?_)) (by omega) _ (FrR.m h (Or.inr (Or.inl rfl))) (by simp [zup_app])
        unfold mayB at z
        rcases z with ⟨z, -⟩ | ⟨z, -⟩
        · exact c_34 (Or.inl z)
        · exact c_34 (Or.inr z)

end C26
