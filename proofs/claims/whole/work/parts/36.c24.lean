section C24
variable {D : va_G} {d : Nat} {ty : zT} {sz : Nat} {h : zH} {Q : zQ}
set_option maxHeartbeats 4000000 in
set_option maxRecDepth 100000 in
theorem c_m_kind53 {m : Int} (hM : isMT ty m) {l : List Row} {v a c : Int} (hv : i10 v) (hR : MR h m 2600 l) (hN : h (m + 6) 5 = l.length) (hn : l.length ≤ 510) (hk : zX D mX7_readKind (d + 4) 0 0 103 [(5, iV (2600 + (l.length : Int))), (4, iV (zb (exL 75 v l))), (3, iV v), (2, iV a), (0, rV m), (1, iV c)] [] ty sz h Q) : ∀ (n : Nat) (i : Nat), i ≤ l.length → l.length - i < n → zX D mX7_readKind (d + 4) 0 0 53 [(5, iV (2600 + (i : Int))), (4, iV (zb (exL 75 v (l.take i)))), (3, iV v), (2, iV a), (0, rV m), (1, iV c)] [] ty sz h Q := by
  intro n
  induction n with
  | zero =>
    intro i h1 hm
    exfalso
    omega
  | succ n ih =>
    intro i h1 hm
    have hM0 := hM
    obtain ⟨m9, m0, a1, a2, a3, a4, a5, a6, a7, a8, a9, a10, a11, a12, a13, a14, a15, a16, a17, a18, a19, a20, a21⟩ := hM
    refine x_iload (pc := 53) dX7_readKind_53 rfl ?_
    refine x_aload_n (pc := 55) dX7_readKind_55 rfl ?_
    refine x_callV0 (pc := 56) dX7_readKind_56 (k_RX7_110 _ rfl) tmv_X7_lastRow (by assumption) rfl rfl rfl ?_
    refine x_room (d' := d + 2) (by omega) (Nat.le_refl _) (Nat.le_refl _) (c_m_lastRow hM0 hN (by omega) ?_)
    dsimp only [Option.toList, List.cons_append, List.nil_append]
    refine x_icmp_ge (pc := 59) 103 dX7_readKind_59 rfl (fun c_59 => ?_) (fun c_59 => ?_)
    · (try simp (disch := omega) only [zb_e0, zb_n0, w32_id, w64_id, ne_eq, Classical.not_not] at c_59)
      rw [show i = l.length by omega, List.take_length]
      exact hk
    · (try simp (disch := omega) only [zb_e0, zb_n0, w32_id, w64_id, ne_eq, Classical.not_not] at c_59)
      obtain ⟨r, hr⟩ : ∃ r, l[i]? = some r := ⟨_, List.getElem?_eq_getElem (by omega)⟩
      obtain ⟨r1, r2, r3, r4⟩ := hR i r hr
      have htk := take_snoc hr
      refine x_iload (pc := 62) dX7_readKind_62 rfl ?_
      refine x_if_ne (pc := 64) 90 dX7_readKind_64 rfl (fun c_64 => ?_) (fun c_64 => ?_)
      · (try simp (disch := omega) only [zb_e0, zb_n0, w32_id, w64_id, ne_eq, Classical.not_not] at c_64)
        refine x_iconst (pc := 90) dX7_readKind_90 ?_
        refine x_goto (pc := 91) 95 dX7_readKind_91 rfl ?_
        refine x_istore (pc := 95) dX7_readKind_95 (by decide) ?_
        refine x_iinc (pc := 97) dX7_readKind_97 rfl (by decide) ?_
        refine x_goto (pc := 100) 53 dX7_readKind_100 rfl ?_
        first
        | (have hN : exL 75 v (l.take (i + 1)) := by rw [htk, exL_snoc]; first | exact Or.inl (by assumption) | exact Or.inr (by omega)
           refine x_loc [(5, iV (2600 + ((i + 1 : Nat) : Int))), (4, iV (zb (exL 75 v (l.take (i + 1))))), (3, iV v), (2, iV a), (0, rV m), (1, iV c)] (by rw [zb_t hN, show 2600 + ((i + 1 : Nat) : Int) = 2600 + (i : Int) + 1 by omega]; exact ⟨rfl, rfl, rfl, rfl, rfl, rfl, trivial⟩) (ih (i + 1) (by omega) (by omega)))
        | (have hN : ¬ exL 75 v (l.take (i + 1)) := by
             rw [htk, exL_snoc]
             intro z
             rcases z with z | z
             · exact c_64 z
             · omega
           refine x_loc [(5, iV (2600 + ((i + 1 : Nat) : Int))), (4, iV (zb (exL 75 v (l.take (i + 1))))), (3, iV v), (2, iV a), (0, rV m), (1, iV c)] (by rw [zb_f hN, show 2600 + ((i + 1 : Nat) : Int) = 2600 + (i : Int) + 1 by omega]; exact ⟨rfl, rfl, rfl, rfl, rfl, rfl, trivial⟩) (ih (i + 1) (by omega) (by omega)))
      · (try simp (disch := omega) only [zb_e0, zb_n0, w32_id, w64_id, ne_eq, Classical.not_not] at c_64)
        refine x_aload_n (pc := 67) dX7_readKind_67 rfl ?_
        refine x_getF (pc := 68) dX7_readKind_68 f_RX7_13 (by assumption) (by rfl) ?_
        refine x_iload (pc := 71) dX7_readKind_71 rfl ?_
        refine x_iald (pc := 73) dX7_readKind_73 (by assumption) (by omega) (by omega) (fun b_73 => ?_)
        rw [r1] at b_73 ⊢
        refine x_bipush (pc := 74) dX7_readKind_74 (by decide) ?_
        refine x_icmp_ne (pc := 76) 94 dX7_readKind_76 rfl (fun c_76 => ?_) (fun c_76 => ?_)
        · (try simp (disch := omega) only [zb_e0, zb_n0, w32_id, w64_id, ne_eq, Classical.not_not] at c_76)
          refine x_iconst (pc := 94) dX7_readKind_94 ?_
          refine x_istore (pc := 95) dX7_readKind_95 (by decide) ?_
          refine x_iinc (pc := 97) dX7_readKind_97 rfl (by decide) ?_
          refine x_goto (pc := 100) 53 dX7_readKind_100 rfl ?_
          first
          | (have hN : exL 75 v (l.take (i + 1)) := by rw [htk, exL_snoc]; first | exact Or.inl (by assumption) | exact Or.inr (by omega)
             refine x_loc [(5, iV (2600 + ((i + 1 : Nat) : Int))), (4, iV (zb (exL 75 v (l.take (i + 1))))), (3, iV v), (2, iV a), (0, rV m), (1, iV c)] (by rw [zb_t hN, show 2600 + ((i + 1 : Nat) : Int) = 2600 + (i : Int) + 1 by omega]; exact ⟨rfl, rfl, rfl, rfl, rfl, rfl, trivial⟩) (ih (i + 1) (by omega) (by omega)))
          | (have hN : ¬ exL 75 v (l.take (i + 1)) := by
               rw [htk, exL_snoc]
               intro z
               rcases z with z | z
               · exact c_64 z
               · omega
             refine x_loc [(5, iV (2600 + ((i + 1 : Nat) : Int))), (4, iV (zb (exL 75 v (l.take (i + 1))))), (3, iV v), (2, iV a), (0, rV m), (1, iV c)] (by rw [zb_f hN, show 2600 + ((i + 1 : Nat) : Int) = 2600 + (i : Int) + 1 by omega]; exact ⟨rfl, rfl, rfl, rfl, rfl, rfl, trivial⟩) (ih (i + 1) (by omega) (by omega)))
        · (try simp (disch := omega) only [zb_e0, zb_n0, w32_id, w64_id, ne_eq, Classical.not_not] at c_76)
          refine x_aload_n (pc := 79) dX7_readKind_79 rfl ?_
          refine x_getF (pc := 80) dX7_readKind_80 f_RX7_16 (by assumption) (by rfl) ?_
          refine x_iload (pc := 83) dX7_readKind_83 rfl ?_
          refine x_iald (pc := 85) dX7_readKind_85 (by assumption) (by omega) (by omega) (fun b_85 => ?_)
          rw [r2] at b_85 ⊢
          refine x_iload_n (pc := 86) dX7_readKind_86 rfl ?_
          refine x_icmp_ne (pc := 87) 94 dX7_readKind_87 rfl (fun c_87 => ?_) (fun c_87 => ?_)
          · (try simp (disch := omega) only [zb_e0, zb_n0, w32_id, w64_id, ne_eq, Classical.not_not] at c_87)
            refine x_iconst (pc := 94) dX7_readKind_94 ?_
            refine x_istore (pc := 95) dX7_readKind_95 (by decide) ?_
            refine x_iinc (pc := 97) dX7_readKind_97 rfl (by decide) ?_
            refine x_goto (pc := 100) 53 dX7_readKind_100 rfl ?_
            first
            | (have hN : exL 75 v (l.take (i + 1)) := by rw [htk, exL_snoc]; first | exact Or.inl (by assumption) | exact Or.inr (by omega)
               refine x_loc [(5, iV (2600 + ((i + 1 : Nat) : Int))), (4, iV (zb (exL 75 v (l.take (i + 1))))), (3, iV v), (2, iV a), (0, rV m), (1, iV c)] (by rw [zb_t hN, show 2600 + ((i + 1 : Nat) : Int) = 2600 + (i : Int) + 1 by omega]; exact ⟨rfl, rfl, rfl, rfl, rfl, rfl, trivial⟩) (ih (i + 1) (by omega) (by omega)))
            | (have hN : ¬ exL 75 v (l.take (i + 1)) := by
                 rw [htk, exL_snoc]
                 intro z
                 rcases z with z | z
                 · exact c_64 z
                 · omega
               refine x_loc [(5, iV (2600 + ((i + 1 : Nat) : Int))), (4, iV (zb (exL 75 v (l.take (i + 1))))), (3, iV v), (2, iV a), (0, rV m), (1, iV c)] (by rw [zb_f hN, show 2600 + ((i + 1 : Nat) : Int) = 2600 + (i : Int) + 1 by omega]; exact ⟨rfl, rfl, rfl, rfl, rfl, rfl, trivial⟩) (ih (i + 1) (by omega) (by omega)))
          · (try simp (disch := omega) only [zb_e0, zb_n0, w32_id, w64_id, ne_eq, Classical.not_not] at c_87)
            refine x_iconst (pc := 90) dX7_readKind_90 ?_
            refine x_goto (pc := 91) 95 dX7_readKind_91 rfl ?_
            refine x_istore (pc := 95) dX7_readKind_95 (by decide) ?_
            refine x_iinc (pc := 97) dX7_readKind_97 rfl (by decide) ?_
            refine x_goto (pc := 100) 53 dX7_readKind_100 rfl ?_
            first
            | (have hN : exL 75 v (l.take (i + 1)) := by rw [htk, exL_snoc]; first | exact Or.inl (by assumption) | exact Or.inr (by omega)
               refine x_loc [(5, iV (2600 + ((i + 1 : Nat) : Int))), (4, iV (zb (exL 75 v (l.take (i + 1))))), (3, iV v), (2, iV a), (0, rV m), (1, iV c)] (by rw [zb_t hN, show 2600 + ((i + 1 : Nat) : Int) = 2600 + (i : Int) + 1 by omega]; exact ⟨rfl, rfl, rfl, rfl, rfl, rfl, trivial⟩) (ih (i + 1) (by omega) (by omega)))
            | (have hN : ¬ exL 75 v (l.take (i + 1)) := by
                 rw [htk, exL_snoc]
                 intro z
                 rcases z with z | z
                 · exact c_64 z
                 · omega
               refine x_loc [(5, iV (2600 + ((i + 1 : Nat) : Int))), (4, iV (zb (exL 75 v (l.take (i + 1))))), (3, iV v), (2, iV a), (0, rV m), (1, iV c)] (by rw [zb_f hN, show 2600 + ((i + 1 : Nat) : Int) = 2600 + (i : Int) + 1 by omega]; exact ⟨rfl, rfl, rfl, rfl, rfl, rfl, trivial⟩) (ih (i + 1) (by omega) (by omega)))

set_option maxHeartbeats 4000000 in
set_option maxRecDepth 100000 in
theorem c_m_kind118 {m : Int} (hM : isMT ty m) {l : List Row} {z v a c x5 x4 : Int} (hN : h (m + 6) 5 = l.length) (hn : l.length ≤ 510) (h4 : h m 4 ≠ -1) (hq : Q none ty sz (zup h m 11 (2600 + l.length))) : zX D mX7_readKind (d + 4) 0 0 118 [(5, iV x5), (4, iV x4), (3, iV v), (2, iV a), (0, rV m), (1, iV c)] [iV z] ty sz h Q := by
  have hM0 := hM
  obtain ⟨m9, m0, a1, a2, a3, a4, a5, a6, a7, a8, a9, a10, a11, a12, a13, a14, a15, a16, a17, a18, a19, a20, a21⟩ := hM
  refine x_pop (pc := 118) dX7_readKind_118 rfl ?_
  refine x_aload_n (pc := 119) dX7_readKind_119 rfl ?_
  refine x_aload_n (pc := 120) dX7_readKind_120 rfl ?_
  refine x_callV0 (pc := 121) dX7_readKind_121 (k_RX7_110 _ rfl) tmv_X7_lastRow (by assumption) rfl rfl rfl ?_
  refine x_room (d' := d + 2) (by omega) (Nat.le_refl _) (Nat.le_refl _) (c_m_lastRow hM0 hN (by omega) ?_)
  dsimp only [Option.toList, List.cons_append, List.nil_append]
  refine y_putI 11 (pc := 124) dX7_readKind_124 f_RX7_107 (by assumption) rfl (by rfl) (by omega) rfl ?_
  refine x_aload_n (pc := 127) dX7_readKind_127 rfl ?_
  refine x_bipush (pc := 128) dX7_readKind_128 (by decide) ?_
  refine x_iload_n (pc := 130) dX7_readKind_130 rfl ?_
  refine x_iconst (pc := 131) dX7_readKind_131 ?_
  refine x_iconst (pc := 132) dX7_readKind_132 ?_
  refine x_callV4 (pc := 133) dX7_readKind_133 (k_RX7_117 _ rfl) tmv_X7_add (by assumption) rfl rfl rfl ?_
  refine x_room (d' := d + 2) (by omega) (Nat.le_refl _) (Nat.le_refl _) (c_m_addF hM0 (by rw [zup_app, if_neg (by omega)]; exact h4) ?_)
  dsimp only [Option.toList, List.cons_append, List.nil_append]
  refine x_ret (pc := 136) ⟨dX7_readKind_136, rfl⟩ ?_
  exact hq

set_option maxHeartbeats 4000000 in
set_option maxRecDepth 100000 in
theorem c_m_kind103F {m : Int} (hM : isMT ty m) {l : List Row} {v a c x5 : Int} {P : Prop} (hN : h (m + 6) 5 = l.length) (hn : l.length ≤ 510) (h4 : h m 4 ≠ -1) (hq : Q none ty sz (zup h m 11 (2600 + l.length))) : zX D mX7_readKind (d + 4) 0 0 103 [(5, iV x5), (4, iV (zb P)), (3, iV v), (2, iV a), (0, rV m), (1, iV c)] [] ty sz h Q := by
  have hM0 := hM
  obtain ⟨m9, m0, a1, a2, a3, a4, a5, a6, a7, a8, a9, a10, a11, a12, a13, a14, a15, a16, a17, a18, a19, a20, a21⟩ := hM
  refine x_aload_n (pc := 103) dX7_readKind_103 rfl ?_
  refine x_iload (pc := 104) dX7_readKind_104 rfl ?_
  refine x_if_ne (pc := 106) 113 dX7_readKind_106 rfl (fun c_106 => ?_) (fun c_106 => ?_)
  · (try simp (disch := omega) only [zb_e0, zb_n0, w32_id, w64_id, ne_eq, Classical.not_not] at c_106)
    refine x_iconst (pc := 113) dX7_readKind_113 ?_
    refine x_iload_n (pc := 114) dX7_readKind_114 rfl ?_
    refine x_callV2 (pc := 115) dX7_readKind_115 (k_RX7_96 _ rfl) tmv_X7_must (by assumption) rfl rfl rfl ?_
    refine x_room (d' := d) (by omega) (Nat.le_refl _) (Nat.le_refl _) (c_m_mustF hM0 h4 ?_)
    dsimp only [Option.toList, List.cons_append, List.nil_append]
    exact c_m_kind118 hM0 hN hn h4 hq
  · (try simp (disch := omega) only [zb_e0, zb_n0, w32_id, w64_id, ne_eq, Classical.not_not] at c_106)
    refine x_iconst (pc := 109) dX7_readKind_109 ?_
    refine x_goto (pc := 110) 114 dX7_readKind_110 rfl ?_
    refine x_iload_n (pc := 114) dX7_readKind_114 rfl ?_
    refine x_callV2 (pc := 115) dX7_readKind_115 (k_RX7_96 _ rfl) tmv_X7_must (by assumption) rfl rfl rfl ?_
    refine x_room (d' := d) (by omega) (Nat.le_refl _) (Nat.le_refl _) (c_m_mustF hM0 h4 ?_)
    dsimp only [Option.toList, List.cons_append, List.nil_append]
    exact c_m_kind118 hM0 hN hn h4 hq

set_option maxHeartbeats 4000000 in
set_option maxRecDepth 100000 in
theorem c_m_kind43 {m : Int} (hM : isMT ty m) {l : List Row} {v a c : Int} (hv : i10 v) (hR : MR h m 2600 l) (hN : h (m + 6) 5 = l.length) (hn : l.length ≤ 510) (hk : zX D mX7_readKind (d + 4) 0 0 103 [(5, iV (2600 + (l.length : Int))), (4, iV (zb (exL 75 v l))), (3, iV v), (2, iV a), (0, rV m), (1, iV c)] [] ty sz h Q) : zX D mX7_readKind (d + 4) 0 0 43 [(2, iV a), (0, rV m), (1, iV c)] [iV v] ty sz h Q := by
  have hM0 := hM
  obtain ⟨m9, m0, a1, a2, a3, a4, a5, a6, a7, a8, a9, a10, a11, a12, a13, a14, a15, a16, a17, a18, a19, a20, a21⟩ := hM
  refine x_istore_n (pc := 43) dX7_readKind_43 (by decide) ?_
  refine x_iconst (pc := 44) dX7_readKind_44 ?_
  refine x_istore (pc := 45) dX7_readKind_45 (by decide) ?_
  refine x_aload_n (pc := 47) dX7_readKind_47 rfl ?_
  refine x_callV0 (pc := 48) dX7_readKind_48 (k_RX7_104 _ rfl) tmv_X7_base (by assumption) rfl rfl rfl ?_
  refine x_room (d' := d) (by omega) (Nat.le_refl _) (Nat.le_refl _) (c_m_base ?_)
  dsimp only [Option.toList, List.cons_append, List.nil_append]
  refine x_istore (pc := 51) dX7_readKind_51 (by decide) ?_
  refine x_loc _ (by exact ⟨by show _ = some (iV (2600 + ((0 : Nat) : Int))); rfl, by rw [List.take_zero, zb_f (exL_nil 75 v)]; rfl, rfl, rfl, rfl, rfl, trivial⟩) (c_m_kind53 hM0 hv hR hN hn hk (l.length + 1) 0 (by omega) (by omega))

set_option maxHeartbeats 4000000 in
set_option maxRecDepth 100000 in
theorem c_m_kind103 {m : Int} (hM : isMT ty m) {p : Int} {l : List Row} {T : List Int} (hP : MTx h m T) (hT : TxOK T) (hS : RS h m (p + 1) l) (hn : l.length ≤ 510) (hp : 0 ≤ p ∧ p + 1 ≤ T.length) {x5 a c : Int} (ha : a = p + 1) (hc : lookT T p = 75) (hmb : mayB l 75) (hb : (numR T (p + 1)).2 ≠ p + 1 ∧ 0 ≤ (numR T (p + 1)).1 ∧ (numR T (p + 1)).1 ≤ 9) (hqF : ∀ f, rowS T p l = .inl f → 0 ≤ f → ∀ h', FrR m h h' → h' m 4 = f → Q none ty sz h') (hqK : ∀ p' R, rowS T p l = .inr (p', R) → ∀ h', FrR m h h' → RS h' m p' (l ++ [R]) → Q none ty sz h') : zX D mX7_readKind (d + 4) 0 0 103 [(5, iV x5), (4, iV (zb (exL 75 (numR T (p + 1)).1 l))), (3, iV (numR T (p + 1)).1), (2, iV a), (0, rV m), (1, iV c)] [] ty sz (zup h m 3 (numR T (p + 1)).2) Q := by
  have hM0 := hM
  obtain ⟨m9, m0, a1, a2, a3, a4, a5, a6, a7, a8, a9, a10, a11, a12, a13, a14, a15, a16, a17, a18, a19, a20, a21⟩ := hM
  have hT1 := hT.1
  have hS0 := hS
  obtain ⟨s3, s4, s5, s6, s7, s8⟩ := hS
  have hnr := numR_r T (p := p + 1) (by omega) hp.2
  have hkn := fun z => kR_ne z l s8
  have hex : ∀ v, exL 75 v l ↔ kR v l ≠ [] := fun v => (hkn v).symm
  have e4 : zup h m 3 (numR T (p + 1)).2 m 4 = -1 := by simp [zup_app, s4]
  have h6e : zup h m 3 (numR T (p + 1)).2 (m + 6) 5 = l.length := by rw [zup_ne (by omega)]; exact s5
  refine x_aload_n (pc := 103) dX7_readKind_103 rfl ?_
  refine x_iload (pc := 104) dX7_readKind_104 rfl ?_
  refine x_if_ne (pc := 106) 113 dX7_readKind_106 rfl (fun c_106 => ?_) (fun c_106 => ?_)
  · (try simp (disch := omega) only [zb_e0, zb_n0, w32_id, w64_id, ne_eq, Classical.not_not] at c_106)
    refine x_iconst (pc := 113) dX7_readKind_113 ?_
    refine x_topc (b := zb (¬ exL 75 (numR T (p + 1)).1 l)) (by first | exact (zb_t (by assumption)).symm | exact (zb_f (fun z => z (by assumption))).symm | exact (zb_t (by omega)).symm | exact (zb_f (by omega)).symm) ?_
    refine x_iload_n (pc := 114) dX7_readKind_114 rfl ?_
    refine x_callV2 (pc := 115) dX7_readKind_115 (k_RX7_96 _ rfl) tmv_X7_must (by assumption) rfl rfl rfl ?_
    refine x_room (d' := d) (by omega) (Nat.le_refl _) (Nat.le_refl _) (c_m_must hM0 (by omega) e4 (by omega) ?_)
    by_cases hx : exL 75 (numR T (p + 1)).1 l
    · rw [mF_n (fun z => z hx)]
      dsimp only [Option.toList, List.cons_append, List.nil_append]
      have hr := rs_b1 hc hmb (Or.inr (fun z => by
        unfold okN at z
        rcases z with ⟨-, -, z⟩ | z | z | z | z | z | z | z
        · exact ((hex _).mp hx) z
        all_goals omega))
      exact c_m_kind118 hM0 (by rw [zup_ne (by omega)]; exact h6e) hn (by simp [zup_app]; omega) (hqF _ hr (by omega) _ (((FrR.m h (Or.inl rfl)).t (FrR.m _ (Or.inr (Or.inl rfl)))).t (FrR.m _ (Or.inr (Or.inr rfl)))) (by simp [zup_app, ha]))
    rw [mF_t hx]
    have hr := rs_k1 hc hmb (by decide) (fun z => by
      rcases z with z | z
      · exact hb.1 z
      · exact z (Or.inl ⟨rfl, hb.2, Classical.byContradiction (fun y => hx ((hex _).mpr y))⟩))
    have hgo := rowS_good hp.1 hr
    dsimp only [Option.toList, List.cons_append, List.nil_append]
    refine x_pop (pc := 118) dX7_readKind_118 rfl ?_
    refine x_aload_n (pc := 119) dX7_readKind_119 rfl ?_
    refine x_aload_n (pc := 120) dX7_readKind_120 rfl ?_
    refine x_callV0 (pc := 121) dX7_readKind_121 (k_RX7_110 _ rfl) tmv_X7_lastRow (by assumption) rfl rfl rfl ?_
    refine x_room (d' := d + 2) (by omega) (Nat.le_refl _) (Nat.le_refl _) (c_m_lastRow hM0 h6e (by omega) ?_)
    dsimp only [Option.toList, List.cons_append, List.nil_append]
    refine y_putI 11 (pc := 124) dX7_readKind_124 f_RX7_107 (by assumption) rfl (by rfl) (by omega) rfl ?_
    refine x_aload_n (pc := 127) dX7_readKind_127 rfl ?_
    refine x_bipush (pc := 128) dX7_readKind_128 (by decide) ?_
    refine x_iload_n (pc := 130) dX7_readKind_130 rfl ?_
    refine x_iconst (pc := 131) dX7_readKind_131 ?_
    refine x_iconst (pc := 132) dX7_readKind_132 ?_
    refine x_callV4 (pc := 133) dX7_readKind_133 (k_RX7_117 _ rfl) tmv_X7_add (by assumption) rfl rfl rfl ?_
    have hg : ∀ x, m + 2 ≤ x → x ≤ m + 6 → zup (zup h m 3 (numR T (p + 1)).2) m 11 (2600 + (l.length : Int)) x = h x := fun x x1 x2 => by rw [zup_ne (by omega), zup_ne (by omega)]
    refine x_room (d' := d + 2) (by omega) (Nat.le_refl _) (Nat.le_refl _) (c_m_add hM0 (N := (l.length : Int)) (by omega) (by simp [zup_app, s4]) (by rw [hg (m + 6) (by omega) (by omega)]; exact s5) (by omega) ?_)
    have hRA := RS_add (p2 := (numR T (p + 1)).2) (g := zup (zup h m 3 (numR T (p + 1)).2) m 11 (2600 + (l.length : Int))) hS0 hn hgo.1 ((FrR.m h (Or.inl rfl)).t (FrR.m _ (Or.inr (Or.inr rfl)))) hg (by simp [zup_app]) (by simp [zup_app, s4]) (by rw [zup_app, if_pos ⟨rfl, rfl⟩, if_pos rfl])
    dsimp only [Option.toList, List.cons_append, List.nil_append]
    refine x_ret (pc := 136) ⟨dX7_readKind_136, rfl⟩ ?_
    exact hqK _ _ hr _ hRA.1 hRA.2
  · (try simp (disch := omega) only [zb_e0, zb_n0, w32_id, w64_id, ne_eq, Classical.not_not] at c_106)
    refine x_iconst (pc := 109) dX7_readKind_109 ?_
    refine x_goto (pc := 110) 114 dX7_readKind_110 rfl ?_
    refine x_topc (b := zb (¬ exL 75 (numR T (p + 1)).1 l)) (by first | exact (zb_t (by assumption)).symm | exact (zb_f (fun z => z (by assumption))).symm | exact (zb_t (by omega)).symm | exact (zb_f (by omega)).symm) ?_
    refine x_iload_n (pc := 114) dX7_readKind_114 rfl ?_
    refine x_callV2 (pc := 115) dX7_readKind_115 (k_RX7_96 _ rfl) tmv_X7_must (by assumption) rfl rfl rfl ?_
    refine x_room (d' := d) (by omega) (Nat.le_refl _) (Nat.le_refl _) (c_m_must hM0 (by omega) e4 (by omega) ?_)
    by_cases hx : exL 75 (numR T (p + 1)).1 l
    · rw [mF_n (fun z => z hx)]
      dsimp only [Option.toList, List.cons_append, List.nil_append]
      have hr := rs_b1 hc hmb (Or.inr (fun z => by
        unfold okN at z
        rcases z with ⟨-, -, z⟩ | z | z | z | z | z | z | z
        · exact ((hex _).mp hx) z
        all_goals omega))
      exact c_m_kind118 hM0 (by rw [zup_ne (by omega)]; exact h6e) hn (by simp [zup_app]; omega) (hqF _ hr (by omega) _ (((FrR.m h (Or.inl rfl)).t (FrR.m _ (Or.inr (Or.inl rfl)))).t (FrR.m _ (Or.inr (Or.inr rfl)))) (by simp [zup_app, ha]))
    rw [mF_t hx]
    have hr := rs_k1 hc hmb (by decide) (fun z => by
      rcases z with z | z
      · exact hb.1 z
      · exact z (Or.inl ⟨rfl, hb.2, Classical.byContradiction (fun y => hx ((hex _).mpr y))⟩))
    have hgo := rowS_good hp.1 hr
    dsimp only [Option.toList, List.cons_append, List.nil_append]
    refine x_pop (pc := 118) dX7_readKind_118 rfl ?_
    refine x_aload_n (pc := 119) dX7_readKind_119 rfl ?_
    refine x_aload_n (pc := 120) dX7_readKind_120 rfl ?_
    refine x_callV0 (pc := 121) dX7_readKind_121 (k_RX7_110 _ rfl) tmv_X7_lastRow (by assumption) rfl rfl rfl ?_
    refine x_room (d' := d + 2) (by omega) (Nat.le_refl _) (Nat.le_refl _) (c_m_lastRow hM0 h6e (by omega) ?_)
    dsimp only [Option.toList, List.cons_append, List.nil_append]
    refine y_putI 11 (pc := 124) dX7_readKind_124 f_RX7_107 (by assumption) rfl (by rfl) (by omega) rfl ?_
    refine x_aload_n (pc := 127) dX7_readKind_127 rfl ?_
    refine x_bipush (pc := 128) dX7_readKind_128 (by decide) ?_
    refine x_iload_n (pc := 130) dX7_readKind_130 rfl ?_
    refine x_iconst (pc := 131) dX7_readKind_131 ?_
    refine x_iconst (pc := 132) dX7_readKind_132 ?_
    refine x_callV4 (pc := 133) dX7_readKind_133 (k_RX7_117 _ rfl) tmv_X7_add (by assumption) rfl rfl rfl ?_
    have hg : ∀ x, m + 2 ≤ x → x ≤ m + 6 → zup (zup h m 3 (numR T (p + 1)).2) m 11 (2600 + (l.length : Int)) x = h x := fun x x1 x2 => by rw [zup_ne (by omega), zup_ne (by omega)]
    refine x_room (d' := d + 2) (by omega) (Nat.le_refl _) (Nat.le_refl _) (c_m_add hM0 (N := (l.length : Int)) (by omega) (by simp [zup_app, s4]) (by rw [hg (m + 6) (by omega) (by omega)]; exact s5) (by omega) ?_)
    have hRA := RS_add (p2 := (numR T (p + 1)).2) (g := zup (zup h m 3 (numR T (p + 1)).2) m 11 (2600 + (l.length : Int))) hS0 hn hgo.1 ((FrR.m h (Or.inl rfl)).t (FrR.m _ (Or.inr (Or.inr rfl)))) hg (by simp [zup_app]) (by simp [zup_app, s4]) (by rw [zup_app, if_pos ⟨rfl, rfl⟩, if_pos rfl])
    dsimp only [Option.toList, List.cons_append, List.nil_append]
    refine x_ret (pc := 136) ⟨dX7_readKind_136, rfl⟩ ?_
    exact hqK _ _ hr _ hRA.1 hRA.2

set_option maxHeartbeats 4000000 in
set_option maxRecDepth 100000 in
theorem c_m_kind31 {m : Int} (hM : isMT ty m) {p : Int} {l : List Row} {T : List Int} (hP : MTx h m T) (hT : TxOK T) (hS : RS h m (p + 1) l) (hn : l.length ≤ 510) (hp : 0 ≤ p ∧ p + 1 ≤ T.length) (hc : lookT T p = 75) (hmb : mayB l 75) (hqF : ∀ f, rowS T p l = .inl f → 0 ≤ f → ∀ h', FrR m h h' → h' m 4 = f → Q none ty sz h') (hqK : ∀ p' R, rowS T p l = .inr (p', R) → ∀ h', FrR m h h' → RS h' m p' (l ++ [R]) → Q none ty sz h') : zX D mX7_readKind (d + 4) 0 0 31 [(0, rV m), (1, iV p)] [] ty sz h Q := by
  have hM0 := hM
  obtain ⟨m9, m0, a1, a2, a3, a4, a5, a6, a7, a8, a9, a10, a11, a12, a13, a14, a15, a16, a17, a18, a19, a20, a21⟩ := hM
  have hT1 := hT.1
  have hS0 := hS
  obtain ⟨s3, s4, s5, s6, s7, s8⟩ := hS
  have hnr := numR_r T (p := p + 1) (by omega) hp.2
  refine x_aload_n (pc := 31) dX7_readKind_31 rfl ?_
  refine y_getI 3 (pc := 32) dX7_readKind_32 f_RX7_82 (by assumption) rfl (fun b_32 => ?_)
  rw [s3]
  refine x_istore_n (pc := 35) dX7_readKind_35 (by decide) ?_
  refine x_aload_n (pc := 36) dX7_readKind_36 rfl ?_
  refine x_iconst (pc := 37) dX7_readKind_37 ?_
  refine x_bipush (pc := 38) dX7_readKind_38 (by decide) ?_
  refine x_callV2 (pc := 40) dX7_readKind_40 (k_RX7_100 _ rfl) tmv_X7_number (by assumption) rfl rfl rfl ?_
  refine x_room (d' := d + 2) (by omega) (Nat.le_refl _) (Nat.le_refl _) (c_m_number hM0 hP hT s3 (by omega) s4 (by omega) ?_)
  by_cases hb : ¬ ((numR T (p + 1)).2 ≠ p + 1 ∧ 0 ≤ (numR T (p + 1)).1 ∧ (numR T (p + 1)).1 ≤ 9)
  · rw [mF_n hb]
    dsimp only [Option.toList, List.cons_append, List.nil_append]
    have hr := rs_b1 hc hmb (by unfold okN; omega)
    have hF1 := (FrR.m h (v := (numR T (p + 1)).2) (m := m) (Or.inl rfl)).t (FrR.m _ (v := p + 1) (k := 4) (Or.inr (Or.inl rfl)))
    have h6e : zup (zup h m 3 (numR T (p + 1)).2) m 4 (p + 1) (m + 6) 5 = l.length := by rw [zup_ne (by omega), zup_ne (by omega)]; exact s5
    have h4e : zup (zup h m 3 (numR T (p + 1)).2) m 4 (p + 1) m 4 ≠ -1 := by simp [zup_app]; omega
    refine x_loc _ (by exact ⟨rfl, rfl, rfl, trivial⟩) (c_m_kind43 hM0 hnr.1 (s6.fr (fun q q1 q2 => by rw [zup_ne (by omega), zup_ne (by omega)])) h6e hn ?_)
    exact c_m_kind103F hM0 h6e hn h4e (hqF _ hr (by omega) _ (hF1.t (FrR.m _ (Or.inr (Or.inr rfl)))) (by simp [zup_app]))
  replace hb := Classical.not_not.mp hb
  rw [mF_t hb]
  have h6e : zup h m 3 (numR T (p + 1)).2 (m + 6) 5 = l.length := by rw [zup_ne (by omega)]; exact s5
  dsimp only [Option.toList, List.cons_append, List.nil_append]
  refine x_loc _ (by exact ⟨rfl, rfl, rfl, trivial⟩) (c_m_kind43 hM0 hnr.1 (s6.fr (fun q q1 q2 => zup_ne (by omega))) h6e hn ?_)
  exact c_m_kind103 hM0 hP hT hS0 hn hp rfl hc hmb hb hqF hqK

set_option maxHeartbeats 4000000 in
set_option maxRecDepth 100000 in
theorem c_m_readKind {m : Int} (hM : isMT ty m) {p : Int} {l : List Row} {T : List Int} (hP : MTx h m T) (hT : TxOK T) (hS : RS h m (p + 1) l) (hn : l.length ≤ 510) (hp : 0 ≤ p ∧ p + 1 ≤ T.length) (hc : lookT T p = 75) (hqF : ∀ f, rowS T p l = .inl f → 0 ≤ f → ∀ h', FrR m h h' → h' m 4 = f → Q none ty sz h') (hqK : ∀ p' R, rowS T p l = .inr (p', R) → ∀ h', FrR m h h' → RS h' m p' (l ++ [R]) → Q none ty sz h') : zXM D mX7_readKind (d + 4) 0 0 [rV m, iV p] ty sz h Q := by
  have hM0 := hM
  obtain ⟨m9, m0, a1, a2, a3, a4, a5, a6, a7, a8, a9, a10, a11, a12, a13, a14, a15, a16, a17, a18, a19, a20, a21⟩ := hM
  have hT1 := hT.1
  have hS0 := hS
  obtain ⟨s3, s4, s5, s6, s7, s8⟩ := hS
  have hnr := numR_r T (p := p + 1) (by omega) hp.2
  refine x_aload_n (pc := 0) dX7_readKind_0 rfl ?_
  refine y_getI 11 (pc := 1) dX7_readKind_1 f_RX7_107 (by assumption) rfl (fun b_1 => ?_)
  refine x_iconst (pc := 4) dX7_readKind_4 ?_
  refine x_icmp_eq (pc := 5) 31 dX7_readKind_5 rfl (fun c_5 => ?_) (fun c_5 => ?_)
  · (try simp (disch := omega) only [zb_e0, zb_n0, w32_id, w64_id, ne_eq, Classical.not_not] at c_5)
    --
    have hmb : mayB l 75 := Or.inl ⟨rfl, Or.inl (Classical.byContradiction (fun z => by rw [if_neg z] at s7; omega))⟩
    exact x_loc _ (by exact ⟨rfl, rfl, trivial⟩) (c_m_kind31 hM0 hP hT hS0 hn hp hc hmb hqF hqK)
  · (try simp (disch := omega) only [zb_e0, zb_n0, w32_id, w64_id, ne_eq, Classical.not_not] at c_5)
    --
    have hl : l ≠ [] := fun z => c_5 (by rw [s7, if_pos z])
    obtain ⟨b, hC⟩ := hS0.cur hl hn
    have hnl := hC.len
    have hn83 := nL_le 83 (curK l)
    have hn69 := nL_le 69 (curK l)
    refine x_aload_n (pc := 8) dX7_readKind_8 rfl ?_
    refine x_aload_n (pc := 9) dX7_readKind_9 rfl ?_
    refine x_bipush (pc := 10) dX7_readKind_10 (by decide) ?_
    refine x_callV1 (pc := 12) dX7_readKind_12 (k_RX7_113 _ rfl) tmv_X7_count (by assumption) rfl rfl rfl ?_
    refine x_room (d' := d + 2) (by omega) (Nat.le_refl _) (Nat.le_refl _) (c_m_count hM0 (by omega) hC ?_)
    dsimp only [Option.toList, List.cons_append, List.nil_append]
    refine x_if_le (pc := 15) 22 dX7_readKind_15 rfl (fun c_15 => ?_) (fun c_15 => ?_)
    · (try simp (disch := omega) only [zb_e0, zb_n0, w32_id, w64_id, ne_eq, Classical.not_not] at c_15)
      refine x_iconst (pc := 22) dX7_readKind_22 ?_
      refine x_topc (b := zb ((0 : Int) < nL 83 (curK l))) (by first | exact (zb_t (by omega)).symm | exact (zb_f (by omega)).symm) ?_
      refine x_iload_n (pc := 23) dX7_readKind_23 rfl ?_
      refine x_callV2 (pc := 24) dX7_readKind_24 (k_RX7_96 _ rfl) tmv_X7_must (by assumption) rfl rfl rfl ?_
      refine x_room (d' := d) (by omega) (Nat.le_refl _) (Nat.le_refl _) (c_m_must hM0 (P := (0 : Int) < nL 83 (curK l)) (by omega) s4 (by omega) ?_)
      dsimp only [Option.toList, List.cons_append, List.nil_append]
      refine x_if_ne (pc := 27) 31 dX7_readKind_27 rfl (fun c_27 => ?_) (fun c_27 => ?_)
      · (try simp (disch := omega) only [zb_e0, zb_n0, w32_id, w64_id, ne_eq, Classical.not_not] at c_27)
        exfalso
        omega
      · (try simp (disch := omega) only [zb_e0, zb_n0, w32_id, w64_id, ne_eq, Classical.not_not] at c_27)
        --
        rw [mF_n c_27]
        refine x_ret (pc := 30) ⟨dX7_readKind_30, rfl⟩ ?_
        refine hqF p (rowS_n ?_) (by omega) _ (FrR.m h (Or.inr (Or.inl rfl))) (by simp [zup_app])
        rw [hc]
        intro z
        rcases z with ⟨-, z | z⟩ | ⟨-, z⟩
        · exact hl z
        · omega
        · omega
    · (try simp (disch := omega) only [zb_e0, zb_n0, w32_id, w64_id, ne_eq, Classical.not_not] at c_15)
      refine x_iconst (pc := 18) dX7_readKind_18 ?_
      refine x_goto (pc := 19) 23 dX7_readKind_19 rfl ?_
      refine x_topc (b := zb ((0 : Int) < nL 83 (curK l))) (by first | exact (zb_t (by omega)).symm | exact (zb_f (by omega)).symm) ?_
      refine x_iload_n (pc := 23) dX7_readKind_23 rfl ?_
      refine x_callV2 (pc := 24) dX7_readKind_24 (k_RX7_96 _ rfl) tmv_X7_must (by assumption) rfl rfl rfl ?_
      refine x_room (d' := d) (by omega) (Nat.le_refl _) (Nat.le_refl _) (c_m_must hM0 (P := (0 : Int) < nL 83 (curK l)) (by omega) s4 (by omega) ?_)
      dsimp only [Option.toList, List.cons_append, List.nil_append]
      refine x_if_ne (pc := 27) 31 dX7_readKind_27 rfl (fun c_27 => ?_) (fun c_27 => ?_)
      · (try simp (disch := omega) only [zb_e0, zb_n0, w32_id, w64_id, ne_eq, Classical.not_not] at c_27)
        --
        rw [mF_t c_27]
        have hmb : mayB l 75 := Or.inl ⟨rfl, Or.inr (by omega)⟩
        exact x_loc _ (by exact ⟨rfl, rfl, trivial⟩) (c_m_kind31 hM0 hP hT hS0 hn hp hc hmb hqF hqK)
      · (try simp (disch := omega) only [zb_e0, zb_n0, w32_id, w64_id, ne_eq, Classical.not_not] at c_27)
        exfalso
        omega

end C24
