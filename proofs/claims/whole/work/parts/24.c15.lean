section C15
variable {D : va_G} {d : Nat} {ty : zT} {sz : Nat} {h : zH} {Q : zQ}
/-- rows from p on, behind l -/
noncomputable def prsS (T : List Int) : Nat → Int → List Row → Int ⊕ List Row
  | 0, _, _ => .inl 0
  | f + 1, p, l => match rowS T p l with
    | .inl q => .inl q
    | .inr (p', R) => if p' = T.length then (if nL 83 (curK (l ++ [R])) = 0 then .inl (T.length : Int) else .inr (l ++ [R])) else if lookT T p' ≠ 59 then .inl p' else prsS T f (p' + 1) (l ++ [R])
noncomputable def parse (T : List Int) : Int ⊕ List Row := if T = [] then .inr [] else prsS T (T.length + 1) 0 []
theorem prsS_f {T : List Int} {f : Nat} {p q : Int} {l : List Row} (h : rowS T p l = .inl q) : prsS T (f + 1) p l = .inl q := by
  unfold prsS
  rw [h]
theorem prsS_r {T : List Int} {f : Nat} {p p' : Int} {l : List Row} {R : Row} (h : rowS T p l = .inr (p', R)) : prsS T (f + 1) p l = if p' = T.length then (if nL 83 (curK (l ++ [R])) = 0 then .inl (T.length : Int) else .inr (l ++ [R])) else if lookT T p' ≠ 59 then .inl p' else prsS T f (p' + 1) (l ++ [R]) := by
  rw [prsS, h]

set_option maxHeartbeats 4000000 in
set_option maxRecDepth 100000 in
theorem c_r_expF {r c : Int} (hR : isRT ty r) (h3 : h r 3 ≠ -1) (hq : Q none ty sz h) : zXM D mX5_expect (d + 2) 0 0 [rV r, iV c] ty sz h Q := by
  obtain ⟨r9, r0, r1, r2⟩ := hR
  refine x_aload_n (pc := 0) dX5_expect_0 rfl ?_
  refine y_getI 3 (pc := 1) dX5_expect_1 f_RX5_42 (by assumption) rfl (fun b_1 => ?_)
  refine x_iconst (pc := 4) dX5_expect_4 ?_
  refine x_icmp_eq (pc := 5) 9 dX5_expect_5 rfl (fun c_5 => ?_) (fun c_5 => ?_)
  · (try simp (disch := omega) only [zb_e0, zb_n0, w32_id, w64_id, ne_eq, Classical.not_not] at c_5)
    exact absurd c_5 h3
  · (try simp (disch := omega) only [zb_e0, zb_n0, w32_id, w64_id, ne_eq, Classical.not_not] at c_5)
    refine x_ret (pc := 8) ⟨dX5_expect_8, rfl⟩ ?_
    exact hq

set_option maxHeartbeats 4000000 in
set_option maxRecDepth 100000 in
theorem c_r_row {r e p : Int} {l : List Row} {T : List Int} (hR : isRT ty r) (hE : isET ty e) (hd : e + 61 < r ∨ r + 2 < e) (hT : TxOK T) (hk : RdK h r e l) (hP : PrIs h r T) (hp : h r 2 = p ∧ 0 ≤ p ∧ p ≤ T.length) (h3 : h r 3 = -1) (hqF : ∀ f, rowS T p l = .inl f → ∀ h', Fr2 r e h h' → h' r 3 = f → 0 ≤ f → h' r 1 = h r 1 → h' (r + 1) = h (r + 1) → Q none ty sz h') (hqK : ∀ p' R, rowS T p l = .inr (p', R) → ∀ h', Fr2 r e h h' → RdK h' r e (l ++ [R]) → h' r 2 = p' → h' r 3 = -1 → PrIs h' r T → Q none ty sz h') : zXM D mX5_readRow (d + 5) 0 0 [rV r] ty sz h Q := by
  have hR0 := hR
  obtain ⟨r9, r0, r1, r2⟩ := hR
  have hT1 := hT.1
  have hlr := lookT_rng hT p
  refine x_aload_n (pc := 0) dX5_readRow_0 rfl ?_
  refine x_callV0 (pc := 1) dX5_readRow_1 (k_RX5_57 _ rfl) tmv_X5_signHere (by assumption) rfl rfl rfl ?_
  refine c_r_look hR0 hP hT (by omega) ?_
  rw [hp.1]
  dsimp only [Option.toList, List.cons_append, List.nil_append]
  refine x_istore_n (pc := 4) dX5_readRow_4 (by decide) ?_
  refine x_aload_n (pc := 5) dX5_readRow_5 rfl ?_
  refine x_iload_n (pc := 6) dX5_readRow_6 rfl ?_
  refine x_callV1 (pc := 7) dX5_readRow_7 (k_RX5_61 _ rfl) tmv_X5_mayBegin (by assumption) rfl rfl rfl ?_
  refine c_r_may hR0 hE hk (by omega) ?_
  dsimp only [Option.toList, List.cons_append, List.nil_append]
  refine x_if_ne (pc := 10) 22 dX5_readRow_10 rfl (fun c_10 => ?_) (fun c_10 => ?_)
  · (try simp (disch := omega) only [zb_e0, zb_n0, w32_id, w64_id, ne_eq, Classical.not_not] at c_10)
    refine x_aload_n (pc := 22) dX5_readRow_22 rfl ?_
    refine x_dup (pc := 23) dX5_readRow_23 rfl ?_
    refine y_getI 2 (pc := 24) dX5_readRow_24 f_RX5_39 (by assumption) rfl (fun b_24 => ?_)
    rw [hp.1]
    refine x_iconst (pc := 27) dX5_readRow_27 ?_
    refine x_iadd (pc := 28) dX5_readRow_28 ?_
    refine y_putI 2 (pc := 29) dX5_readRow_29 f_RX5_39 (by assumption) rfl (by rfl) (by omega) rfl ?_
    refine x_iload_n (pc := 32) dX5_readRow_32 rfl ?_
    refine x_callS1 (pc := 33) dX5_readRow_33 (k_RX5_65 _ rfl) tms_X5_numbersOf rfl rfl ?_
    refine c_r_nums (by omega) ?_
    dsimp only [Option.toList, List.cons_append, List.nil_append]
    refine x_istore_n (pc := 36) dX5_readRow_36 (by decide) ?_
    refine x_iconst (pc := 37) dX5_readRow_37 ?_
    refine x_istore_n (pc := 38) dX5_readRow_38 (by decide) ?_
    have hpl : p < T.length := by
      rcases Int.lt_or_le p T.length with z | z
      · exact z
      · rw [lookT_out z] at c_10
        have := mayB_l c_10
        unfold isRowL at this
        omega
    have hnv := nms_v (lookT T p)
    refine x_loc [(3, iV 0), (2, iV (nms (lookT T p))), (0, rV r), (1, iV (lookT T p))] ⟨rfl, rfl, rfl, rfl, trivial⟩ (c_r_row39 (h := h) hR0 hE hd hT c_10 hp.2.1 rfl hqF hqK (nms (lookT T p)).toNat 0 (p + 1) 0 [] _ (by omega) (by omega) (by omega) (by omega) rfl (fun z => absurd rfl z) (fun _ => rfl) (fun i hi => absurd hi (by simp)) (fun _ z => absurd rfl z) rfl ?_ ?_ ?_ ?_ ?_ ?_ ?_)
    · exact Fr2.l ((Fr.rf r r h).up (by omega) (by omega)) (by omega) (by omega)
    · exact RdK_fr hk (by simp [zup_app]) (by simp [zup_app]) (fun z z1 z2 => zup_ne (by omega))
    · exact PrIs_up hP (by decide)
    · simp [zup_app]
    · simp [zup_app, h3]
    · simp [zup_app]
    · exact zup_ne (by omega)
  · (try simp (disch := omega) only [zb_e0, zb_n0, w32_id, w64_id, ne_eq, Classical.not_not] at c_10)
    refine x_aload_n (pc := 13) dX5_readRow_13 rfl ?_
    refine x_aload_n (pc := 14) dX5_readRow_14 rfl ?_
    refine y_getI 2 (pc := 15) dX5_readRow_15 f_RX5_39 (by assumption) rfl (fun b_15 => ?_)
    rw [hp.1]
    refine y_putI 3 (pc := 18) dX5_readRow_18 f_RX5_42 (by assumption) rfl (by rfl) (by omega) rfl ?_
    refine x_ret (pc := 21) ⟨dX5_readRow_21, rfl⟩ ?_
    exact hqF p (rowS_n c_10) _ (Fr2.l ((Fr.rf r r h).up (by omega) (by omega)) (by omega) (by omega)) (by simp [zup_app]) hp.2.1 (by simp [zup_app]) (zup_ne (by omega))

set_option maxHeartbeats 4000000 in
set_option maxRecDepth 100000 in
theorem c_r_in98F {r e m n f : Int} (hR : isRT ty r) (h3 : h r 3 = f) (hf : 0 ≤ f ∧ f ≤ 2000) (hq : Q (some (iV (-1 - f))) ty sz h) : zX D mX5_readInto (d + 6) 0 0 95 [(3, iV m), (2, iV n), (0, rV r), (1, rV e)] [] ty sz h Q := by
  obtain ⟨r9, r0, r1, r2⟩ := hR
  refine x_aload_n (pc := 95) dX5_readInto_95 rfl ?_
  refine y_getI 3 (pc := 96) dX5_readInto_96 f_RX5_42 (by assumption) rfl (fun b_96 => ?_)
  rw [h3] at b_96 ⊢
  refine x_iconst (pc := 99) dX5_readInto_99 ?_
  refine x_icmp_ne (pc := 100) 128 dX5_readInto_100 rfl (fun c_100 => ?_) (fun c_100 => ?_)
  · (try simp (disch := omega) only [zb_e0, zb_n0, w32_id, w64_id, ne_eq, Classical.not_not] at c_100)
    refine x_aload_n (pc := 128) dX5_readInto_128 rfl ?_
    refine y_getI 3 (pc := 129) dX5_readInto_129 f_RX5_42 (by assumption) rfl (fun b_129 => ?_)
    rw [h3] at b_129 ⊢
    refine x_iconst (pc := 132) dX5_readInto_132 ?_
    refine x_icmp_ne (pc := 133) 140 dX5_readInto_133 rfl (fun c_133 => ?_) (fun c_133 => ?_)
    · (try simp (disch := omega) only [zb_e0, zb_n0, w32_id, w64_id, ne_eq, Classical.not_not] at c_133)
      refine x_iconst (pc := 140) dX5_readInto_140 ?_
      refine x_aload_n (pc := 141) dX5_readInto_141 rfl ?_
      refine y_getI 3 (pc := 142) dX5_readInto_142 f_RX5_42 (by assumption) rfl (fun b_142 => ?_)
      rw [h3]
      refine x_isub (pc := 145) dX5_readInto_145 ?_
      refine x_retv (pc := 146) ⟨dX5_readInto_146, Or.inl rfl⟩ ?_
      exact hq
    · (try simp (disch := omega) only [zb_e0, zb_n0, w32_id, w64_id, ne_eq, Classical.not_not] at c_133)
      omega
  · (try simp (disch := omega) only [zb_e0, zb_n0, w32_id, w64_id, ne_eq, Classical.not_not] at c_100)
    omega

set_option maxHeartbeats 4000000 in
set_option maxRecDepth 100000 in
theorem c_r_in131F {r e m n f : Int} (hR : isRT ty r) (h3 : h r 3 = f) (hf : 0 ≤ f ∧ f ≤ 2000) (hq : Q (some (iV (-1 - f))) ty sz h) : zX D mX5_readInto (d + 6) 0 0 128 [(3, iV m), (2, iV n), (0, rV r), (1, rV e)] [] ty sz h Q := by
  obtain ⟨r9, r0, r1, r2⟩ := hR
  refine x_aload_n (pc := 128) dX5_readInto_128 rfl ?_
  refine y_getI 3 (pc := 129) dX5_readInto_129 f_RX5_42 (by assumption) rfl (fun b_129 => ?_)
  rw [h3] at b_129 ⊢
  refine x_iconst (pc := 132) dX5_readInto_132 ?_
  refine x_icmp_ne (pc := 133) 140 dX5_readInto_133 rfl (fun c_133 => ?_) (fun c_133 => ?_)
  · (try simp (disch := omega) only [zb_e0, zb_n0, w32_id, w64_id, ne_eq, Classical.not_not] at c_133)
    refine x_iconst (pc := 140) dX5_readInto_140 ?_
    refine x_aload_n (pc := 141) dX5_readInto_141 rfl ?_
    refine y_getI 3 (pc := 142) dX5_readInto_142 f_RX5_42 (by assumption) rfl (fun b_142 => ?_)
    rw [h3]
    refine x_isub (pc := 145) dX5_readInto_145 ?_
    refine x_retv (pc := 146) ⟨dX5_readInto_146, Or.inl rfl⟩ ?_
    exact hq
  · (try simp (disch := omega) only [zb_e0, zb_n0, w32_id, w64_id, ne_eq, Classical.not_not] at c_133)
    omega

set_option maxHeartbeats 4000000 in
set_option maxRecDepth 100000 in
theorem c_r_in98 {r e m n : Int} {l : List Row} {T : List Int} (hR : isRT ty r) (hE : isET ty e) (hk : RdK h r e l) (hP : PrIs h r T) (hT : TxOK T) (h3 : h r 3 = -1) (hqF : l ≠ [] → nL 83 (curK l) = 0 → Q (some (iV (-1 - (T.length : Int)))) ty sz (zup h r 3 T.length)) (hqK : (l = [] ∨ nL 83 (curK l) ≠ 0) → Q (some (iV n)) ty sz h) : zX D mX5_readInto (d + 6) 0 0 95 [(3, iV m), (2, iV n), (0, rV r), (1, rV e)] [] ty sz h Q := by
  have hR0 := hR
  obtain ⟨r9, r0, r1, r2⟩ := hR
  have hl1 := hP.1
  have hT1 := hT.1
  refine x_aload_n (pc := 95) dX5_readInto_95 rfl ?_
  refine y_getI 3 (pc := 96) dX5_readInto_96 f_RX5_42 (by assumption) rfl (fun b_96 => ?_)
  rw [h3] at b_96 ⊢
  refine x_iconst (pc := 99) dX5_readInto_99 ?_
  refine x_icmp_ne (pc := 100) 128 dX5_readInto_100 rfl (fun c_100 => ?_) (fun c_100 => ?_)
  · (try simp (disch := omega) only [zb_e0, zb_n0, w32_id, w64_id, ne_eq, Classical.not_not] at c_100)
    exact absurd trivial c_100
  · (try simp (disch := omega) only [zb_e0, zb_n0, w32_id, w64_id, ne_eq, Classical.not_not] at c_100)
    refine x_aload_n (pc := 103) dX5_readInto_103 rfl ?_
    refine y_getR 5 (pc := 104) dX5_readInto_104 f_RX5_35 (by assumption) rfl ?_
    refine x_ifnull (pc := 107) 128 dX5_readInto_107 rfl (fun c_107 => ?_) (fun c_107 => ?_)
    · (try simp (disch := omega) only [zb_e0, zb_n0, w32_id, w64_id, ne_eq, Classical.not_not] at c_107)
      first
        | exact c_r_in131F hR0 (by simp [zup_app]) (by omega) (hqF hl (by omega))
        | (have hn : l = [] ∨ nL 83 (curK l) ≠ 0 := by
             first
               | exact Or.inr (by omega)
               | (refine Or.inl (Classical.byContradiction (fun z => ?_))
                  obtain ⟨h5, hck, -⟩ := hk.cur z
                  have := hE.1
                  omega)
           refine x_aload_n (pc := 128) dX5_readInto_128 rfl ?_
           refine y_getI 3 (pc := 129) dX5_readInto_129 f_RX5_42 (by assumption) rfl (fun b_129 => ?_)
           rw [h3]
           refine x_iconst (pc := 132) dX5_readInto_132 ?_
           refine x_icmp_ne (pc := 133) 140 dX5_readInto_133 rfl (fun c_133 => absurd rfl c_133) (fun c_133 => ?_)
           refine x_iload_n (pc := 136) dX5_readInto_136 rfl ?_
           refine x_goto (pc := 137) 146 dX5_readInto_137 rfl ?_
           exact x_retv (pc := 146) ⟨dX5_readInto_146, Or.inl rfl⟩ (hqK hn))
    · (try simp (disch := omega) only [zb_e0, zb_n0, w32_id, w64_id, ne_eq, Classical.not_not] at c_107)
      have hl : l ≠ [] := fun z => by
        have := hk.2.2.1
        rw [if_pos z] at this
        omega
      obtain ⟨h5, hck, hKI, hcn, hB, hne⟩ := hk.cur hl
      have hKT := hE.2.2.2 (ck l) (by omega) (by omega)
      obtain ⟨k9, k0, -⟩ := hKT
      have hs := hKI.2.1
      rw [← h5] at hs k0
      refine x_aload_n (pc := 110) dX5_readInto_110 rfl ?_
      refine y_getR 5 (pc := 111) dX5_readInto_111 f_RX5_35 (by assumption) rfl ?_
      refine y_getI 1 (pc := 114) dX5_readInto_114 f_RX5_52 (by assumption) rfl (fun b_114 => ?_)
      refine x_if_ne (pc := 117) 128 dX5_readInto_117 rfl (fun c_117 => ?_) (fun c_117 => ?_)
      · (try simp (disch := omega) only [zb_e0, zb_n0, w32_id, w64_id, ne_eq, Classical.not_not] at c_117)
        first
          | exact c_r_in131F hR0 (by simp [zup_app]) (by omega) (hqF hl (by omega))
          | (have hn : l = [] ∨ nL 83 (curK l) ≠ 0 := by
               first
                 | exact Or.inr (by omega)
                 | (refine Or.inl (Classical.byContradiction (fun z => ?_))
                    obtain ⟨h5, hck, -⟩ := hk.cur z
                    have := hE.1
                    omega)
             refine x_aload_n (pc := 128) dX5_readInto_128 rfl ?_
             refine y_getI 3 (pc := 129) dX5_readInto_129 f_RX5_42 (by assumption) rfl (fun b_129 => ?_)
             rw [h3]
             refine x_iconst (pc := 132) dX5_readInto_132 ?_
             refine x_icmp_ne (pc := 133) 140 dX5_readInto_133 rfl (fun c_133 => absurd rfl c_133) (fun c_133 => ?_)
             refine x_iload_n (pc := 136) dX5_readInto_136 rfl ?_
             refine x_goto (pc := 137) 146 dX5_readInto_137 rfl ?_
             exact x_retv (pc := 146) ⟨dX5_readInto_146, Or.inl rfl⟩ (hqK hn))
      · (try simp (disch := omega) only [zb_e0, zb_n0, w32_id, w64_id, ne_eq, Classical.not_not] at c_117)
        refine x_aload_n (pc := 120) dX5_readInto_120 rfl ?_
        refine x_aload_n (pc := 121) dX5_readInto_121 rfl ?_
        refine y_getI 1 (pc := 122) dX5_readInto_122 f_RX5_18 (by assumption) rfl (fun b_122 => ?_)
        rw [hl1]
        refine y_putI 3 (pc := 125) dX5_readInto_125 f_RX5_42 (by assumption) rfl (by rfl) (by omega) rfl ?_
        first
          | exact c_r_in131F hR0 (by simp [zup_app]) (by omega) (hqF hl (by omega))
          | (have hn : l = [] ∨ nL 83 (curK l) ≠ 0 := by
               first
                 | exact Or.inr (by omega)
                 | (refine Or.inl (Classical.byContradiction (fun z => ?_))
                    obtain ⟨h5, hck, -⟩ := hk.cur z
                    have := hE.1
                    omega)
             refine x_aload_n (pc := 128) dX5_readInto_128 rfl ?_
             refine y_getI 3 (pc := 129) dX5_readInto_129 f_RX5_42 (by assumption) rfl (fun b_129 => ?_)
             rw [h3]
             refine x_iconst (pc := 132) dX5_readInto_132 ?_
             refine x_icmp_ne (pc := 133) 140 dX5_readInto_133 rfl (fun c_133 => absurd rfl c_133) (fun c_133 => ?_)
             refine x_iload_n (pc := 136) dX5_readInto_136 rfl ?_
             refine x_goto (pc := 137) 146 dX5_readInto_137 rfl ?_
             exact x_retv (pc := 146) ⟨dX5_readInto_146, Or.inl rfl⟩ (hqK hn))

/-- a fault stands in the text, or behind its end -/
theorem rdN_le {T : List Int} {l : List Row} {c : Int} : ∀ (k : Nat) (n p a : Int) (acc : List Int), 0 ≤ p → p ≤ T.length → ∀ f, rdN T l c k n p a acc = .inl f → 0 ≤ f ∧ f ≤ T.length
  | 0, n, p, a, acc, h0, h1, f, hr => by unfold rdN at hr; cases hr
  | k + 1, n, p, a, acc, h0, h1, f, hr => by
    by_cases hs : 0 < n ∧ lookT T p ≠ 32
    · rw [rdN_sep hs] at hr; cases hr; exact ⟨h0, h1⟩
    · generalize hq : (if 0 < n then p + 1 else p) = q
      have hq2 : p ≤ q ∧ q ≤ T.length := by
        by_cases hn : 0 < n
        · rw [if_pos hn] at hq
          have h32 : lookT T p = 32 := Classical.not_not.mp (fun z => hs ⟨hn, z⟩)
          have : p < T.length := by
            rcases Int.lt_or_le p T.length with z | z
            · exact z
            · rw [lookT_out z] at h32; omega
          omega
        · rw [if_neg hn] at hq; omega
      by_cases hb : (numR T q).2 = q ∨ ¬ okN l c n (numR T q).1 a
      · rw [rdN_bad hs hq.symm hb] at hr; cases hr; omega
      · rw [rdN_ok hs hq.symm hb] at hr
        have hnr := numR_r T (p := q) (by omega) hq2.2
        exact rdN_le k _ _ _ _ (by omega) hnr.2.2 f hr
theorem rowS_le {T : List Int} {p f : Int} {l : List Row} (hT : TxOK T) (h0 : 0 ≤ p) (h1 : p ≤ T.length) (hr : rowS T p l = .inl f) : f ≤ 1500 := by
  have hT1 := hT.1
  by_cases hm : mayB l (lookT T p)
  · have hp : p < T.length := by
      rcases Int.lt_or_le p T.length with z | z
      · exact z
      · rw [lookT_out z] at hm
        have := mayB_l hm
        unfold isRowL at this
        omega
    cases hd : rdN T l (lookT T p) (nms (lookT T p)).toNat 0 (p + 1) 0 [] with
    | inl q =>
      rw [rowS_f hm hd] at hr
      cases hr
      have := rdN_le _ 0 (p + 1) 0 [] (by omega) (by omega) _ hd
      omega
    | inr q =>
      obtain ⟨p2, acc⟩ := q
      rw [rowS_k hm hd] at hr
      cases hr
  · rw [rowS_n hm] at hr
    cases hr
    omega

set_option maxHeartbeats 4000000 in
set_option maxRecDepth 100000 in
theorem c_r_in42 {r e : Int} {T : List Int} (hR : isRT ty r) (hE : isET ty e) (hd : e + 61 < r ∨ r + 2 < e) (hT : TxOK T) (hqF : ∀ f, parse T = .inl f → 0 ≤ f ∧ f ≤ 1500 → ∀ h', Fr2 r e h h' → Q (some (iV (-1 - f))) ty sz h') (hqK : ∀ l, parse T = .inr l → ∀ h', Fr2 r e h h' → EdIs h' e l → WF l → Q (some (iV (l.length : Int))) ty sz h') : ∀ (f : Nat) (p : Int) (l : List Row) (g : zH), 0 ≤ p → p ≤ T.length → (T.length : Int) < p + f → 3 * (l.length : Int) ≤ p → parse T = prsS T f p l → Fr2 r e h g → RdK g r e l → PrIs g r T → g r 2 = p → g r 3 = -1 → zX D mX5_readInto (d + 6) 0 0 39 [(3, iV 1), (2, iV (l.length : Int)), (0, rV r), (1, rV e)] [] ty sz g Q := by
  intro f
  induction f with
  | zero =>
    intro p l g h0 h1 h2
    omega
  | succ f ih =>
    intro p l g h0 h1 h2 hl3 hpa hF hk hP e2 e3
    have hR0 := hR
    obtain ⟨r9, r0, r1, r2⟩ := hR
    have hT1 := hT.1
    have hl1 := hP.1
    -- behind a fault
    have FLT : ∀ (q : Int) (g2 : zH), parse T = .inl q → 0 ≤ q ∧ q ≤ 1500 → Fr2 r e h g2 → g2 r 3 = q → ∀ m n, m = 0 ∨ m = 1 → zX D mX5_readInto (d + 6) 0 0 39 [(3, iV m), (2, iV n), (0, rV r), (1, rV e)] [] ty sz g2 Q := by
      intro q g2 hq hq0 hF2 e4 m n hm
      refine x_iload_n (pc := 39) dX5_readInto_39 rfl ?_
      refine x_if_eq (pc := 40) 95 dX5_readInto_40 rfl (fun c_40 => ?_) (fun c_40 => ?_)
      · exact c_r_in98F hR0 e4 (by omega) (hqF q hq hq0 g2 hF2)
      · refine x_aload_n (pc := 43) dX5_readInto_43 rfl ?_
        refine y_getI 3 (pc := 44) dX5_readInto_44 f_RX5_42 (by assumption) rfl (fun b_44 => ?_)
        rw [e4]
        refine x_iconst (pc := 47) dX5_readInto_47 ?_
        refine x_icmp_ne (pc := 48) 95 dX5_readInto_48 rfl (fun c_48 => ?_) (fun c_48 => ?_)
        · exact c_r_in98F hR0 e4 (by omega) (hqF q hq hq0 g2 hF2)
        · simp (disch := omega) only [w32_id] at c_48
          omega
    refine x_iload_n (pc := 39) dX5_readInto_39 rfl ?_
    refine x_if_eq (pc := 40) 95 dX5_readInto_40 rfl (fun c_40 => ?_) (fun c_40 => ?_)
    · (try simp (disch := omega) only [zb_e0, zb_n0, w32_id, w64_id, ne_eq, Classical.not_not] at c_40)
      exact absurd c_40 (by decide)
    · (try simp (disch := omega) only [zb_e0, zb_n0, w32_id, w64_id, ne_eq, Classical.not_not] at c_40)
      refine x_aload_n (pc := 43) dX5_readInto_43 rfl ?_
      refine y_getI 3 (pc := 44) dX5_readInto_44 f_RX5_42 (by assumption) rfl (fun b_44 => ?_)
      rw [e3] at b_44 ⊢
      refine x_iconst (pc := 47) dX5_readInto_47 ?_
      refine x_icmp_ne (pc := 48) 95 dX5_readInto_48 rfl (fun c_48 => ?_) (fun c_48 => ?_)
      · (try simp (disch := omega) only [zb_e0, zb_n0, w32_id, w64_id, ne_eq, Classical.not_not] at c_48)
        exact absurd trivial c_48
      · (try simp (disch := omega) only [zb_e0, zb_n0, w32_id, w64_id, ne_eq, Classical.not_not] at c_48)
        refine x_iload_n (pc := 51) dX5_readInto_51 rfl ?_
        refine x_sipush (pc := 52) dX5_readInto_52 (by decide) ?_
        refine x_icmp_ge (pc := 55) 95 dX5_readInto_55 rfl (fun c_55 => ?_) (fun c_55 => ?_)
        · (try simp (disch := omega) only [zb_e0, zb_n0, w32_id, w64_id, ne_eq, Classical.not_not] at c_55)
          omega
        · (try simp (disch := omega) only [zb_e0, zb_n0, w32_id, w64_id, ne_eq, Classical.not_not] at c_55)
          refine x_aload_n (pc := 58) dX5_readInto_58 rfl ?_
          refine x_callV0 (pc := 59) dX5_readInto_59 (k_RX5_45 _ rfl) tmv_X5_readRow (by assumption) rfl rfl rfl ?_
          refine x_room (d' := d + 5) (by omega) (Nat.le_refl _) (Nat.le_refl _) (c_r_row hR0 hE hd hT hk hP ⟨e2, h0, h1⟩ e3 (fun q hr g2 hF2 e4 h4 e5 e6 => ?_) (fun p' R hr g2 hF2 hk2 e4 e5 hP2 => ?_))
          · -- a fault in the row
            dsimp only [Option.toList, List.cons_append, List.nil_append]
            have hq : parse T = .inl q := by rw [hpa, prsS_f hr]
            have hq9 : q ≤ 1500 := rowS_le hT h0 h1 hr
            refine x_iinc (pc := 62) dX5_readInto_62 rfl (by decide) ?_
            refine x_aload_n (pc := 65) dX5_readInto_65 rfl ?_
            refine y_getI 2 (pc := 66) dX5_readInto_66 f_RX5_39 (by assumption) rfl (fun b_66 => ?_)
            refine x_aload_n (pc := 69) dX5_readInto_69 rfl ?_
            refine y_getI 1 (pc := 70) dX5_readInto_70 f_RX5_18 (by assumption) rfl (fun b_70 => ?_)
            refine x_icmp_ge (pc := 73) 80 dX5_readInto_73 rfl (fun c_73 => ?_) (fun c_73 => ?_)
            · refine x_iconst (pc := 80) dX5_readInto_80 ?_
              refine x_istore_n (pc := 81) dX5_readInto_81 (by decide) ?_
              refine x_iload_n (pc := 82) dX5_readInto_82 rfl ?_
              refine x_if_eq (pc := 83) 39 dX5_readInto_83 rfl (fun c_83 => ?_) (fun c_83 => absurd (by decide) c_83)
              exact x_loc _ (by exact ⟨rfl, rfl, rfl, rfl, trivial⟩) (FLT q g2 hq ⟨h4, hq9⟩ (hF.t hF2) e4 0 _ (Or.inl rfl))
            · refine x_iconst (pc := 76) dX5_readInto_76 ?_
              refine x_goto (pc := 77) 81 dX5_readInto_77 rfl ?_
              refine x_istore_n (pc := 81) dX5_readInto_81 (by decide) ?_
              refine x_iload_n (pc := 82) dX5_readInto_82 rfl ?_
              refine x_if_eq (pc := 83) 39 dX5_readInto_83 rfl (fun c_83 => absurd c_83 (by decide)) (fun c_83 => ?_)
              refine x_aload_n (pc := 86) dX5_readInto_86 rfl ?_
              refine x_bipush (pc := 87) dX5_readInto_87 (by decide) ?_
              refine x_callV1 (pc := 89) dX5_readInto_89 (k_RX5_48 _ rfl) tmv_X5_expect (by assumption) rfl rfl rfl ?_
              refine x_room (d' := d + 2) (by omega) (Nat.le_refl _) (Nat.le_refl _) (c_r_expF hR0 (by omega) ?_)
              dsimp only [Option.toList, List.cons_append, List.nil_append]
              refine x_goto (pc := 92) 39 dX5_readInto_92 rfl ?_
              exact x_loc _ (by exact ⟨rfl, rfl, rfl, rfl, trivial⟩) (FLT q g2 hq ⟨h4, hq9⟩ (hF.t hF2) e4 1 _ (Or.inr rfl))
          · -- a row
            dsimp only [Option.toList, List.cons_append, List.nil_append]
            obtain ⟨ho, hg1, hg2⟩ := rowS_good h0 hr
            rw [prsS_r hr] at hpa
            have hl2 := hP2.1
            have hll : ((l ++ [R]).length : Int) = l.length + 1 := by simp
            refine x_iinc (pc := 62) dX5_readInto_62 rfl (by decide) ?_
            refine x_aload_n (pc := 65) dX5_readInto_65 rfl ?_
            refine y_getI 2 (pc := 66) dX5_readInto_66 f_RX5_39 (by assumption) rfl (fun b_66 => ?_)
            rw [e4]
            refine x_aload_n (pc := 69) dX5_readInto_69 rfl ?_
            refine y_getI 1 (pc := 70) dX5_readInto_70 f_RX5_18 (by assumption) rfl (fun b_70 => ?_)
            rw [hl2]
            refine x_icmp_ge (pc := 73) 80 dX5_readInto_73 rfl (fun c_73 => ?_) (fun c_73 => ?_)
            · simp (disch := omega) only [w32_id] at c_73
              rw [if_pos (by omega)] at hpa
              refine x_iconst (pc := 80) dX5_readInto_80 ?_
              refine x_istore_n (pc := 81) dX5_readInto_81 (by decide) ?_
              refine x_iload_n (pc := 82) dX5_readInto_82 rfl ?_
              refine x_if_eq (pc := 83) 39 dX5_readInto_83 rfl (fun c_83 => ?_) (fun c_83 => absurd (by decide) c_83)
              refine x_iload_n (pc := 39) dX5_readInto_39 rfl ?_
              refine x_if_eq (pc := 40) 95 dX5_readInto_40 rfl (fun c_40 => ?_) (fun c_40 => absurd (by decide) c_40)
              refine x_loc [(3, iV 0), (2, iV ((l.length : Int) + 1)), (0, rV r), (1, rV e)] ⟨rfl, rfl, rfl, rfl, trivial⟩ (c_r_in98 hR0 hE hk2 hP2 hT e5 (fun _ z => ?_) (fun z => ?_))
              · rw [if_pos z] at hpa
                exact hqF _ hpa (by omega) _ ((hF.t hF2).t (Fr2.l ((Fr.rf r r g2).up (by omega) (by omega)) (by omega) (by omega)))
              · rcases z with z | z
                · simp at z
                · rw [if_neg z] at hpa
                  have := hqK _ hpa g2 (hF.t hF2) hk2.1 hk2.2.2.2
                  rw [hll] at this
                  exact this
            · simp (disch := omega) only [w32_id] at c_73
              rw [if_neg (by omega)] at hpa
              refine x_iconst (pc := 76) dX5_readInto_76 ?_
              refine x_goto (pc := 77) 81 dX5_readInto_77 rfl ?_
              refine x_istore_n (pc := 81) dX5_readInto_81 (by decide) ?_
              refine x_iload_n (pc := 82) dX5_readInto_82 rfl ?_
              refine x_if_eq (pc := 83) 39 dX5_readInto_83 rfl (fun c_83 => absurd c_83 (by decide)) (fun c_83 => ?_)
              refine x_aload_n (pc := 86) dX5_readInto_86 rfl ?_
              refine x_bipush (pc := 87) dX5_readInto_87 (by decide) ?_
              refine x_callV1 (pc := 89) dX5_readInto_89 (k_RX5_48 _ rfl) tmv_X5_expect (by assumption) rfl rfl rfl ?_
              refine x_room (d' := d + 2) (by omega) (Nat.le_refl _) (Nat.le_refl _) (c_r_expect hR0 hP2 hT (by omega) (by omega) (fun z => absurd e5 z) (fun _ z => ?_) (fun _ z => ?_))
              · dsimp only [Option.toList, List.cons_append, List.nil_append]
                rw [e4] at z ⊢
                rw [if_neg (by omega)] at hpa
                refine x_goto (pc := 92) 39 dX5_readInto_92 rfl ?_
                have := ih (p' + 1) (l ++ [R]) (zup g2 r 2 (p' + 1)) (by omega) (by omega) (by omega) (by omega) hpa ((hF.t hF2).t (Fr2.l ((Fr.rf r r g2).up (by omega) (by omega)) (by omega) (by omega))) (RdK_fr hk2 (by simp [zup_app]) (by simp [zup_app]) (fun y y1 y2 => zup_ne (by omega))) (PrIs_up hP2 (by decide)) (by simp [zup_app]) (by simp [zup_app, e5])
                rw [hll] at this
                exact x_loc _ (by exact ⟨rfl, rfl, rfl, rfl, trivial⟩) this
              · dsimp only [Option.toList, List.cons_append, List.nil_append]
                rw [e4] at z ⊢
                rw [if_pos z] at hpa
                refine x_goto (pc := 92) 39 dX5_readInto_92 rfl ?_
                exact x_loc _ (by exact ⟨rfl, rfl, rfl, rfl, trivial⟩) (FLT p' _ hpa (by omega) ((hF.t hF2).t (Fr2.l ((Fr.rf r r g2).up (by omega) (by omega)) (by omega) (by omega))) (by simp [zup_app]) 1 _ (Or.inr rfl))

set_option maxHeartbeats 4000000 in
set_option maxRecDepth 100000 in
theorem c_r_into {r e : Int} {T : List Int} (hR : isRT ty r) (hE : isET ty e) (hd : e + 61 < r ∨ r + 2 < e) (hT : TxOK T) (hP : PrIs h r T) (hqF : ∀ f, parse T = .inl f → 0 ≤ f ∧ f ≤ 1500 → ∀ h', Fr2 r e h h' → Q (some (iV (-1 - f))) ty sz h') (hqK : ∀ l, parse T = .inr l → ∀ h', Fr2 r e h h' → EdIs h' e l → WF l → Q (some (iV (l.length : Int))) ty sz h') : zXM D mX5_readInto (d + 6) 0 0 [rV r, rV e] ty sz h Q := by
  have hR0 := hR
  obtain ⟨r9, r0, r1, r2⟩ := hR
  have hE0 := hE
  have hT1 := hT.1
  obtain ⟨e9, e0, -⟩ := hE
  refine x_aload_n (pc := 0) dX5_readInto_0 rfl ?_
  refine x_callV0 (pc := 1) dX5_readInto_1 (k_RX5_26 _ rfl) tmv_X1_clear (by assumption) rfl rfl rfl ?_
  refine x_room (d' := d + 2) (by omega) (Nat.le_refl _) (Nat.le_refl _) (c_e_clear hE0 (fun g5 hF1 hcl => ?_))
  dsimp only [Option.toList, List.cons_append, List.nil_append]
  refine x_aload_n (pc := 4) dX5_readInto_4 rfl ?_
  refine x_aload_n (pc := 5) dX5_readInto_5 rfl ?_
  refine y_putR 4 (pc := 6) dX5_readInto_6 f_RX5_31 (by assumption) rfl (by rfl) rfl ?_
  refine x_aload_n (pc := 9) dX5_readInto_9 rfl ?_
  refine x_null (pc := 10) dX5_readInto_10 ?_
  refine y_putR 5 (pc := 11) dX5_readInto_11 f_RX5_35 (by assumption) rfl (by rfl) rfl ?_
  refine x_aload_n (pc := 14) dX5_readInto_14 rfl ?_
  refine x_iconst (pc := 15) dX5_readInto_15 ?_
  refine y_putI 2 (pc := 16) dX5_readInto_16 f_RX5_39 (by assumption) rfl (by rfl) (by omega) rfl ?_
  refine x_aload_n (pc := 19) dX5_readInto_19 rfl ?_
  refine x_iconst (pc := 20) dX5_readInto_20 ?_
  refine y_putI 3 (pc := 21) dX5_readInto_21 f_RX5_42 (by assumption) rfl (by rfl) (by omega) rfl ?_
  refine x_iconst (pc := 24) dX5_readInto_24 ?_
  refine x_istore_n (pc := 25) dX5_readInto_25 (by decide) ?_
  have F0 : Fr2 r e h g5 := Fr2.r hF1 (by omega) (by omega)
  have er : g5 r = h r := hF1 r (by omega)
  have er1 : g5 (r + 1) = h (r + 1) := hF1 (r + 1) (by omega)
  have hPz : PrIs (zup (zup (zup (zup g5 r 4 e) r 5 (-1)) r 2 0) r 3 (-1)) r T := by
    refine ⟨?_, fun i c hi => ?_⟩
    · simp [zup_app, er, hP.1]
    · rw [zup_ne (by omega), zup_ne (by omega), zup_ne (by omega), zup_ne (by omega), er1]; exact hP.2 i c hi
  have hkz : RdK (zup (zup (zup (zup g5 r 4 e) r 5 (-1)) r 2 0) r 3 (-1)) r e [] := by
    refine ⟨fun k k0 k1 => ?_, ?_, ?_, WF_nil⟩
    · refine (KindIs_0 (hcl k k0 k1)).fr (fun q q1 q2 => ?_)
      rw [zup_ne (by omega), zup_ne (by omega), zup_ne (by omega), zup_ne (by omega)]
    · simp [zup_app]
    · simp [zup_app]
  have hFz : Fr2 r e h (zup (zup (zup (zup g5 r 4 e) r 5 (-1)) r 2 0) r 3 (-1)) := F0.t (Fr2.l (lo := r) (hi := r + 2) (((((Fr.rf _ _ _).up (by omega) (by omega)).up (by omega) (by omega)).up (by omega) (by omega)).up (by omega) (by omega)) (by omega) (by omega))
  generalize hgz : zup (zup (zup (zup g5 r 4 e) r 5 (-1)) r 2 0) r 3 (-1) = gz at *
  have e2z : gz r 2 = 0 := by rw [← hgz]; simp [zup_app]
  have e3z : gz r 3 = -1 := by rw [← hgz]; simp [zup_app]
  have hlz := hPz.1
  refine x_aload_n (pc := 26) dX5_readInto_26 rfl ?_
  refine y_getI 1 (pc := 27) dX5_readInto_27 f_RX5_18 (by assumption) rfl (fun b_27 => ?_)
  rw [hlz]
  refine x_if_le (pc := 30) 37 dX5_readInto_30 rfl (fun c_30 => ?_) (fun c_30 => ?_)
  · (try simp (disch := omega) only [zb_e0, zb_n0, w32_id, w64_id, ne_eq, Classical.not_not] at c_30)
    refine x_iconst (pc := 37) dX5_readInto_37 ?_
    refine x_istore_n (pc := 38) dX5_readInto_38 (by decide) ?_
    by_cases hTe : T = []
    · subst hTe
      first
        | (exfalso; simp at *; done)
        | (refine x_iload_n (pc := 39) dX5_readInto_39 rfl ?_
           refine x_if_eq (pc := 40) 95 dX5_readInto_40 rfl (fun c_40 => ?_) (fun c_40 => absurd (by decide) c_40)
           refine x_loc [(3, iV 0), (2, iV 0), (0, rV r), (1, rV e)] ⟨rfl, rfl, rfl, rfl, trivial⟩ (c_r_in98 (l := []) hR0 hE0 hkz hPz hT e3z (fun z => absurd rfl z) (fun _ => ?_))
           exact hqK [] (if_pos rfl) gz hFz hkz.1 WF_nil)
    · have hpl : 0 < T.length := by cases T; exact absurd rfl hTe; simp
      first
        | (exfalso; omega)
        | exact x_loc _ (by exact ⟨rfl, rfl, rfl, rfl, trivial⟩) (c_r_in42 hR0 hE0 hd hT hqF hqK (T.length + 1) 0 [] gz (by omega) (by omega) (by omega) (by simp) (if_neg hTe) hFz hkz hPz e2z e3z)
  · (try simp (disch := omega) only [zb_e0, zb_n0, w32_id, w64_id, ne_eq, Classical.not_not] at c_30)
    refine x_iconst (pc := 33) dX5_readInto_33 ?_
    refine x_goto (pc := 34) 38 dX5_readInto_34 rfl ?_
    refine x_istore_n (pc := 38) dX5_readInto_38 (by decide) ?_
    by_cases hTe : T = []
    · subst hTe
      first
        | (exfalso; simp at *; done)
        | (refine x_iload_n (pc := 39) dX5_readInto_39 rfl ?_
           refine x_if_eq (pc := 40) 95 dX5_readInto_40 rfl (fun c_40 => ?_) (fun c_40 => absurd (by decide) c_40)
           refine x_loc [(3, iV 0), (2, iV 0), (0, rV r), (1, rV e)] ⟨rfl, rfl, rfl, rfl, trivial⟩ (c_r_in98 (l := []) hR0 hE0 hkz hPz hT e3z (fun z => absurd rfl z) (fun _ => ?_))
           exact hqK [] (if_pos rfl) gz hFz hkz.1 WF_nil)
    · have hpl : 0 < T.length := by cases T; exact absurd rfl hTe; simp
      first
        | (exfalso; omega)
        | exact x_loc _ (by exact ⟨rfl, rfl, rfl, rfl, trivial⟩) (c_r_in42 hR0 hE0 hd hT hqF hqK (T.length + 1) 0 [] gz (by omega) (by omega) (by omega) (by simp) (if_neg hTe) hFz hkz hPz e2z e3z)

end C15
