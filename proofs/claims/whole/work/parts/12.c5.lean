section C5
variable {D : va_G} {d : Nat} {ty : zT} {sz : Nat} {h : zH} {Q : zQ}
theorem zrf_eq {a b : Int} (ha : -1 ≤ a) (hb : -1 ≤ b) : (zrf a = zrf b) = (a = b) := by
  apply propext
  unfold zrf
  by_cases h1 : a < 0
  · rw [if_pos h1]
    by_cases h2 : b < 0
    · rw [if_pos h2]; exact ⟨fun _ => (by omega), fun _ => rfl⟩
    · rw [if_neg h2]; exact ⟨fun q => (by cases q), fun q => (by omega)⟩
  · rw [if_neg h1]
    by_cases h2 : b < 0
    · rw [if_pos h2]; exact ⟨fun q => (by cases q), fun q => (by omega)⟩
    · rw [if_neg h2]; exact ⟨fun q => (by have := Option.some.inj q; omega), fun q => (by rw [q])⟩
def kAlike (h : zH) (a b : Int) : Prop := (a < 0 ∧ b < 0) ∨ (0 ≤ a ∧ 0 ≤ b ∧ kSameS h a b ∧ kSameN h a b ∧ kSameL h a b)

set_option maxHeartbeats 4000000 in
set_option maxRecDepth 100000 in
theorem c_alike {a b : Int} (ha : a = -1 ∨ isKT ty a ∧ 0 ≤ h a 1 ∧ h a 1 ≤ 10) (hb : b = -1 ∨ isKT ty b) (hq : Q (some (iV (zb (kAlike h a b)))) ty sz h) : zXM D mX6_arePrintedAlike (d + 2) 0 0 [rV a, rV b] ty sz h Q := by
  have ha1 : -1 ≤ a := by
    rcases ha with e | ⟨e, -⟩
    · omega
    · have := e.1; omega
  have hb1 : -1 ≤ b := by
    rcases hb with e | e
    · omega
    · have := e.1; omega
  refine x_aload_n (pc := 0) dX6_arePrintedAlike_0 rfl ?_
  refine x_ifnull (pc := 1) 8 dX6_arePrintedAlike_1 rfl (fun c_1 => ?_) (fun c_1 => ?_)
  · (try simp (disch := omega) only [zb_e0, zb_n0, w32_id, w64_id, ne_eq, Classical.not_not] at c_1)
    refine x_aload_n (pc := 8) dX6_arePrintedAlike_8 rfl ?_
    refine x_aload_n (pc := 9) dX6_arePrintedAlike_9 rfl ?_
    refine x_acmp_ne (pc := 10) 17 dX6_arePrintedAlike_10 rfl (fun c_10 => ?_) (fun c_10 => ?_)
    · (try simp (disch := omega) only [zb_e0, zb_n0, w32_id, w64_id, ne_eq, Classical.not_not] at c_10)
      simp only [ne_eq, zrf_eq ha1 hb1] at c_10
      refine x_iconst (pc := 17) dX6_arePrintedAlike_17 ?_
      refine x_retv (pc := 18) ⟨dX6_arePrintedAlike_18, Or.inr ⟨rfl, (by decide)⟩⟩ ?_
      by_cases hk : kAlike h a b
      · rw [zb_t hk] at hq
        first
          | exact hq
          | (exfalso; rcases hk with hk | ⟨qa, qb, q1, q2, q3⟩ <;> first | omega | contradiction)
      · rw [zb_f hk] at hq
        first
          | exact hq
          | (exfalso; exact hk (Or.inl ⟨by omega, by omega⟩))
          | (exfalso; exact hk (Or.inr ⟨by omega, by omega, by assumption, by assumption, by assumption⟩))
    · (try simp (disch := omega) only [zb_e0, zb_n0, w32_id, w64_id, ne_eq, Classical.not_not] at c_10)
      simp only [ne_eq, zrf_eq ha1 hb1] at c_10
      refine x_iconst (pc := 13) dX6_arePrintedAlike_13 ?_
      refine x_goto (pc := 14) 18 dX6_arePrintedAlike_14 rfl ?_
      refine x_retv (pc := 18) ⟨dX6_arePrintedAlike_18, Or.inr ⟨rfl, (by decide)⟩⟩ ?_
      by_cases hk : kAlike h a b
      · rw [zb_t hk] at hq
        first
          | exact hq
          | (exfalso; rcases hk with hk | ⟨qa, qb, q1, q2, q3⟩ <;> first | omega | contradiction)
      · rw [zb_f hk] at hq
        first
          | exact hq
          | (exfalso; exact hk (Or.inl ⟨by omega, by omega⟩))
          | (exfalso; exact hk (Or.inr ⟨by omega, by omega, by assumption, by assumption, by assumption⟩))
  · (try simp (disch := omega) only [zb_e0, zb_n0, w32_id, w64_id, ne_eq, Classical.not_not] at c_1)
    refine x_aload_n (pc := 4) dX6_arePrintedAlike_4 rfl ?_
    refine x_ifnonnull (pc := 5) 19 dX6_arePrintedAlike_5 rfl (fun c_5 => ?_) (fun c_5 => ?_)
    · (try simp (disch := omega) only [zb_e0, zb_n0, w32_id, w64_id, ne_eq, Classical.not_not] at c_5)
      have hK : isKT ty a ∧ 0 ≤ h a 1 ∧ h a 1 ≤ 10 := by
        rcases ha with e | e
        · omega
        · exact e
      have hL : isKT ty b := by
        rcases hb with e | e
        · omega
        · exact e
      refine x_aload_n (pc := 19) dX6_arePrintedAlike_19 rfl ?_
      refine x_aload_n (pc := 20) dX6_arePrintedAlike_20 rfl ?_
      refine x_callV1 (pc := 21) dX6_arePrintedAlike_21 (k_RX6_180 _ rfl) tmv_X3_hasSameStepsAs hK.1.2.1 rfl rfl rfl ?_
      refine c_k_sameS hK.1 hL hK.2 ?_
      dsimp only [Option.toList, List.cons_append, List.nil_append]
      refine x_if_eq (pc := 24) 47 dX6_arePrintedAlike_24 rfl (fun c_24 => ?_) (fun c_24 => ?_)
      · (try simp (disch := omega) only [zb_e0, zb_n0, w32_id, w64_id, ne_eq, Classical.not_not] at c_24)
        refine x_iconst (pc := 47) dX6_arePrintedAlike_47 ?_
        refine x_retv (pc := 48) ⟨dX6_arePrintedAlike_48, Or.inr ⟨rfl, (by decide)⟩⟩ ?_
        by_cases hk : kAlike h a b
        · rw [zb_t hk] at hq
          first
            | exact hq
            | (exfalso; rcases hk with hk | ⟨qa, qb, q1, q2, q3⟩ <;> first | omega | contradiction)
        · rw [zb_f hk] at hq
          first
            | exact hq
            | (exfalso; exact hk (Or.inl ⟨by omega, by omega⟩))
            | (exfalso; exact hk (Or.inr ⟨by omega, by omega, by assumption, by assumption, by assumption⟩))
      · (try simp (disch := omega) only [zb_e0, zb_n0, w32_id, w64_id, ne_eq, Classical.not_not] at c_24)
        refine x_aload_n (pc := 27) dX6_arePrintedAlike_27 rfl ?_
        refine x_aload_n (pc := 28) dX6_arePrintedAlike_28 rfl ?_
        refine x_callV1 (pc := 29) dX6_arePrintedAlike_29 (k_RX6_184 _ rfl) tmv_X3_hasSameNamesAs hK.1.2.1 rfl rfl rfl ?_
        refine c_k_sameN hK.1 hL ?_
        dsimp only [Option.toList, List.cons_append, List.nil_append]
        refine x_if_eq (pc := 32) 47 dX6_arePrintedAlike_32 rfl (fun c_32 => ?_) (fun c_32 => ?_)
        · (try simp (disch := omega) only [zb_e0, zb_n0, w32_id, w64_id, ne_eq, Classical.not_not] at c_32)
          refine x_iconst (pc := 47) dX6_arePrintedAlike_47 ?_
          refine x_retv (pc := 48) ⟨dX6_arePrintedAlike_48, Or.inr ⟨rfl, (by decide)⟩⟩ ?_
          by_cases hk : kAlike h a b
          · rw [zb_t hk] at hq
            first
              | exact hq
              | (exfalso; rcases hk with hk | ⟨qa, qb, q1, q2, q3⟩ <;> first | omega | contradiction)
          · rw [zb_f hk] at hq
            first
              | exact hq
              | (exfalso; exact hk (Or.inl ⟨by omega, by omega⟩))
              | (exfalso; exact hk (Or.inr ⟨by omega, by omega, by assumption, by assumption, by assumption⟩))
        · (try simp (disch := omega) only [zb_e0, zb_n0, w32_id, w64_id, ne_eq, Classical.not_not] at c_32)
          refine x_aload_n (pc := 35) dX6_arePrintedAlike_35 rfl ?_
          refine x_aload_n (pc := 36) dX6_arePrintedAlike_36 rfl ?_
          refine x_callV1 (pc := 37) dX6_arePrintedAlike_37 (k_RX6_187 _ rfl) tmv_X3_hasSameLimitsAs hK.1.2.1 rfl rfl rfl ?_
          refine c_k_sameL hK.1 hL ?_
          dsimp only [Option.toList, List.cons_append, List.nil_append]
          refine x_if_eq (pc := 40) 47 dX6_arePrintedAlike_40 rfl (fun c_40 => ?_) (fun c_40 => ?_)
          · (try simp (disch := omega) only [zb_e0, zb_n0, w32_id, w64_id, ne_eq, Classical.not_not] at c_40)
            refine x_iconst (pc := 47) dX6_arePrintedAlike_47 ?_
            refine x_retv (pc := 48) ⟨dX6_arePrintedAlike_48, Or.inr ⟨rfl, (by decide)⟩⟩ ?_
            by_cases hk : kAlike h a b
            · rw [zb_t hk] at hq
              first
                | exact hq
                | (exfalso; rcases hk with hk | ⟨qa, qb, q1, q2, q3⟩ <;> first | omega | contradiction)
            · rw [zb_f hk] at hq
              first
                | exact hq
                | (exfalso; exact hk (Or.inl ⟨by omega, by omega⟩))
                | (exfalso; exact hk (Or.inr ⟨by omega, by omega, by assumption, by assumption, by assumption⟩))
          · (try simp (disch := omega) only [zb_e0, zb_n0, w32_id, w64_id, ne_eq, Classical.not_not] at c_40)
            refine x_iconst (pc := 43) dX6_arePrintedAlike_43 ?_
            refine x_goto (pc := 44) 48 dX6_arePrintedAlike_44 rfl ?_
            refine x_retv (pc := 48) ⟨dX6_arePrintedAlike_48, Or.inr ⟨rfl, (by decide)⟩⟩ ?_
            by_cases hk : kAlike h a b
            · rw [zb_t hk] at hq
              first
                | exact hq
                | (exfalso; rcases hk with hk | ⟨qa, qb, q1, q2, q3⟩ <;> first | omega | contradiction)
            · rw [zb_f hk] at hq
              first
                | exact hq
                | (exfalso; exact hk (Or.inl ⟨by omega, by omega⟩))
                | (exfalso; exact hk (Or.inr ⟨by omega, by omega, by assumption, by assumption, by assumption⟩))
    · (try simp (disch := omega) only [zb_e0, zb_n0, w32_id, w64_id, ne_eq, Classical.not_not] at c_5)
      refine x_aload_n (pc := 8) dX6_arePrintedAlike_8 rfl ?_
      refine x_aload_n (pc := 9) dX6_arePrintedAlike_9 rfl ?_
      refine x_acmp_ne (pc := 10) 17 dX6_arePrintedAlike_10 rfl (fun c_10 => ?_) (fun c_10 => ?_)
      · (try simp (disch := omega) only [zb_e0, zb_n0, w32_id, w64_id, ne_eq, Classical.not_not] at c_10)
        simp only [ne_eq, zrf_eq ha1 hb1] at c_10
        refine x_iconst (pc := 17) dX6_arePrintedAlike_17 ?_
        refine x_retv (pc := 18) ⟨dX6_arePrintedAlike_18, Or.inr ⟨rfl, (by decide)⟩⟩ ?_
        by_cases hk : kAlike h a b
        · rw [zb_t hk] at hq
          first
            | exact hq
            | (exfalso; rcases hk with hk | ⟨qa, qb, q1, q2, q3⟩ <;> first | omega | contradiction)
        · rw [zb_f hk] at hq
          first
            | exact hq
            | (exfalso; exact hk (Or.inl ⟨by omega, by omega⟩))
            | (exfalso; exact hk (Or.inr ⟨by omega, by omega, by assumption, by assumption, by assumption⟩))
      · (try simp (disch := omega) only [zb_e0, zb_n0, w32_id, w64_id, ne_eq, Classical.not_not] at c_10)
        simp only [ne_eq, zrf_eq ha1 hb1] at c_10
        refine x_iconst (pc := 13) dX6_arePrintedAlike_13 ?_
        refine x_goto (pc := 14) 18 dX6_arePrintedAlike_14 rfl ?_
        refine x_retv (pc := 18) ⟨dX6_arePrintedAlike_18, Or.inr ⟨rfl, (by decide)⟩⟩ ?_
        by_cases hk : kAlike h a b
        · rw [zb_t hk] at hq
          first
            | exact hq
            | (exfalso; rcases hk with hk | ⟨qa, qb, q1, q2, q3⟩ <;> first | omega | contradiction)
        · rw [zb_f hk] at hq
          first
            | exact hq
            | (exfalso; exact hk (Or.inl ⟨by omega, by omega⟩))
            | (exfalso; exact hk (Or.inr ⟨by omega, by omega, by assumption, by assumption, by assumption⟩))

def zRefuse (h : zH) (x zone day : Int) : Int := if ¬ (0 ≤ zone ∧ zone ≤ 9) ∨ day < 0 ∨ 9999999 < day then -1000002 else if h x 7 = 0 then -1000003 else 0


set_option maxHeartbeats 4000000 in
set_option maxRecDepth 100000 in
theorem c_refuse {x zone day : Int} (hX : isXT ty x) (hz : i32 zone) (hd : i64 day) (hc : 0 ≤ h x 7 ∧ h x 7 ≤ 5) (hq : Q (some (iV (zRefuse h x zone day))) ty sz h) : zXM D mX6_pricingRefusal (d + 2) 0 0 [rV x, iV zone, lV day] ty sz h Q := by
  have hX0 := hX
  obtain ⟨x9, x0, hR, hP, hB, hB2, x14, x15, hEd⟩ := hX
  unfold zRefuse at hq
  refine x_iload_n (pc := 0) dX6_pricingRefusal_0 rfl ?_
  refine x_callS1 (pc := 1) dX6_pricingRefusal_1 (k_RX6_70 _ rfl) tms_X6_isName rfl rfl ?_
  refine c_isName (by omega) ?_
  dsimp only [Option.toList, List.cons_append, List.nil_append]
  refine x_if_eq (pc := 4) 21 dX6_pricingRefusal_4 rfl (fun c_4 => ?_) (fun c_4 => ?_)
  · (try simp (disch := omega) only [zb_e0, zb_n0, w32_id, w64_id, ne_eq, Classical.not_not] at c_4)
    refine x_ldc (pc := 21) dX6_pricingRefusal_21 (-1000002) tc_RX6_77 (by decide) ?_
    refine x_retv (pc := 23) ⟨dX6_pricingRefusal_23, Or.inl rfl⟩ ?_
    rw [if_pos (by omega)] at hq
    exact hq
  · (try simp (disch := omega) only [zb_e0, zb_n0, w32_id, w64_id, ne_eq, Classical.not_not] at c_4)
    refine x_lload_n (pc := 7) dX6_pricingRefusal_7 rfl ?_
    refine x_lconst (pc := 8) dX6_pricingRefusal_8 0 (by decide) ?_
    refine x_lcmp_lt (pc := 9) 21 dX6_pricingRefusal_9 dX6_pricingRefusal_10 rfl (fun c_9 => ?_) (fun c_9 => ?_)
    · (try simp (disch := omega) only [zb_e0, zb_n0, w32_id, w64_id, ne_eq, Classical.not_not] at c_9)
      refine x_ldc (pc := 21) dX6_pricingRefusal_21 (-1000002) tc_RX6_77 (by decide) ?_
      refine x_retv (pc := 23) ⟨dX6_pricingRefusal_23, Or.inl rfl⟩ ?_
      rw [if_pos (by omega)] at hq
      exact hq
    · (try simp (disch := omega) only [zb_e0, zb_n0, w32_id, w64_id, ne_eq, Classical.not_not] at c_9)
      refine x_lload_n (pc := 13) dX6_pricingRefusal_13 rfl ?_
      refine x_ldc2 (pc := 14) dX6_pricingRefusal_14 (9999999) tc_RX6_167 (by decide) ?_
      refine x_lcmp_le (pc := 17) 24 dX6_pricingRefusal_17 dX6_pricingRefusal_18 rfl (fun c_17 => ?_) (fun c_17 => ?_)
      · (try simp (disch := omega) only [zb_e0, zb_n0, w32_id, w64_id, ne_eq, Classical.not_not] at c_17)
        refine x_aload_n (pc := 24) dX6_pricingRefusal_24 rfl ?_
        refine x_callV0 (pc := 25) dX6_pricingRefusal_25 (k_RX6_104 _ rfl) tmv_X6_latest (by assumption) rfl rfl rfl ?_
        have hF : ∀ r, (r < 0 ↔ h x 7 = 0) → zX D mX6_pricingRefusal (d + 2) 0 0 28 [(0, rV x), (1, iV zone), (2, lV day)] [rV r] ty sz h Q := by
          intro r hr
          refine x_ifnonnull (pc := 28) 36 dX6_pricingRefusal_28 rfl (fun c_28 => ?_) (fun c_28 => ?_)
          · refine x_iconst (pc := 36) dX6_pricingRefusal_36 ?_
            refine x_retv (pc := 37) ⟨dX6_pricingRefusal_37, Or.inl rfl⟩ ?_
            rw [if_neg (by omega), if_neg (fun q => by have := hr.mpr q; omega)] at hq
            exact hq
          · refine x_ldc (pc := 31) dX6_pricingRefusal_31 (-1000003) tc_RX6_148 (by decide) ?_
            refine x_goto (pc := 33) 37 dX6_pricingRefusal_33 rfl ?_
            refine x_retv (pc := 37) ⟨dX6_pricingRefusal_37, Or.inl rfl⟩ ?_
            rw [if_neg (by omega), if_pos (hr.mp (by omega))] at hq
            exact hq
        refine c_latest hX0 hc (fun c => ?_) (fun c => ?_)
        · exact hF (-1) (by omega)
        · exact hF _ (by omega)
      · (try simp (disch := omega) only [zb_e0, zb_n0, w32_id, w64_id, ne_eq, Classical.not_not] at c_17)
        refine x_ldc (pc := 21) dX6_pricingRefusal_21 (-1000002) tc_RX6_77 (by decide) ?_
        refine x_retv (pc := 23) ⟨dX6_pricingRefusal_23, Or.inl rfl⟩ ?_
        rw [if_pos (by omega)] at hq
        exact hq

abbrev PT := Int × Int × Int
def BillIs (h : zH) (b : Int) (pl : List PT) (tot : Int) : Prop := h b 3 = pl.length ∧ h b 4 = tot ∧ ∀ (i : Nat) (q : PT), pl[i]? = some q → h (b + 1) i = q.1 ∧ h (b + 2) i = q.2.1 ∧ h (b + 3) i = q.2.2
theorem BillIs.fr {h h' : zH} {b tot : Int} {pl : List PT} (hB : BillIs h b pl tot) (hf : ∀ q, b ≤ q → q ≤ b + 3 → h' q = h q) : BillIs h' b pl tot := by
  unfold BillIs at *
  rw [hf b (by omega) (by omega), hf (b + 1) (by omega) (by omega), hf (b + 2) (by omega) (by omega), hf (b + 3) (by omega) (by omega)]
  exact hB

set_option maxHeartbeats 4000000 in
set_option maxRecDepth 100000 in
theorem c_b_add {b s u m tot : Int} {pl : List PT} (hb : isBT ty b) (hs : i32 s ∧ i32 u ∧ i32 m) (hB : BillIs h b pl tot) (hn : pl.length < 13) (ht : i64 tot ∧ i64 (tot + u)) (hq : ∀ h', Fr b (b + 3) h h' → BillIs h' b (pl ++ [(s, u, m)]) (tot + u) → Q none ty sz h') : zXM D mX0_add (d + 1) 0 0 [rV b, iV s, lV u, iV m] ty sz h Q := by
  obtain ⟨b9, b0, b1, b2, b3⟩ := hb
  obtain ⟨p3, p4, p5⟩ := hB
  refine x_aload_n (pc := 0) dX0_add_0 rfl ?_
  refine x_getF (pc := 1) dX0_add_1 f_RX0_9 (by assumption) (by rfl) ?_
  refine x_aload_n (pc := 4) dX0_add_4 rfl ?_
  refine y_getI 3 (pc := 5) dX0_add_5 f_RX0_27 (by assumption) rfl (fun b_5 => ?_)
  refine x_iload_n (pc := 8) dX0_add_8 rfl ?_
  refine x_callS3 (pc := 9) dX0_add_9 (k_RX0_81 _ rfl) tms_X6_put rfl rfl ?_
  refine c_put (N := 13) (by omega) (by omega) (by omega) (by assumption) (by decide) (by omega) ?_
  dsimp only [Option.toList, List.cons_append, List.nil_append]
  refine x_aload_n (pc := 12) dX0_add_12 rfl ?_
  refine x_getF (pc := 13) dX0_add_13 f_RX0_15 (by assumption) (by rfl) ?_
  refine x_aload_n (pc := 16) dX0_add_16 rfl ?_
  refine y_getI 3 (pc := 17) dX0_add_17 f_RX0_27 (by assumption) rfl (fun b_17 => ?_)
  refine x_lload_n (pc := 20) dX0_add_20 rfl ?_
  refine x_l2i (pc := 21) dX0_add_21 ?_
  refine x_callS3 (pc := 22) dX0_add_22 (k_RX0_81 _ rfl) tms_X6_put rfl rfl ?_
  rw [zup_ne (by omega)]
  refine c_put (N := 13) (by omega) (by omega) (by omega) (by assumption) (by decide) (by omega) ?_
  dsimp only [Option.toList, List.cons_append, List.nil_append]
  refine x_aload_n (pc := 25) dX0_add_25 rfl ?_
  refine x_getF (pc := 26) dX0_add_26 f_RX0_18 (by assumption) (by rfl) ?_
  refine x_aload_n (pc := 29) dX0_add_29 rfl ?_
  refine y_getI 3 (pc := 30) dX0_add_30 f_RX0_27 (by assumption) rfl (fun b_30 => ?_)
  refine x_iload (pc := 33) dX0_add_33 rfl ?_
  refine x_callS3 (pc := 35) dX0_add_35 (k_RX0_81 _ rfl) tms_X6_put rfl rfl ?_
  rw [zup_ne (by omega), zup_ne (by omega)]
  refine c_put (N := 13) (by omega) (by omega) (by omega) (by assumption) (by decide) (by omega) ?_
  dsimp only [Option.toList, List.cons_append, List.nil_append]
  refine x_aload_n (pc := 38) dX0_add_38 rfl ?_
  refine x_dup (pc := 39) dX0_add_39 rfl ?_
  refine y_getI 3 (pc := 40) dX0_add_40 f_RX0_27 (by assumption) rfl (fun b_40 => ?_)
  refine x_iconst (pc := 43) dX0_add_43 ?_
  rw [zup_ne (by omega), zup_ne (by omega), zup_ne (by omega)]
  refine x_iadd (pc := 44) dX0_add_44 ?_
  refine y_putI 3 (pc := 45) dX0_add_45 f_RX0_27 (by assumption) rfl (by rfl) (by omega) rfl ?_
  refine x_aload_n (pc := 48) dX0_add_48 rfl ?_
  refine x_dup (pc := 49) dX0_add_49 rfl ?_
  refine y_getL 4 (pc := 50) dX0_add_50 f_RX0_23 (by assumption) rfl (fun b_50 => ?_)
  refine x_lload_n (pc := 53) dX0_add_53 rfl ?_
  have e9 : (zup (zup (zup (zup h (b + 1) (h b 3) s) (b + 2) (h b 3) u) (b + 3) (h b 3) m) b 3 (h b 3 + 1)) b 4 = h b 4 := by simp [zup_app, zo1, zo2, zo3]
  rw [e9]
  refine x_ladd (pc := 54) dX0_add_54 ?_
  refine y_putL 4 (pc := 55) dX0_add_55 f_RX0_23 (by assumption) rfl (by rfl) (by omega) rfl ?_
  refine x_ret (pc := 58) ⟨dX0_add_58, rfl⟩ ?_
  refine hq _ ?_ ?_
  · exact ((((Fr.rf _ _ _).up (by omega) (by omega)).up (by omega) (by omega)).up (by omega) (by omega) |>.up (by omega) (by omega)).up (by omega) (by omega)
  · refine ⟨?_, ?_, ?_⟩
    · simp [zup_app, zo1, zo2, zo3, p3]
    · simp [zup_app, zo1, zo2, zo3, p4]
    · intro i q hi
      rw [p3]
      by_cases hl : i < pl.length
      · rw [List.getElem?_append_left hl] at hi
        have := p5 i q hi
        have e : ¬ ((i : Int) = pl.length) := by omega
        simp [zup_app, zo1, zo2, zo3, e, this]
      · rw [List.getElem?_append_right (by omega)] at hi
        have h0 : i - pl.length = 0 := by
          have := (List.getElem?_eq_some_iff.mp hi).1
          simp at this
          omega
        rw [h0] at hi
        cases hi
        have e : i = pl.length := by omega
        subst e
        simp [zup_app, zo1, zo2, zo3]

set_option maxHeartbeats 4000000 in
set_option maxRecDepth 100000 in
theorem c_b_tell {b i q tot : Int} {pl : List PT} (hb : isBT ty b) (hi : i32 i ∧ i32 q) (hB : BillIs h b pl tot) (hn : pl.length ≤ 13) (hq : Q (some (iV (if 0 ≤ i ∧ i < pl.length ∧ q = 0 then h (b + 1) i else if 0 ≤ i ∧ i < pl.length ∧ q = 1 then h (b + 2) i else if 0 ≤ i ∧ i < pl.length ∧ q = 2 then h (b + 3) i else -1))) ty sz h) : zXM D mX0_tell (d + 1) 0 0 [rV b, iV i, iV q] ty sz h Q := by
  obtain ⟨b9, b0, b1, b2, b3⟩ := hb
  obtain ⟨p3, p4, p5⟩ := hB
  refine x_iload_n (pc := 0) dX0_tell_0 rfl ?_
  refine x_if_lt (pc := 1) 12 dX0_tell_1 rfl (fun c_1 => ?_) (fun c_1 => ?_)
  · (try simp (disch := omega) only [zb_e0, zb_n0, w32_id, w64_id, ne_eq, Classical.not_not] at c_1)
    refine x_iconst (pc := 12) dX0_tell_12 ?_
    refine x_retv (pc := 13) ⟨dX0_tell_13, Or.inl rfl⟩ ?_
    first
      | (rw [if_neg (by omega), if_neg (by omega), if_neg (by omega)] at hq; exact hq)
      | (rw [if_pos (by omega)] at hq; exact hq)
      | (rw [if_neg (by omega), if_pos (by omega)] at hq; exact hq)
      | (rw [if_neg (by omega), if_neg (by omega), if_pos (by omega)] at hq; exact hq)
  · (try simp (disch := omega) only [zb_e0, zb_n0, w32_id, w64_id, ne_eq, Classical.not_not] at c_1)
    refine x_iload_n (pc := 4) dX0_tell_4 rfl ?_
    refine x_aload_n (pc := 5) dX0_tell_5 rfl ?_
    refine y_getI 3 (pc := 6) dX0_tell_6 f_RX0_27 (by assumption) rfl (fun b_6 => ?_)
    refine x_icmp_lt (pc := 9) 14 dX0_tell_9 rfl (fun c_9 => ?_) (fun c_9 => ?_)
    · (try simp (disch := omega) only [zb_e0, zb_n0, w32_id, w64_id, ne_eq, Classical.not_not] at c_9)
      refine x_iload_n (pc := 14) dX0_tell_14 rfl ?_
      refine sw_X0_tell_15 (fun t_15 => ?_) (fun t_15 => ?_) (fun t_15 => ?_) (fun t_15 => ?_)
      · (try simp (disch := omega) only [zb_e0, zb_n0, w32_id, w64_id, ne_eq, Classical.not_not] at t_15)
        refine x_aload_n (pc := 40) dX0_tell_40 rfl ?_
        refine x_getF (pc := 41) dX0_tell_41 f_RX0_9 (by assumption) (by rfl) ?_
        refine x_iload_n (pc := 44) dX0_tell_44 rfl ?_
        refine x_callS2 (pc := 45) dX0_tell_45 (k_RX0_52 _ rfl) tms_X6_cell rfl rfl ?_
        refine c_cellIn (N := 13) (by omega) (by omega) (by assumption) (by decide) (by omega) (fun bb => ?_)
        dsimp only [Option.toList, List.cons_append, List.nil_append]
        refine x_retv (pc := 48) ⟨dX0_tell_48, Or.inl rfl⟩ ?_
        first
          | (rw [if_neg (by omega), if_neg (by omega), if_neg (by omega)] at hq; exact hq)
          | (rw [if_pos (by omega)] at hq; exact hq)
          | (rw [if_neg (by omega), if_pos (by omega)] at hq; exact hq)
          | (rw [if_neg (by omega), if_neg (by omega), if_pos (by omega)] at hq; exact hq)
      · (try simp (disch := omega) only [zb_e0, zb_n0, w32_id, w64_id, ne_eq, Classical.not_not] at t_15)
        refine x_aload_n (pc := 49) dX0_tell_49 rfl ?_
        refine x_getF (pc := 50) dX0_tell_50 f_RX0_15 (by assumption) (by rfl) ?_
        refine x_iload_n (pc := 53) dX0_tell_53 rfl ?_
        refine x_callS2 (pc := 54) dX0_tell_54 (k_RX0_52 _ rfl) tms_X6_cell rfl rfl ?_
        refine c_cellIn (N := 13) (by omega) (by omega) (by assumption) (by decide) (by omega) (fun bb => ?_)
        dsimp only [Option.toList, List.cons_append, List.nil_append]
        refine x_retv (pc := 57) ⟨dX0_tell_57, Or.inl rfl⟩ ?_
        first
          | (rw [if_neg (by omega), if_neg (by omega), if_neg (by omega)] at hq; exact hq)
          | (rw [if_pos (by omega)] at hq; exact hq)
          | (rw [if_neg (by omega), if_pos (by omega)] at hq; exact hq)
          | (rw [if_neg (by omega), if_neg (by omega), if_pos (by omega)] at hq; exact hq)
      · (try simp (disch := omega) only [zb_e0, zb_n0, w32_id, w64_id, ne_eq, Classical.not_not] at t_15)
        refine x_aload_n (pc := 58) dX0_tell_58 rfl ?_
        refine x_getF (pc := 59) dX0_tell_59 f_RX0_18 (by assumption) (by rfl) ?_
        refine x_iload_n (pc := 62) dX0_tell_62 rfl ?_
        refine x_callS2 (pc := 63) dX0_tell_63 (k_RX0_52 _ rfl) tms_X6_cell rfl rfl ?_
        refine c_cellIn (N := 13) (by omega) (by omega) (by assumption) (by decide) (by omega) (fun bb => ?_)
        dsimp only [Option.toList, List.cons_append, List.nil_append]
        refine x_retv (pc := 66) ⟨dX0_tell_66, Or.inl rfl⟩ ?_
        first
          | (rw [if_neg (by omega), if_neg (by omega), if_neg (by omega)] at hq; exact hq)
          | (rw [if_pos (by omega)] at hq; exact hq)
          | (rw [if_neg (by omega), if_pos (by omega)] at hq; exact hq)
          | (rw [if_neg (by omega), if_neg (by omega), if_pos (by omega)] at hq; exact hq)
      · (try simp (disch := omega) only [zb_e0, zb_n0, w32_id, w64_id, ne_eq, Classical.not_not] at t_15)
        refine x_iconst (pc := 67) dX0_tell_67 ?_
        refine x_retv (pc := 68) ⟨dX0_tell_68, Or.inl rfl⟩ ?_
        first
          | (rw [if_neg (by omega), if_neg (by omega), if_neg (by omega)] at hq; exact hq)
          | (rw [if_pos (by omega)] at hq; exact hq)
          | (rw [if_neg (by omega), if_pos (by omega)] at hq; exact hq)
          | (rw [if_neg (by omega), if_neg (by omega), if_pos (by omega)] at hq; exact hq)
    · (try simp (disch := omega) only [zb_e0, zb_n0, w32_id, w64_id, ne_eq, Classical.not_not] at c_9)
      refine x_iconst (pc := 12) dX0_tell_12 ?_
      refine x_retv (pc := 13) ⟨dX0_tell_13, Or.inl rfl⟩ ?_
      first
        | (rw [if_neg (by omega), if_neg (by omega), if_neg (by omega)] at hq; exact hq)
        | (rw [if_pos (by omega)] at hq; exact hq)
        | (rw [if_neg (by omega), if_pos (by omega)] at hq; exact hq)
        | (rw [if_neg (by omega), if_neg (by omega), if_pos (by omega)] at hq; exact hq)

end C5
