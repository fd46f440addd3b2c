section C10
variable {D : va_G} {d : Nat} {ty : zT} {sz : Nat} {h : zH} {Q : zQ}
def lookT (T : List Int) (p : Int) : Int := (T[p.toNat]?).getD (-1)
def TxOK (T : List Int) : Prop := T.length ≤ 1500 ∧ ∀ c ∈ T, 0 ≤ c ∧ c ≤ 126
theorem lookT_rng {T : List Int} (hT : TxOK T) (p : Int) : -1 ≤ lookT T p ∧ lookT T p ≤ 126 := by
  unfold lookT
  cases hq : T[p.toNat]? with
  | none => simp
  | some c =>
    have := hT.2 c (List.mem_of_getElem? hq)
    simp only [Option.getD_some]
    omega
theorem lookT_out {T : List Int} {p : Int} (h : (T.length : Int) ≤ p) : lookT T p = -1 := by
  unfold lookT
  rw [List.getElem?_eq_none (by omega)]
  rfl
theorem lookT_in {T : List Int} {p : Int} {h : zH} {r : Int} (hP : PrIs h r T) (h0 : 0 ≤ p) (h1 : p < T.length) : h (r + 1) p = lookT T p := by
  unfold lookT
  have hl : p.toNat < T.length := by omega
  have := hP.2 p.toNat T[p.toNat] (List.getElem?_eq_getElem hl)
  rw [List.getElem?_eq_getElem hl, Option.getD_some]
  rw [← this]
  congr 1
  omega
theorem lookT_inT {T : List Int} {p : Int} (hT : TxOK T) (h0 : 0 ≤ p) (h1 : p < T.length) : 0 ≤ lookT T p := by
  unfold lookT
  have hl : p.toNat < T.length := by omega
  rw [List.getElem?_eq_getElem hl, Option.getD_some]
  exact (hT.2 _ (List.getElem_mem hl)).1

set_option maxHeartbeats 4000000 in
set_option maxRecDepth 100000 in
theorem c_r_append {r c : Int} {T : List Int} (hR : isRT ty r) (hc : i32 c) (hP : PrIs h r T) (hT : T.length ≤ 1500) (hq : ∀ h', Fr r (r + 2) h h' → PrIs h' r (if T.length < 1500 then T ++ [c] else T) → Q none ty sz h') : zXM D mX5_append (d + 1) 0 0 [rV r, iV c] ty sz h Q := by
  obtain ⟨r9, r0, r1, r2⟩ := hR
  have hl := hP.1
  refine x_aload_n (pc := 0) dX5_append_0 rfl ?_
  refine y_getI 1 (pc := 1) dX5_append_1 f_RX5_18 (by assumption) rfl (fun b_1 => ?_)
  refine x_sipush (pc := 4) dX5_append_4 (by decide) ?_
  refine x_icmp_ge (pc := 7) 32 dX5_append_7 rfl (fun c_7 => ?_) (fun c_7 => ?_)
  · (try simp (disch := omega) only [zb_e0, zb_n0, w32_id, w64_id, ne_eq, Classical.not_not] at c_7)
    refine x_ret (pc := 32) ⟨dX5_append_32, rfl⟩ ?_
    first
      | (rw [if_neg (by omega)] at hq
         exact hq h (Fr.rf _ _ _) hP)
      | (rw [if_pos (by omega)] at hq
         refine hq _ (((Fr.rf _ _ _).up (by omega) (by omega)).up (by omega) (by omega)) ?_
         have := hP.push (c := c)
         rw [hl]
         exact this)
  · (try simp (disch := omega) only [zb_e0, zb_n0, w32_id, w64_id, ne_eq, Classical.not_not] at c_7)
    refine x_aload_n (pc := 10) dX5_append_10 rfl ?_
    refine x_getF (pc := 11) dX5_append_11 f_RX5_9 (by assumption) (by rfl) ?_
    refine x_aload_n (pc := 14) dX5_append_14 rfl ?_
    refine y_getI 1 (pc := 15) dX5_append_15 f_RX5_18 (by assumption) rfl (fun b_15 => ?_)
    refine x_iload_n (pc := 18) dX5_append_18 rfl ?_
    refine x_callS3 (pc := 19) dX5_append_19 (k_RX5_22 _ rfl) tms_X6_put rfl rfl ?_
    refine c_put (N := 1500) (by omega) (by omega) (by omega) (by assumption) (by decide) (by omega) ?_
    dsimp only [Option.toList, List.cons_append, List.nil_append]
    refine x_aload_n (pc := 22) dX5_append_22 rfl ?_
    refine x_dup (pc := 23) dX5_append_23 rfl ?_
    refine y_getI 1 (pc := 24) dX5_append_24 f_RX5_18 (by assumption) rfl (fun b_24 => ?_)
    rw [zup_ne (by omega)]
    refine x_iconst (pc := 27) dX5_append_27 ?_
    refine x_iadd (pc := 28) dX5_append_28 ?_
    refine y_putI 1 (pc := 29) dX5_append_29 f_RX5_18 (by assumption) rfl (by rfl) (by omega) rfl ?_
    refine x_ret (pc := 32) ⟨dX5_append_32, rfl⟩ ?_
    first
      | (rw [if_neg (by omega)] at hq
         exact hq h (Fr.rf _ _ _) hP)
      | (rw [if_pos (by omega)] at hq
         refine hq _ (((Fr.rf _ _ _).up (by omega) (by omega)).up (by omega) (by omega)) ?_
         have := hP.push (c := c)
         rw [hl]
         exact this)

set_option maxHeartbeats 4000000 in
set_option maxRecDepth 100000 in
theorem c_r_empty {r : Int} (hR : isRT ty r) (hq : ∀ h', Fr r (r + 2) h h' → PrIs h' r [] → Q none ty sz h') : zXM D mX5_empty d 0 0 [rV r] ty sz h Q := by
  obtain ⟨r9, r0, r1, r2⟩ := hR
  refine x_aload_n (pc := 0) dX5_empty_0 rfl ?_
  refine x_iconst (pc := 1) dX5_empty_1 ?_
  refine y_putI 1 (pc := 2) dX5_empty_2 f_RX5_18 (by assumption) rfl (by rfl) (by omega) rfl ?_
  refine x_ret (pc := 5) ⟨dX5_empty_5, rfl⟩ ?_
  exact hq _ ((Fr.rf _ _ _).up (by omega) (by omega)) ⟨by simp [zup_app], fun i q hi => by simp at hi⟩

set_option maxHeartbeats 4000000 in
set_option maxRecDepth 100000 in
theorem c_r_look {r : Int} {T : List Int} (hR : isRT ty r) (hP : PrIs h r T) (hT : TxOK T) (hp : 0 ≤ h r 2) (hq : Q (some (iV (lookT T (h r 2)))) ty sz h) : zXM D mX5_signHere (d + 1) 0 0 [rV r] ty sz h Q := by
  obtain ⟨r9, r0, r1, r2⟩ := hR
  have hl := hP.1
  have hl2 := hT.1
  refine x_aload_n (pc := 0) dX5_signHere_0 rfl ?_
  refine y_getI 2 (pc := 1) dX5_signHere_1 f_RX5_39 (by assumption) rfl (fun b_1 => ?_)
  refine x_aload_n (pc := 4) dX5_signHere_4 rfl ?_
  refine y_getI 1 (pc := 5) dX5_signHere_5 f_RX5_18 (by assumption) rfl (fun b_5 => ?_)
  refine x_icmp_ge (pc := 8) 25 dX5_signHere_8 rfl (fun c_8 => ?_) (fun c_8 => ?_)
  · (try simp (disch := omega) only [zb_e0, zb_n0, w32_id, w64_id, ne_eq, Classical.not_not] at c_8)
    refine x_iconst (pc := 25) dX5_signHere_25 ?_
    refine x_retv (pc := 26) ⟨dX5_signHere_26, Or.inl rfl⟩ ?_
    first | exact hq | (rw [lookT_out (by omega)] at hq; exact hq)
  · (try simp (disch := omega) only [zb_e0, zb_n0, w32_id, w64_id, ne_eq, Classical.not_not] at c_8)
    refine x_aload_n (pc := 11) dX5_signHere_11 rfl ?_
    refine x_getF (pc := 12) dX5_signHere_12 f_RX5_9 (by assumption) (by rfl) ?_
    refine x_aload_n (pc := 15) dX5_signHere_15 rfl ?_
    refine y_getI 2 (pc := 16) dX5_signHere_16 f_RX5_39 (by assumption) rfl (fun b_16 => ?_)
    refine x_callS2 (pc := 19) dX5_signHere_19 (k_RX5_76 _ rfl) tms_X6_cell rfl rfl ?_
    refine c_cellIn (N := 1500) (by omega) (by omega) (by assumption) (by decide) (by omega) (fun bb => ?_)
    rw [lookT_in hP hp (by omega)]
    dsimp only [Option.toList, List.cons_append, List.nil_append]
    refine x_goto (pc := 22) 26 dX5_signHere_22 rfl ?_
    refine x_retv (pc := 26) ⟨dX5_signHere_26, Or.inl rfl⟩ ?_
    first | exact hq | (rw [lookT_out (by omega)] at hq; exact hq)

set_option maxHeartbeats 4000000 in
set_option maxRecDepth 100000 in
theorem c_r_expect {r c : Int} {T : List Int} (hR : isRT ty r) (hP : PrIs h r T) (hT : TxOK T) (hc : i32 c) (hp : 0 ≤ h r 2 ∧ h r 2 ≤ 2000) (hF : h r 3 ≠ -1 → Q none ty sz h) (hY : h r 3 = -1 → lookT T (h r 2) = c → Q none ty sz (zup h r 2 (h r 2 + 1))) (hN : h r 3 = -1 → lookT T (h r 2) ≠ c → Q none ty sz (zup h r 3 (h r 2))) : zXM D mX5_expect (d + 2) 0 0 [rV r, iV c] ty sz h Q := by
  have hR0 := hR
  obtain ⟨r9, r0, r1, r2⟩ := hR
  have hlr := lookT_rng hT (h r 2)
  refine x_aload_n (pc := 0) dX5_expect_0 rfl ?_
  refine y_getI 3 (pc := 1) dX5_expect_1 f_RX5_42 (by assumption) rfl (fun b_1 => ?_)
  refine x_iconst (pc := 4) dX5_expect_4 ?_
  refine x_icmp_eq (pc := 5) 9 dX5_expect_5 rfl (fun c_5 => ?_) (fun c_5 => ?_)
  · (try simp (disch := omega) only [zb_e0, zb_n0, w32_id, w64_id, ne_eq, Classical.not_not] at c_5)
    refine x_aload_n (pc := 9) dX5_expect_9 rfl ?_
    refine x_callV0 (pc := 10) dX5_expect_10 (k_RX5_57 _ rfl) tmv_X5_signHere (by assumption) rfl rfl rfl ?_
    refine c_r_look hR0 hP hT hp.1 ?_
    dsimp only [Option.toList, List.cons_append, List.nil_append]
    refine x_iload_n (pc := 13) dX5_expect_13 rfl ?_
    refine x_icmp_ne (pc := 14) 30 dX5_expect_14 rfl (fun c_14 => ?_) (fun c_14 => ?_)
    · (try simp (disch := omega) only [zb_e0, zb_n0, w32_id, w64_id, ne_eq, Classical.not_not] at c_14)
      refine x_aload_n (pc := 30) dX5_expect_30 rfl ?_
      refine x_aload_n (pc := 31) dX5_expect_31 rfl ?_
      refine y_getI 2 (pc := 32) dX5_expect_32 f_RX5_39 (by assumption) rfl (fun b_32 => ?_)
      refine y_putI 3 (pc := 35) dX5_expect_35 f_RX5_42 (by assumption) rfl (by rfl) (by omega) rfl ?_
      refine x_ret (pc := 38) ⟨dX5_expect_38, rfl⟩ ?_
      first | exact hY (by assumption) (by assumption) | exact hN (by assumption) (by assumption)
    · (try simp (disch := omega) only [zb_e0, zb_n0, w32_id, w64_id, ne_eq, Classical.not_not] at c_14)
      refine x_aload_n (pc := 17) dX5_expect_17 rfl ?_
      refine x_dup (pc := 18) dX5_expect_18 rfl ?_
      refine y_getI 2 (pc := 19) dX5_expect_19 f_RX5_39 (by assumption) rfl (fun b_19 => ?_)
      refine x_iconst (pc := 22) dX5_expect_22 ?_
      refine x_iadd (pc := 23) dX5_expect_23 ?_
      refine y_putI 2 (pc := 24) dX5_expect_24 f_RX5_39 (by assumption) rfl (by rfl) (by omega) rfl ?_
      refine x_goto (pc := 27) 38 dX5_expect_27 rfl ?_
      refine x_ret (pc := 38) ⟨dX5_expect_38, rfl⟩ ?_
      first | exact hY (by assumption) (by assumption) | exact hN (by assumption) (by assumption)
  · (try simp (disch := omega) only [zb_e0, zb_n0, w32_id, w64_id, ne_eq, Classical.not_not] at c_5)
    refine x_ret (pc := 8) ⟨dX5_expect_8, rfl⟩ ?_
    exact hF c_5

set_option maxHeartbeats 4000000 in
set_option maxRecDepth 100000 in
theorem c_r_nums {c : Int} (hc : i32 c) (hq : Q (some (iV (nms c))) ty sz h) : zXM D mX5_numbersOf d 0 0 [iV c] ty sz h Q := by
  refine x_iload_n (pc := 0) dX5_numbersOf_0 rfl ?_
  refine sw_X5_numbersOf_1 (fun t_1 => ?_) (fun t_1 => ?_) (fun t_1 => ?_) (fun t_1 => ?_) (fun t_1 => ?_)
  · (try simp (disch := omega) only [zb_e0, zb_n0, w32_id, w64_id, ne_eq, Classical.not_not] at t_1)
    refine x_iconst (pc := 46) dX5_numbersOf_46 ?_
    refine x_retv (pc := 47) ⟨dX5_numbersOf_47, Or.inl rfl⟩ ?_
    first
      | (rw [show nms c = 3 by unfold nms; rw [if_neg (by omega), if_pos (by omega)]] at hq; exact hq)
      | (rw [show nms c = 1 by unfold nms; rw [if_pos (by omega)]] at hq; exact hq)
      | (rw [show nms c = 2 by unfold nms; rw [if_neg (by omega), if_neg (by omega)]] at hq; exact hq)
  · (try simp (disch := omega) only [zb_e0, zb_n0, w32_id, w64_id, ne_eq, Classical.not_not] at t_1)
    refine x_iconst (pc := 44) dX5_numbersOf_44 ?_
    refine x_retv (pc := 45) ⟨dX5_numbersOf_45, Or.inl rfl⟩ ?_
    first
      | (rw [show nms c = 3 by unfold nms; rw [if_neg (by omega), if_pos (by omega)]] at hq; exact hq)
      | (rw [show nms c = 1 by unfold nms; rw [if_pos (by omega)]] at hq; exact hq)
      | (rw [show nms c = 2 by unfold nms; rw [if_neg (by omega), if_neg (by omega)]] at hq; exact hq)
  · (try simp (disch := omega) only [zb_e0, zb_n0, w32_id, w64_id, ne_eq, Classical.not_not] at t_1)
    refine x_iconst (pc := 44) dX5_numbersOf_44 ?_
    refine x_retv (pc := 45) ⟨dX5_numbersOf_45, Or.inl rfl⟩ ?_
    first
      | (rw [show nms c = 3 by unfold nms; rw [if_neg (by omega), if_pos (by omega)]] at hq; exact hq)
      | (rw [show nms c = 1 by unfold nms; rw [if_pos (by omega)]] at hq; exact hq)
      | (rw [show nms c = 2 by unfold nms; rw [if_neg (by omega), if_neg (by omega)]] at hq; exact hq)
  · (try simp (disch := omega) only [zb_e0, zb_n0, w32_id, w64_id, ne_eq, Classical.not_not] at t_1)
    refine x_iconst (pc := 44) dX5_numbersOf_44 ?_
    refine x_retv (pc := 45) ⟨dX5_numbersOf_45, Or.inl rfl⟩ ?_
    first
      | (rw [show nms c = 3 by unfold nms; rw [if_neg (by omega), if_pos (by omega)]] at hq; exact hq)
      | (rw [show nms c = 1 by unfold nms; rw [if_pos (by omega)]] at hq; exact hq)
      | (rw [show nms c = 2 by unfold nms; rw [if_neg (by omega), if_neg (by omega)]] at hq; exact hq)
  · (try simp (disch := omega) only [zb_e0, zb_n0, w32_id, w64_id, ne_eq, Classical.not_not] at t_1)
    refine x_iconst (pc := 48) dX5_numbersOf_48 ?_
    refine x_retv (pc := 49) ⟨dX5_numbersOf_49, Or.inl rfl⟩ ?_
    first
      | (rw [show nms c = 3 by unfold nms; rw [if_neg (by omega), if_pos (by omega)]] at hq; exact hq)
      | (rw [show nms c = 1 by unfold nms; rw [if_pos (by omega)]] at hq; exact hq)
      | (rw [show nms c = 2 by unfold nms; rw [if_neg (by omega), if_neg (by omega)]] at hq; exact hq)

def EdIs (h : zH) (e : Int) (l : List Row) : Prop := ∀ k, 0 ≤ k → k < 10 → KindIs h (e + 2 + 6 * k) (kR k l)
/-- the reader works at the edition e and has read l -/
def RdK (h : zH) (r e : Int) (l : List Row) : Prop := EdIs h e l ∧ h r 4 = e ∧ h r 5 = (if l = [] then -1 else e + 2 + 6 * ck l) ∧ WF l
theorem lastR_nL {c : Int} {l : List Row} : lastR (fun r => r.1 == c) l = none ↔ nL c l = 0 := by
  rw [lastR_none]
  unfold nL
  rw [List.length_eq_zero_iff, List.filter_eq_nil_iff]
theorem fl_none {c : Int} {f : Row → Int} {l : List Row} (hf : ∀ r ∈ l, r.1 = c → f r ≠ -1) : fl c f l = -1 ↔ nL c l = 0 := by
  rw [← lastR_nL]
  unfold fl
  cases hq : lastR (fun r => r.1 == c) l with
  | none => simp
  | some r =>
    have := lastR_mem l hq
    have h2 := hf r this.1 (by simpa using this.2)
    simp [h2]
theorem RdK.cur {h : zH} {r e : Int} {l : List Row} (hk : RdK h r e l) (hl : l ≠ []) : h r 5 = e + 2 + 6 * ck l ∧ (0 ≤ ck l ∧ ck l ≤ 9) ∧ KindIs h (e + 2 + 6 * ck l) (curK l) ∧ cntOK (curK l) ∧ (∀ q ∈ curK l, rowB q) ∧ curK l ≠ [] := by
  obtain ⟨h1, h2, h3, h4⟩ := hk
  rw [if_neg hl] at h3
  have hr := ck_rng l h4 hl
  exact ⟨h3, hr, h1 _ (by omega) (by omega), kR_cnt l h4 _, fun q hq => WF_B l h4 q (kR_sub _ l q hq), kR_cur_ne l hl h4⟩

set_option maxHeartbeats 4000000 in
set_option maxRecDepth 100000 in
theorem c_r_may {r e c : Int} {l : List Row} (hR : isRT ty r) (hE : isET ty e) (hk : RdK h r e l) (hc : i32 c) (hq : Q (some (iV (zb (mayB l c)))) ty sz h) : zXM D mX5_mayBegin d 0 0 [rV r, iV c] ty sz h Q := by
  obtain ⟨r9, r0, r1, r2⟩ := hR
  by_cases hl : l = []
  · have h5 : h r 5 = -1 := by rw [hk.2.2.1, if_pos hl]
    refine x_aload_n (pc := 0) dX5_mayBegin_0 rfl ?_
    refine y_getR 5 (pc := 1) dX5_mayBegin_1 f_RX5_35 (by assumption) rfl ?_
    refine x_ifnonnull (pc := 4) 19 dX5_mayBegin_4 rfl (fun c_4 => by omega) (fun c_4 => ?_)
    refine x_iload_n (pc := 7) dX5_mayBegin_7 rfl ?_
    refine x_bipush (pc := 8) dX5_mayBegin_8 (by decide) ?_
    refine x_icmp_ne (pc := 10) 17 dX5_mayBegin_10 rfl (fun c_10 => ?_) (fun c_10 => ?_)
    · simp (disch := omega) only [w32_id, ne_eq] at c_10
      refine x_iconst (pc := 17) dX5_mayBegin_17 ?_
      refine x_retv (pc := 18) ⟨dX5_mayBegin_18, Or.inr ⟨rfl, (by decide)⟩⟩ ?_
      rw [zb_f (fun q => by unfold mayB at q; simp [hl] at q; omega)] at hq
      exact hq
    · simp (disch := omega) only [w32_id] at c_10
      refine x_iconst (pc := 13) dX5_mayBegin_13 ?_
      refine x_goto (pc := 14) 18 dX5_mayBegin_14 rfl ?_
      refine x_retv (pc := 18) ⟨dX5_mayBegin_18, Or.inr ⟨rfl, (by decide)⟩⟩ ?_
      rw [zb_t (p := mayB l c) (Or.inl ⟨by omega, Or.inl hl⟩)] at hq
      exact hq
  obtain ⟨h5, hck, hKI, hcn, hB, hne⟩ := hk.cur hl
  obtain ⟨k9, k0, -⟩ := hE.2.2.2 (ck l) (by omega) (by omega)
  rw [← h5] at k9 k0 hKI
  obtain ⟨c0, c1, c2, c3, c7, c8, c9, c10, c11, c12, c13, c14⟩ := hKI
  have f68 : h (h r 5) 8 = -1 ↔ nL 68 (curK l) = 0 := by rw [c8]; exact fl_none (fun q q1 q2 => by have := (hB q q1).2.2.2.2.2.2.2.2.1 q2; omega)
  have f77 : h (h r 5) 11 = -1 ↔ nL 77 (curK l) = 0 := by rw [c11]; exact fl_none (fun q q1 q2 => by have := (hB q q1).2.1; omega)
  have f70 : h (h r 5) 12 = -1 ↔ nL 70 (curK l) = 0 := by rw [c12]; exact fl_none (fun q q1 q2 => by have := (hB q q1).2.1; omega)
  have f82 : h (h r 5) 14 = -1 ↔ nL 82 (curK l) = 0 := by rw [c14]; exact fl_none (fun q q1 q2 => by have := (hB q q1).2.1; omega)
  refine x_aload_n (pc := 0) dX5_mayBegin_0 rfl ?_
  refine y_getR 5 (pc := 1) dX5_mayBegin_1 f_RX5_35 (by assumption) rfl ?_
  refine x_ifnonnull (pc := 4) 19 dX5_mayBegin_4 rfl (fun c_4 => ?_) (fun c_4 => ?_)
  · (try simp (disch := omega) only [zb_e0, zb_n0, w32_id, w64_id, ne_eq, Classical.not_not] at c_4)
    refine x_iload_n (pc := 19) dX5_mayBegin_19 rfl ?_
    refine sw_X5_mayBegin_20 (fun t_20 => ?_) (fun t_20 => ?_) (fun t_20 => ?_) (fun t_20 => ?_) (fun t_20 => ?_) (fun t_20 => ?_) (fun t_20 => ?_) (fun t_20 => ?_) (fun t_20 => ?_) (fun t_20 => ?_)
    · (try simp (disch := omega) only [zb_e0, zb_n0, w32_id, w64_id, ne_eq, Classical.not_not] at t_20)
      refine x_aload_n (pc := 182) dX5_mayBegin_182 rfl ?_
      refine y_getR 5 (pc := 183) dX5_mayBegin_183 f_RX5_35 (by assumption) rfl ?_
      refine y_getI 8 (pc := 186) dX5_mayBegin_186 f_RX5_90 (by assumption) rfl (fun b_186 => ?_)
      refine x_iconst (pc := 189) dX5_mayBegin_189 ?_
      refine x_icmp_ne (pc := 190) 197 dX5_mayBegin_190 rfl (fun c_190 => ?_) (fun c_190 => ?_)
      · (try simp (disch := omega) only [zb_e0, zb_n0, w32_id, w64_id, ne_eq, Classical.not_not] at c_190)
        refine x_iconst (pc := 197) dX5_mayBegin_197 ?_
        refine x_retv (pc := 198) ⟨dX5_mayBegin_198, Or.inr ⟨rfl, (by decide)⟩⟩ ?_
        by_cases hm : mayB l c
        · rw [zb_t hm] at hq
          first
            | exact hq
            | (exfalso; unfold mayB at hm; rcases hm with hm | ⟨hm, hm2⟩ <;> first | omega | (simp only [hl, false_or] at hm; omega) | (rcases hm2 with q | q | q | q | ⟨q | q | q | q, q2⟩ <;> first | omega | (rw [q] at q2; omega)))
        · rw [zb_f hm] at hq
          first
            | exact hq
            | (exfalso; apply hm; unfold mayB; first | exact Or.inl ⟨by omega, Or.inr (by omega)⟩ | exact Or.inr ⟨hl, by first | omega | (refine Or.inr (Or.inr (Or.inr (Or.inr ⟨by omega, ?_⟩))); rw [show c = 68 by omega]; omega) | (refine Or.inr (Or.inr (Or.inr (Or.inr ⟨by omega, ?_⟩))); rw [show c = 77 by omega]; omega) | (refine Or.inr (Or.inr (Or.inr (Or.inr ⟨by omega, ?_⟩))); rw [show c = 70 by omega]; omega) | (refine Or.inr (Or.inr (Or.inr (Or.inr ⟨by omega, ?_⟩))); rw [show c = 82 by omega]; omega)⟩)
      · (try simp (disch := omega) only [zb_e0, zb_n0, w32_id, w64_id, ne_eq, Classical.not_not] at c_190)
        refine x_iconst (pc := 193) dX5_mayBegin_193 ?_
        refine x_goto (pc := 194) 198 dX5_mayBegin_194 rfl ?_
        refine x_retv (pc := 198) ⟨dX5_mayBegin_198, Or.inr ⟨rfl, (by decide)⟩⟩ ?_
        by_cases hm : mayB l c
        · rw [zb_t hm] at hq
          first
            | exact hq
            | (exfalso; unfold mayB at hm; rcases hm with hm | ⟨hm, hm2⟩ <;> first | omega | (simp only [hl, false_or] at hm; omega) | (rcases hm2 with q | q | q | q | ⟨q | q | q | q, q2⟩ <;> first | omega | (rw [q] at q2; omega)))
        · rw [zb_f hm] at hq
          first
            | exact hq
            | (exfalso; apply hm; unfold mayB; first | exact Or.inl ⟨by omega, Or.inr (by omega)⟩ | exact Or.inr ⟨hl, by first | omega | (refine Or.inr (Or.inr (Or.inr (Or.inr ⟨by omega, ?_⟩))); rw [show c = 68 by omega]; omega) | (refine Or.inr (Or.inr (Or.inr (Or.inr ⟨by omega, ?_⟩))); rw [show c = 77 by omega]; omega) | (refine Or.inr (Or.inr (Or.inr (Or.inr ⟨by omega, ?_⟩))); rw [show c = 70 by omega]; omega) | (refine Or.inr (Or.inr (Or.inr (Or.inr ⟨by omega, ?_⟩))); rw [show c = 82 by omega]; omega)⟩)
    · (try simp (disch := omega) only [zb_e0, zb_n0, w32_id, w64_id, ne_eq, Classical.not_not] at t_20)
      refine x_aload_n (pc := 164) dX5_mayBegin_164 rfl ?_
      refine y_getR 5 (pc := 165) dX5_mayBegin_165 f_RX5_35 (by assumption) rfl ?_
      refine y_getI 7 (pc := 168) dX5_mayBegin_168 f_RX5_87 (by assumption) rfl (fun b_168 => ?_)
      refine x_bipush (pc := 171) dX5_mayBegin_171 (by decide) ?_
      refine x_icmp_ge (pc := 173) 180 dX5_mayBegin_173 rfl (fun c_173 => ?_) (fun c_173 => ?_)
      · (try simp (disch := omega) only [zb_e0, zb_n0, w32_id, w64_id, ne_eq, Classical.not_not] at c_173)
        refine x_iconst (pc := 180) dX5_mayBegin_180 ?_
        refine x_retv (pc := 181) ⟨dX5_mayBegin_181, Or.inr ⟨rfl, (by decide)⟩⟩ ?_
        by_cases hm : mayB l c
        · rw [zb_t hm] at hq
          first
            | exact hq
            | (exfalso; unfold mayB at hm; rcases hm with hm | ⟨hm, hm2⟩ <;> first | omega | (simp only [hl, false_or] at hm; omega) | (rcases hm2 with q | q | q | q | ⟨q | q | q | q, q2⟩ <;> first | omega | (rw [q] at q2; omega)))
        · rw [zb_f hm] at hq
          first
            | exact hq
            | (exfalso; apply hm; unfold mayB; first | exact Or.inl ⟨by omega, Or.inr (by omega)⟩ | exact Or.inr ⟨hl, by first | omega | (refine Or.inr (Or.inr (Or.inr (Or.inr ⟨by omega, ?_⟩))); rw [show c = 68 by omega]; omega) | (refine Or.inr (Or.inr (Or.inr (Or.inr ⟨by omega, ?_⟩))); rw [show c = 77 by omega]; omega) | (refine Or.inr (Or.inr (Or.inr (Or.inr ⟨by omega, ?_⟩))); rw [show c = 70 by omega]; omega) | (refine Or.inr (Or.inr (Or.inr (Or.inr ⟨by omega, ?_⟩))); rw [show c = 82 by omega]; omega)⟩)
      · (try simp (disch := omega) only [zb_e0, zb_n0, w32_id, w64_id, ne_eq, Classical.not_not] at c_173)
        refine x_iconst (pc := 176) dX5_mayBegin_176 ?_
        refine x_goto (pc := 177) 181 dX5_mayBegin_177 rfl ?_
        refine x_retv (pc := 181) ⟨dX5_mayBegin_181, Or.inr ⟨rfl, (by decide)⟩⟩ ?_
        by_cases hm : mayB l c
        · rw [zb_t hm] at hq
          first
            | exact hq
            | (exfalso; unfold mayB at hm; rcases hm with hm | ⟨hm, hm2⟩ <;> first | omega | (simp only [hl, false_or] at hm; omega) | (rcases hm2 with q | q | q | q | ⟨q | q | q | q, q2⟩ <;> first | omega | (rw [q] at q2; omega)))
        · rw [zb_f hm] at hq
          first
            | exact hq
            | (exfalso; apply hm; unfold mayB; first | exact Or.inl ⟨by omega, Or.inr (by omega)⟩ | exact Or.inr ⟨hl, by first | omega | (refine Or.inr (Or.inr (Or.inr (Or.inr ⟨by omega, ?_⟩))); rw [show c = 68 by omega]; omega) | (refine Or.inr (Or.inr (Or.inr (Or.inr ⟨by omega, ?_⟩))); rw [show c = 77 by omega]; omega) | (refine Or.inr (Or.inr (Or.inr (Or.inr ⟨by omega, ?_⟩))); rw [show c = 70 by omega]; omega) | (refine Or.inr (Or.inr (Or.inr (Or.inr ⟨by omega, ?_⟩))); rw [show c = 82 by omega]; omega)⟩)
    · (try simp (disch := omega) only [zb_e0, zb_n0, w32_id, w64_id, ne_eq, Classical.not_not] at t_20)
      refine x_aload_n (pc := 216) dX5_mayBegin_216 rfl ?_
      refine y_getR 5 (pc := 217) dX5_mayBegin_217 f_RX5_35 (by assumption) rfl ?_
      refine y_getI 12 (pc := 220) dX5_mayBegin_220 f_RX5_96 (by assumption) rfl (fun b_220 => ?_)
      refine x_iconst (pc := 223) dX5_mayBegin_223 ?_
      refine x_icmp_ne (pc := 224) 231 dX5_mayBegin_224 rfl (fun c_224 => ?_) (fun c_224 => ?_)
      · (try simp (disch := omega) only [zb_e0, zb_n0, w32_id, w64_id, ne_eq, Classical.not_not] at c_224)
        refine x_iconst (pc := 231) dX5_mayBegin_231 ?_
        refine x_retv (pc := 232) ⟨dX5_mayBegin_232, Or.inr ⟨rfl, (by decide)⟩⟩ ?_
        by_cases hm : mayB l c
        · rw [zb_t hm] at hq
          first
            | exact hq
            | (exfalso; unfold mayB at hm; rcases hm with hm | ⟨hm, hm2⟩ <;> first | omega | (simp only [hl, false_or] at hm; omega) | (rcases hm2 with q | q | q | q | ⟨q | q | q | q, q2⟩ <;> first | omega | (rw [q] at q2; omega)))
        · rw [zb_f hm] at hq
          first
            | exact hq
            | (exfalso; apply hm; unfold mayB; first | exact Or.inl ⟨by omega, Or.inr (by omega)⟩ | exact Or.inr ⟨hl, by first | omega | (refine Or.inr (Or.inr (Or.inr (Or.inr ⟨by omega, ?_⟩))); rw [show c = 68 by omega]; omega) | (refine Or.inr (Or.inr (Or.inr (Or.inr ⟨by omega, ?_⟩))); rw [show c = 77 by omega]; omega) | (refine Or.inr (Or.inr (Or.inr (Or.inr ⟨by omega, ?_⟩))); rw [show c = 70 by omega]; omega) | (refine Or.inr (Or.inr (Or.inr (Or.inr ⟨by omega, ?_⟩))); rw [show c = 82 by omega]; omega)⟩)
      · (try simp (disch := omega) only [zb_e0, zb_n0, w32_id, w64_id, ne_eq, Classical.not_not] at c_224)
        refine x_iconst (pc := 227) dX5_mayBegin_227 ?_
        refine x_goto (pc := 228) 232 dX5_mayBegin_228 rfl ?_
        refine x_retv (pc := 232) ⟨dX5_mayBegin_232, Or.inr ⟨rfl, (by decide)⟩⟩ ?_
        by_cases hm : mayB l c
        · rw [zb_t hm] at hq
          first
            | exact hq
            | (exfalso; unfold mayB at hm; rcases hm with hm | ⟨hm, hm2⟩ <;> first | omega | (simp only [hl, false_or] at hm; omega) | (rcases hm2 with q | q | q | q | ⟨q | q | q | q, q2⟩ <;> first | omega | (rw [q] at q2; omega)))
        · rw [zb_f hm] at hq
          first
            | exact hq
            | (exfalso; apply hm; unfold mayB; first | exact Or.inl ⟨by omega, Or.inr (by omega)⟩ | exact Or.inr ⟨hl, by first | omega | (refine Or.inr (Or.inr (Or.inr (Or.inr ⟨by omega, ?_⟩))); rw [show c = 68 by omega]; omega) | (refine Or.inr (Or.inr (Or.inr (Or.inr ⟨by omega, ?_⟩))); rw [show c = 77 by omega]; omega) | (refine Or.inr (Or.inr (Or.inr (Or.inr ⟨by omega, ?_⟩))); rw [show c = 70 by omega]; omega) | (refine Or.inr (Or.inr (Or.inr (Or.inr ⟨by omega, ?_⟩))); rw [show c = 82 by omega]; omega)⟩)
    · (try simp (disch := omega) only [zb_e0, zb_n0, w32_id, w64_id, ne_eq, Classical.not_not] at t_20)
      refine x_aload_n (pc := 128) dX5_mayBegin_128 rfl ?_
      refine y_getR 5 (pc := 129) dX5_mayBegin_129 f_RX5_35 (by assumption) rfl ?_
      refine y_getI 1 (pc := 132) dX5_mayBegin_132 f_RX5_52 (by assumption) rfl (fun b_132 => ?_)
      refine x_if_le (pc := 135) 142 dX5_mayBegin_135 rfl (fun c_135 => ?_) (fun c_135 => ?_)
      · (try simp (disch := omega) only [zb_e0, zb_n0, w32_id, w64_id, ne_eq, Classical.not_not] at c_135)
        refine x_iconst (pc := 142) dX5_mayBegin_142 ?_
        refine x_retv (pc := 143) ⟨dX5_mayBegin_143, Or.inr ⟨rfl, (by decide)⟩⟩ ?_
        by_cases hm : mayB l c
        · rw [zb_t hm] at hq
          first
            | exact hq
            | (exfalso; unfold mayB at hm; rcases hm with hm | ⟨hm, hm2⟩ <;> first | omega | (simp only [hl, false_or] at hm; omega) | (rcases hm2 with q | q | q | q | ⟨q | q | q | q, q2⟩ <;> first | omega | (rw [q] at q2; omega)))
        · rw [zb_f hm] at hq
          first
            | exact hq
            | (exfalso; apply hm; unfold mayB; first | exact Or.inl ⟨by omega, Or.inr (by omega)⟩ | exact Or.inr ⟨hl, by first | omega | (refine Or.inr (Or.inr (Or.inr (Or.inr ⟨by omega, ?_⟩))); rw [show c = 68 by omega]; omega) | (refine Or.inr (Or.inr (Or.inr (Or.inr ⟨by omega, ?_⟩))); rw [show c = 77 by omega]; omega) | (refine Or.inr (Or.inr (Or.inr (Or.inr ⟨by omega, ?_⟩))); rw [show c = 70 by omega]; omega) | (refine Or.inr (Or.inr (Or.inr (Or.inr ⟨by omega, ?_⟩))); rw [show c = 82 by omega]; omega)⟩)
      · (try simp (disch := omega) only [zb_e0, zb_n0, w32_id, w64_id, ne_eq, Classical.not_not] at c_135)
        refine x_iconst (pc := 138) dX5_mayBegin_138 ?_
        refine x_goto (pc := 139) 143 dX5_mayBegin_139 rfl ?_
        refine x_retv (pc := 143) ⟨dX5_mayBegin_143, Or.inr ⟨rfl, (by decide)⟩⟩ ?_
        by_cases hm : mayB l c
        · rw [zb_t hm] at hq
          first
            | exact hq
            | (exfalso; unfold mayB at hm; rcases hm with hm | ⟨hm, hm2⟩ <;> first | omega | (simp only [hl, false_or] at hm; omega) | (rcases hm2 with q | q | q | q | ⟨q | q | q | q, q2⟩ <;> first | omega | (rw [q] at q2; omega)))
        · rw [zb_f hm] at hq
          first
            | exact hq
            | (exfalso; apply hm; unfold mayB; first | exact Or.inl ⟨by omega, Or.inr (by omega)⟩ | exact Or.inr ⟨hl, by first | omega | (refine Or.inr (Or.inr (Or.inr (Or.inr ⟨by omega, ?_⟩))); rw [show c = 68 by omega]; omega) | (refine Or.inr (Or.inr (Or.inr (Or.inr ⟨by omega, ?_⟩))); rw [show c = 77 by omega]; omega) | (refine Or.inr (Or.inr (Or.inr (Or.inr ⟨by omega, ?_⟩))); rw [show c = 70 by omega]; omega) | (refine Or.inr (Or.inr (Or.inr (Or.inr ⟨by omega, ?_⟩))); rw [show c = 82 by omega]; omega)⟩)
    · (try simp (disch := omega) only [zb_e0, zb_n0, w32_id, w64_id, ne_eq, Classical.not_not] at t_20)
      refine x_aload_n (pc := 199) dX5_mayBegin_199 rfl ?_
      refine y_getR 5 (pc := 200) dX5_mayBegin_200 f_RX5_35 (by assumption) rfl ?_
      refine y_getI 11 (pc := 203) dX5_mayBegin_203 f_RX5_93 (by assumption) rfl (fun b_203 => ?_)
      refine x_iconst (pc := 206) dX5_mayBegin_206 ?_
      refine x_icmp_ne (pc := 207) 214 dX5_mayBegin_207 rfl (fun c_207 => ?_) (fun c_207 => ?_)
      · (try simp (disch := omega) only [zb_e0, zb_n0, w32_id, w64_id, ne_eq, Classical.not_not] at c_207)
        refine x_iconst (pc := 214) dX5_mayBegin_214 ?_
        refine x_retv (pc := 215) ⟨dX5_mayBegin_215, Or.inr ⟨rfl, (by decide)⟩⟩ ?_
        by_cases hm : mayB l c
        · rw [zb_t hm] at hq
          first
            | exact hq
            | (exfalso; unfold mayB at hm; rcases hm with hm | ⟨hm, hm2⟩ <;> first | omega | (simp only [hl, false_or] at hm; omega) | (rcases hm2 with q | q | q | q | ⟨q | q | q | q, q2⟩ <;> first | omega | (rw [q] at q2; omega)))
        · rw [zb_f hm] at hq
          first
            | exact hq
            | (exfalso; apply hm; unfold mayB; first | exact Or.inl ⟨by omega, Or.inr (by omega)⟩ | exact Or.inr ⟨hl, by first | omega | (refine Or.inr (Or.inr (Or.inr (Or.inr ⟨by omega, ?_⟩))); rw [show c = 68 by omega]; omega) | (refine Or.inr (Or.inr (Or.inr (Or.inr ⟨by omega, ?_⟩))); rw [show c = 77 by omega]; omega) | (refine Or.inr (Or.inr (Or.inr (Or.inr ⟨by omega, ?_⟩))); rw [show c = 70 by omega]; omega) | (refine Or.inr (Or.inr (Or.inr (Or.inr ⟨by omega, ?_⟩))); rw [show c = 82 by omega]; omega)⟩)
      · (try simp (disch := omega) only [zb_e0, zb_n0, w32_id, w64_id, ne_eq, Classical.not_not] at c_207)
        refine x_iconst (pc := 210) dX5_mayBegin_210 ?_
        refine x_goto (pc := 211) 215 dX5_mayBegin_211 rfl ?_
        refine x_retv (pc := 215) ⟨dX5_mayBegin_215, Or.inr ⟨rfl, (by decide)⟩⟩ ?_
        by_cases hm : mayB l c
        · rw [zb_t hm] at hq
          first
            | exact hq
            | (exfalso; unfold mayB at hm; rcases hm with hm | ⟨hm, hm2⟩ <;> first | omega | (simp only [hl, false_or] at hm; omega) | (rcases hm2 with q | q | q | q | ⟨q | q | q | q, q2⟩ <;> first | omega | (rw [q] at q2; omega)))
        · rw [zb_f hm] at hq
          first
            | exact hq
            | (exfalso; apply hm; unfold mayB; first | exact Or.inl ⟨by omega, Or.inr (by omega)⟩ | exact Or.inr ⟨hl, by first | omega | (refine Or.inr (Or.inr (Or.inr (Or.inr ⟨by omega, ?_⟩))); rw [show c = 68 by omega]; omega) | (refine Or.inr (Or.inr (Or.inr (Or.inr ⟨by omega, ?_⟩))); rw [show c = 77 by omega]; omega) | (refine Or.inr (Or.inr (Or.inr (Or.inr ⟨by omega, ?_⟩))); rw [show c = 70 by omega]; omega) | (refine Or.inr (Or.inr (Or.inr (Or.inr ⟨by omega, ?_⟩))); rw [show c = 82 by omega]; omega)⟩)
    · (try simp (disch := omega) only [zb_e0, zb_n0, w32_id, w64_id, ne_eq, Classical.not_not] at t_20)
      refine x_aload_n (pc := 233) dX5_mayBegin_233 rfl ?_
      refine y_getR 5 (pc := 234) dX5_mayBegin_234 f_RX5_35 (by assumption) rfl ?_
      refine y_getI 14 (pc := 237) dX5_mayBegin_237 f_RX5_99 (by assumption) rfl (fun b_237 => ?_)
      refine x_iconst (pc := 240) dX5_mayBegin_240 ?_
      refine x_icmp_ne (pc := 241) 248 dX5_mayBegin_241 rfl (fun c_241 => ?_) (fun c_241 => ?_)
      · (try simp (disch := omega) only [zb_e0, zb_n0, w32_id, w64_id, ne_eq, Classical.not_not] at c_241)
        refine x_iconst (pc := 248) dX5_mayBegin_248 ?_
        refine x_retv (pc := 249) ⟨dX5_mayBegin_249, Or.inr ⟨rfl, (by decide)⟩⟩ ?_
        by_cases hm : mayB l c
        · rw [zb_t hm] at hq
          first
            | exact hq
            | (exfalso; unfold mayB at hm; rcases hm with hm | ⟨hm, hm2⟩ <;> first | omega | (simp only [hl, false_or] at hm; omega) | (rcases hm2 with q | q | q | q | ⟨q | q | q | q, q2⟩ <;> first | omega | (rw [q] at q2; omega)))
        · rw [zb_f hm] at hq
          first
            | exact hq
            | (exfalso; apply hm; unfold mayB; first | exact Or.inl ⟨by omega, Or.inr (by omega)⟩ | exact Or.inr ⟨hl, by first | omega | (refine Or.inr (Or.inr (Or.inr (Or.inr ⟨by omega, ?_⟩))); rw [show c = 68 by omega]; omega) | (refine Or.inr (Or.inr (Or.inr (Or.inr ⟨by omega, ?_⟩))); rw [show c = 77 by omega]; omega) | (refine Or.inr (Or.inr (Or.inr (Or.inr ⟨by omega, ?_⟩))); rw [show c = 70 by omega]; omega) | (refine Or.inr (Or.inr (Or.inr (Or.inr ⟨by omega, ?_⟩))); rw [show c = 82 by omega]; omega)⟩)
      · (try simp (disch := omega) only [zb_e0, zb_n0, w32_id, w64_id, ne_eq, Classical.not_not] at c_241)
        refine x_iconst (pc := 244) dX5_mayBegin_244 ?_
        refine x_goto (pc := 245) 249 dX5_mayBegin_245 rfl ?_
        refine x_retv (pc := 249) ⟨dX5_mayBegin_249, Or.inr ⟨rfl, (by decide)⟩⟩ ?_
        by_cases hm : mayB l c
        · rw [zb_t hm] at hq
          first
            | exact hq
            | (exfalso; unfold mayB at hm; rcases hm with hm | ⟨hm, hm2⟩ <;> first | omega | (simp only [hl, false_or] at hm; omega) | (rcases hm2 with q | q | q | q | ⟨q | q | q | q, q2⟩ <;> first | omega | (rw [q] at q2; omega)))
        · rw [zb_f hm] at hq
          first
            | exact hq
            | (exfalso; apply hm; unfold mayB; first | exact Or.inl ⟨by omega, Or.inr (by omega)⟩ | exact Or.inr ⟨hl, by first | omega | (refine Or.inr (Or.inr (Or.inr (Or.inr ⟨by omega, ?_⟩))); rw [show c = 68 by omega]; omega) | (refine Or.inr (Or.inr (Or.inr (Or.inr ⟨by omega, ?_⟩))); rw [show c = 77 by omega]; omega) | (refine Or.inr (Or.inr (Or.inr (Or.inr ⟨by omega, ?_⟩))); rw [show c = 70 by omega]; omega) | (refine Or.inr (Or.inr (Or.inr (Or.inr ⟨by omega, ?_⟩))); rw [show c = 82 by omega]; omega)⟩)
    · (try simp (disch := omega) only [zb_e0, zb_n0, w32_id, w64_id, ne_eq, Classical.not_not] at t_20)
      refine x_aload_n (pc := 144) dX5_mayBegin_144 rfl ?_
      refine y_getR 5 (pc := 145) dX5_mayBegin_145 f_RX5_35 (by assumption) rfl ?_
      refine y_getI 1 (pc := 148) dX5_mayBegin_148 f_RX5_52 (by assumption) rfl (fun b_148 => ?_)
      refine x_bipush (pc := 151) dX5_mayBegin_151 (by decide) ?_
      refine x_icmp_ge (pc := 153) 160 dX5_mayBegin_153 rfl (fun c_153 => ?_) (fun c_153 => ?_)
      · (try simp (disch := omega) only [zb_e0, zb_n0, w32_id, w64_id, ne_eq, Classical.not_not] at c_153)
        refine x_iconst (pc := 160) dX5_mayBegin_160 ?_
        refine x_retv (pc := 161) ⟨dX5_mayBegin_161, Or.inr ⟨rfl, (by decide)⟩⟩ ?_
        by_cases hm : mayB l c
        · rw [zb_t hm] at hq
          first
            | exact hq
            | (exfalso; unfold mayB at hm; rcases hm with hm | ⟨hm, hm2⟩ <;> first | omega | (simp only [hl, false_or] at hm; omega) | (rcases hm2 with q | q | q | q | ⟨q | q | q | q, q2⟩ <;> first | omega | (rw [q] at q2; omega)))
        · rw [zb_f hm] at hq
          first
            | exact hq
            | (exfalso; apply hm; unfold mayB; first | exact Or.inl ⟨by omega, Or.inr (by omega)⟩ | exact Or.inr ⟨hl, by first | omega | (refine Or.inr (Or.inr (Or.inr (Or.inr ⟨by omega, ?_⟩))); rw [show c = 68 by omega]; omega) | (refine Or.inr (Or.inr (Or.inr (Or.inr ⟨by omega, ?_⟩))); rw [show c = 77 by omega]; omega) | (refine Or.inr (Or.inr (Or.inr (Or.inr ⟨by omega, ?_⟩))); rw [show c = 70 by omega]; omega) | (refine Or.inr (Or.inr (Or.inr (Or.inr ⟨by omega, ?_⟩))); rw [show c = 82 by omega]; omega)⟩)
      · (try simp (disch := omega) only [zb_e0, zb_n0, w32_id, w64_id, ne_eq, Classical.not_not] at c_153)
        refine x_iconst (pc := 156) dX5_mayBegin_156 ?_
        refine x_goto (pc := 157) 161 dX5_mayBegin_157 rfl ?_
        refine x_retv (pc := 161) ⟨dX5_mayBegin_161, Or.inr ⟨rfl, (by decide)⟩⟩ ?_
        by_cases hm : mayB l c
        · rw [zb_t hm] at hq
          first
            | exact hq
            | (exfalso; unfold mayB at hm; rcases hm with hm | ⟨hm, hm2⟩ <;> first | omega | (simp only [hl, false_or] at hm; omega) | (rcases hm2 with q | q | q | q | ⟨q | q | q | q, q2⟩ <;> first | omega | (rw [q] at q2; omega)))
        · rw [zb_f hm] at hq
          first
            | exact hq
            | (exfalso; apply hm; unfold mayB; first | exact Or.inl ⟨by omega, Or.inr (by omega)⟩ | exact Or.inr ⟨hl, by first | omega | (refine Or.inr (Or.inr (Or.inr (Or.inr ⟨by omega, ?_⟩))); rw [show c = 68 by omega]; omega) | (refine Or.inr (Or.inr (Or.inr (Or.inr ⟨by omega, ?_⟩))); rw [show c = 77 by omega]; omega) | (refine Or.inr (Or.inr (Or.inr (Or.inr ⟨by omega, ?_⟩))); rw [show c = 70 by omega]; omega) | (refine Or.inr (Or.inr (Or.inr (Or.inr ⟨by omega, ?_⟩))); rw [show c = 82 by omega]; omega)⟩)
    · (try simp (disch := omega) only [zb_e0, zb_n0, w32_id, w64_id, ne_eq, Classical.not_not] at t_20)
      refine x_iconst (pc := 162) dX5_mayBegin_162 ?_
      refine x_retv (pc := 163) ⟨dX5_mayBegin_163, Or.inr ⟨rfl, (by decide)⟩⟩ ?_
      by_cases hm : mayB l c
      · rw [zb_t hm] at hq
        first
          | exact hq
          | (exfalso; unfold mayB at hm; rcases hm with hm | ⟨hm, hm2⟩ <;> first | omega | (simp only [hl, false_or] at hm; omega) | (rcases hm2 with q | q | q | q | ⟨q | q | q | q, q2⟩ <;> first | omega | (rw [q] at q2; omega)))
      · rw [zb_f hm] at hq
        first
          | exact hq
          | (exfalso; apply hm; unfold mayB; first | exact Or.inl ⟨by omega, Or.inr (by omega)⟩ | exact Or.inr ⟨hl, by first | omega | (refine Or.inr (Or.inr (Or.inr (Or.inr ⟨by omega, ?_⟩))); rw [show c = 68 by omega]; omega) | (refine Or.inr (Or.inr (Or.inr (Or.inr ⟨by omega, ?_⟩))); rw [show c = 77 by omega]; omega) | (refine Or.inr (Or.inr (Or.inr (Or.inr ⟨by omega, ?_⟩))); rw [show c = 70 by omega]; omega) | (refine Or.inr (Or.inr (Or.inr (Or.inr ⟨by omega, ?_⟩))); rw [show c = 82 by omega]; omega)⟩)
    · (try simp (disch := omega) only [zb_e0, zb_n0, w32_id, w64_id, ne_eq, Classical.not_not] at t_20)
      refine x_iconst (pc := 162) dX5_mayBegin_162 ?_
      refine x_retv (pc := 163) ⟨dX5_mayBegin_163, Or.inr ⟨rfl, (by decide)⟩⟩ ?_
      by_cases hm : mayB l c
      · rw [zb_t hm] at hq
        first
          | exact hq
          | (exfalso; unfold mayB at hm; rcases hm with hm | ⟨hm, hm2⟩ <;> first | omega | (simp only [hl, false_or] at hm; omega) | (rcases hm2 with q | q | q | q | ⟨q | q | q | q, q2⟩ <;> first | omega | (rw [q] at q2; omega)))
      · rw [zb_f hm] at hq
        first
          | exact hq
          | (exfalso; apply hm; unfold mayB; first | exact Or.inl ⟨by omega, Or.inr (by omega)⟩ | exact Or.inr ⟨hl, by first | omega | (refine Or.inr (Or.inr (Or.inr (Or.inr ⟨by omega, ?_⟩))); rw [show c = 68 by omega]; omega) | (refine Or.inr (Or.inr (Or.inr (Or.inr ⟨by omega, ?_⟩))); rw [show c = 77 by omega]; omega) | (refine Or.inr (Or.inr (Or.inr (Or.inr ⟨by omega, ?_⟩))); rw [show c = 70 by omega]; omega) | (refine Or.inr (Or.inr (Or.inr (Or.inr ⟨by omega, ?_⟩))); rw [show c = 82 by omega]; omega)⟩)
    · (try simp (disch := omega) only [zb_e0, zb_n0, w32_id, w64_id, ne_eq, Classical.not_not] at t_20)
      refine x_iconst (pc := 250) dX5_mayBegin_250 ?_
      refine x_retv (pc := 251) ⟨dX5_mayBegin_251, Or.inr ⟨rfl, (by decide)⟩⟩ ?_
      by_cases hm : mayB l c
      · rw [zb_t hm] at hq
        first
          | exact hq
          | (exfalso; unfold mayB at hm; rcases hm with hm | ⟨hm, hm2⟩ <;> first | omega | (simp only [hl, false_or] at hm; omega) | (rcases hm2 with q | q | q | q | ⟨q | q | q | q, q2⟩ <;> first | omega | (rw [q] at q2; omega)))
      · rw [zb_f hm] at hq
        first
          | exact hq
          | (exfalso; apply hm; unfold mayB; first | exact Or.inl ⟨by omega, Or.inr (by omega)⟩ | exact Or.inr ⟨hl, by first | omega | (refine Or.inr (Or.inr (Or.inr (Or.inr ⟨by omega, ?_⟩))); rw [show c = 68 by omega]; omega) | (refine Or.inr (Or.inr (Or.inr (Or.inr ⟨by omega, ?_⟩))); rw [show c = 77 by omega]; omega) | (refine Or.inr (Or.inr (Or.inr (Or.inr ⟨by omega, ?_⟩))); rw [show c = 70 by omega]; omega) | (refine Or.inr (Or.inr (Or.inr (Or.inr ⟨by omega, ?_⟩))); rw [show c = 82 by omega]; omega)⟩)
  · (try simp (disch := omega) only [zb_e0, zb_n0, w32_id, w64_id, ne_eq, Classical.not_not] at c_4)
    omega

end C10
