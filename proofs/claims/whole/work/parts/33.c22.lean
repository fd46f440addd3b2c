section C22
variable {D : va_G} {d : Nat} {ty : zT} {sz : Nat} {h : zH} {Q : zQ}
/-- the reference's object, with all that never moves -/
def isMT (ty : zT) (m : Int) : Prop := 0 ≤ m ∧ ty m = some (7, 31, fun i => if i = 1 then some (m + 1) else if i = 5 then some (m + 2) else if i = 6 then some (m + 3) else if i = 7 then some (m + 4) else if i = 8 then some (m + 5) else if i = 9 then some (m + 6) else if i = 13 then some (m + 7) else if i = 14 then some (m + 8) else if i = 15 then some (m + 9) else if i = 16 then some (m + 10) else if i = 17 then some (m + 11) else if i = 18 then some (m + 12) else if i = 20 then some (m + 13) else if i = 21 then some (m + 14) else if i = 22 then some (m + 15) else if i = 24 then some (m + 16) else if i = 26 then some (m + 17) else if i = 27 then some (m + 18) else if i = 28 then some (m + 19) else if i = 29 then some (m + 20) else if i = 30 then some (m + 21) else none)
  ∧ ty (m + 1) = some (8, 1500, zn) ∧ ty (m + 2) = some (8, 3120, zn) ∧ ty (m + 3) = some (8, 3120, zn) ∧ ty (m + 4) = some (8, 3120, zn) ∧ ty (m + 5) = some (8, 3120, zn) ∧ ty (m + 6) = some (8, 6, zn) ∧ ty (m + 7) = some (8, 100, zn) ∧ ty (m + 8) = some (8, 100, zn) ∧ ty (m + 9) = some (8, 100, zn) ∧ ty (m + 10) = some (8, 100, zn) ∧ ty (m + 11) = some (8, 100, zn) ∧ ty (m + 12) = some (10, 1000, zn) ∧ ty (m + 13) = some (8, 16, zn) ∧ ty (m + 14) = some (9, 16, zn) ∧ ty (m + 15) = some (8, 16, zn) ∧ ty (m + 16) = some (8, 2000, zn) ∧ ty (m + 17) = some (8, 2000, zn) ∧ ty (m + 18) = some (8, 2000, zn) ∧ ty (m + 19) = some (8, 16, zn) ∧ ty (m + 20) = some (9, 16, zn) ∧ ty (m + 21) = some (8, 16, zn)
theorem isMT.mono {ty ty' : zT} {m : Int} (ht : ∀ q y, ty q = some y → ty' q = some y) (h : isMT ty m) : isMT ty' m := by
  obtain ⟨h0, h1, a1, a2, a3, a4, a5, a6, a7, a8, a9, a10, a11, a12, a13, a14, a15, a16, a17, a18, a19, a20, a21⟩ := h
  exact ⟨h0, ht _ _ h1, ht _ _ a1, ht _ _ a2, ht _ _ a3, ht _ _ a4, ht _ _ a5, ht _ _ a6, ht _ _ a7, ht _ _ a8, ht _ _ a9, ht _ _ a10, ht _ _ a11, ht _ _ a12, ht _ _ a13, ht _ _ a14, ht _ _ a15, ht _ _ a16, ht _ _ a17, ht _ _ a18, ht _ _ a19, ht _ _ a20, ht _ _ a21⟩
/-- the text that the reference reads -/
def MTx (h : zH) (m : Int) (T : List Int) : Prop := h m 2 = T.length ∧ ∀ (i : Nat) (c : Int), T[i]? = some c → h (m + 1) i = c
/-- rows from a place on -/
def MR (h : zH) (m b : Int) (l : List Row) : Prop := ∀ (i : Nat) (r : Row), l[i]? = some r → h (m + 2) (b + i) = r.1 ∧ h (m + 3) (b + i) = r.2.1 ∧ h (m + 4) (b + i) = r.2.2.1 ∧ h (m + 5) (b + i) = r.2.2.2
theorem MR.fr {h h' : zH} {m b : Int} {l : List Row} (hR : MR h m b l) (e : ∀ q, m + 2 ≤ q → q ≤ m + 5 → h' q = h q) : MR h' m b l := by
  unfold MR at *
  rw [e (m + 2) (by omega) (by omega), e (m + 3) (by omega) (by omega), e (m + 4) (by omega) (by omega), e (m + 5) (by omega) (by omega)]
  exact hR
theorem MTx.fr {h h' : zH} {m : Int} {T : List Int} (hR : MTx h m T) (e0 : h' m 2 = h m 2) (e : h' (m + 1) = h (m + 1)) : MTx h' m T := by
  unfold MTx at *
  rw [e0, e]
  exact hR
theorem lookM_in {T : List Int} {p : Int} {h : zH} {m : Int} (hP : MTx h m T) (h0 : 0 ≤ p) (h1 : p < T.length) : h (m + 1) p = lookT T p := by
  unfold lookT
  have hl : p.toNat < T.length := by omega
  have := hP.2 p.toNat T[p.toNat] (List.getElem?_eq_getElem hl)
  rw [List.getElem?_eq_getElem hl, Option.getD_some, ← this]
  congr 1
  omega

set_option maxHeartbeats 4000000 in
set_option maxRecDepth 100000 in
theorem c_m_look {m : Int} (hM : isMT ty m) {T : List Int} (hP : MTx h m T) (hT : TxOK T) (hp : 0 ≤ h m 3) (hq : Q (some (iV (lookT T (h m 3)))) ty sz h) : zXM D mX7_look d 0 0 [rV m] ty sz h Q := by
  have hM0 := hM
  obtain ⟨m9, m0, a1, a2, a3, a4, a5, a6, a7, a8, a9, a10, a11, a12, a13, a14, a15, a16, a17, a18, a19, a20, a21⟩ := hM
  have hl1 := hP.1
  have hT1 := hT.1
  refine x_aload_n (pc := 0) dX7_look_0 rfl ?_
  refine y_getI 3 (pc := 1) dX7_look_1 f_RX7_82 (by assumption) rfl (fun b_1 => ?_)
  refine x_aload_n (pc := 4) dX7_look_4 rfl ?_
  refine y_getI 2 (pc := 5) dX7_look_5 f_RX7_79 (by assumption) rfl (fun b_5 => ?_)
  rw [hl1] at b_5 ⊢
  refine x_icmp_ge (pc := 8) 23 dX7_look_8 rfl (fun c_8 => ?_) (fun c_8 => ?_)
  · (try simp (disch := omega) only [zb_e0, zb_n0, w32_id, w64_id, ne_eq, Classical.not_not] at c_8)
    --
    rw [lookT_out (by omega)] at hq
    refine x_iconst (pc := 23) dX7_look_23 ?_
    refine x_retv (pc := 24) ⟨dX7_look_24, Or.inl rfl⟩ ?_
    exact hq
  · (try simp (disch := omega) only [zb_e0, zb_n0, w32_id, w64_id, ne_eq, Classical.not_not] at c_8)
    refine x_aload_n (pc := 11) dX7_look_11 rfl ?_
    refine x_getF (pc := 12) dX7_look_12 f_RX7_7 (by assumption) (by rfl) ?_
    refine x_aload_n (pc := 15) dX7_look_15 rfl ?_
    refine y_getI 3 (pc := 16) dX7_look_16 f_RX7_82 (by assumption) rfl (fun b_16 => ?_)
    refine x_iald (pc := 19) dX7_look_19 (by assumption) (by omega) (by omega) (fun b_19 => ?_)
    rw [lookM_in hP hp (by omega)]
    refine x_goto (pc := 20) 24 dX7_look_20 rfl ?_
    refine x_retv (pc := 24) ⟨dX7_look_24, Or.inl rfl⟩ ?_
    exact hq

/-- a demand p at a place: what it leaves -/
noncomputable def mF (h : zH) (m : Int) (p : Prop) (pl : Int) : zH := @ite _ p (Classical.propDecidable _) h (zup h m 4 pl)
theorem mF_t {m pl : Int} {p : Prop} (hp : p) : mF h m p pl = h := if_pos hp
theorem mF_n {m pl : Int} {p : Prop} (hp : ¬ p) : mF h m p pl = zup h m 4 pl := if_neg hp

set_option maxHeartbeats 4000000 in
set_option maxRecDepth 100000 in
theorem c_m_must {m : Int} (hM : isMT ty m) {P : Prop} {pl : Int} (hp : i32 pl) (h4 : h m 4 = -1) (h9 : pl ≠ -1) (hq : Q (some (iV (zb P))) ty sz (mF h m P pl)) : zXM D mX7_must d 0 0 [rV m, iV (zb P), iV pl] ty sz h Q := by
  have hM0 := hM
  obtain ⟨m9, m0, a1, a2, a3, a4, a5, a6, a7, a8, a9, a10, a11, a12, a13, a14, a15, a16, a17, a18, a19, a20, a21⟩ := hM
  refine x_iload_n (pc := 0) dX7_must_0 rfl ?_
  refine x_if_ne (pc := 1) 17 dX7_must_1 rfl (fun c_1 => ?_) (fun c_1 => ?_)
  · (try simp (disch := omega) only [zb_e0, zb_n0, w32_id, w64_id, ne_eq, Classical.not_not] at c_1)
    refine x_aload_n (pc := 17) dX7_must_17 rfl ?_
    refine y_getI 4 (pc := 18) dX7_must_18 f_RX7_85 (by assumption) rfl (fun b_18 => ?_)
    first | rw [h4] | rw [show zup h m 4 pl m 4 = pl by simp [zup_app]]
    refine x_iconst (pc := 21) dX7_must_21 ?_
    refine x_icmp_ne (pc := 22) 29 dX7_must_22 rfl (fun c_22 => ?_) (fun c_22 => ?_)
    · (try simp (disch := omega) only [zb_e0, zb_n0, w32_id, w64_id, ne_eq, Classical.not_not] at c_22)
      refine x_iconst (pc := 29) dX7_must_29 ?_
      refine x_retv (pc := 30) ⟨dX7_must_30, Or.inr ⟨rfl, (by decide)⟩⟩ ?_
      first
      | (rw [mF_t c_1, zb_t c_1] at hq
         exact hq)
      | (rw [mF_n c_1, zb_f c_1] at hq
         exact hq)
      | exact absurd trivial c_22
      | exact absurd c_22 h9
      | omega
    · (try simp (disch := omega) only [zb_e0, zb_n0, w32_id, w64_id, ne_eq, Classical.not_not] at c_22)
      refine x_iconst (pc := 25) dX7_must_25 ?_
      refine x_goto (pc := 26) 30 dX7_must_26 rfl ?_
      refine x_retv (pc := 30) ⟨dX7_must_30, Or.inr ⟨rfl, (by decide)⟩⟩ ?_
      first
      | (rw [mF_t c_1, zb_t c_1] at hq
         exact hq)
      | (rw [mF_n c_1, zb_f c_1] at hq
         exact hq)
      | exact absurd trivial c_22
      | exact absurd c_22 h9
      | omega
  · (try simp (disch := omega) only [zb_e0, zb_n0, w32_id, w64_id, ne_eq, Classical.not_not] at c_1)
    refine x_aload_n (pc := 4) dX7_must_4 rfl ?_
    refine y_getI 4 (pc := 5) dX7_must_5 f_RX7_85 (by assumption) rfl (fun b_5 => ?_)
    rw [h4]
    refine x_iconst (pc := 8) dX7_must_8 ?_
    refine x_icmp_ne (pc := 9) 17 dX7_must_9 rfl (fun c_9 => ?_) (fun c_9 => ?_)
    · (try simp (disch := omega) only [zb_e0, zb_n0, w32_id, w64_id, ne_eq, Classical.not_not] at c_9)
      exact absurd trivial c_9
    · (try simp (disch := omega) only [zb_e0, zb_n0, w32_id, w64_id, ne_eq, Classical.not_not] at c_9)
      refine x_aload_n (pc := 12) dX7_must_12 rfl ?_
      refine x_iload_n (pc := 13) dX7_must_13 rfl ?_
      refine y_putI 4 (pc := 14) dX7_must_14 f_RX7_85 (by assumption) rfl (by rfl) (by omega) rfl ?_
      refine x_aload_n (pc := 17) dX7_must_17 rfl ?_
      refine y_getI 4 (pc := 18) dX7_must_18 f_RX7_85 (by assumption) rfl (fun b_18 => ?_)
      first | rw [h4] | rw [show zup h m 4 pl m 4 = pl by simp [zup_app]]
      refine x_iconst (pc := 21) dX7_must_21 ?_
      refine x_icmp_ne (pc := 22) 29 dX7_must_22 rfl (fun c_22 => ?_) (fun c_22 => ?_)
      · (try simp (disch := omega) only [zb_e0, zb_n0, w32_id, w64_id, ne_eq, Classical.not_not] at c_22)
        refine x_iconst (pc := 29) dX7_must_29 ?_
        refine x_retv (pc := 30) ⟨dX7_must_30, Or.inr ⟨rfl, (by decide)⟩⟩ ?_
        first
        | (rw [mF_t c_1, zb_t c_1] at hq
           exact hq)
        | (rw [mF_n c_1, zb_f c_1] at hq
           exact hq)
        | exact absurd trivial c_22
        | exact absurd c_22 h9
        | omega
      · (try simp (disch := omega) only [zb_e0, zb_n0, w32_id, w64_id, ne_eq, Classical.not_not] at c_22)
        refine x_iconst (pc := 25) dX7_must_25 ?_
        refine x_goto (pc := 26) 30 dX7_must_26 rfl ?_
        refine x_retv (pc := 30) ⟨dX7_must_30, Or.inr ⟨rfl, (by decide)⟩⟩ ?_
        first
        | (rw [mF_t c_1, zb_t c_1] at hq
           exact hq)
        | (rw [mF_n c_1, zb_f c_1] at hq
           exact hq)
        | exact absurd trivial c_22
        | exact absurd c_22 h9
        | omega

set_option maxHeartbeats 4000000 in
set_option maxRecDepth 100000 in
theorem c_m_mustF {m : Int} (hM : isMT ty m) {z : Int} {pl : Int} (h4 : h m 4 ≠ -1) (hq : Q (some (iV 0)) ty sz h) : zXM D mX7_must d 0 0 [rV m, iV z, iV pl] ty sz h Q := by
  have hM0 := hM
  obtain ⟨m9, m0, a1, a2, a3, a4, a5, a6, a7, a8, a9, a10, a11, a12, a13, a14, a15, a16, a17, a18, a19, a20, a21⟩ := hM
  refine x_iload_n (pc := 0) dX7_must_0 rfl ?_
  refine x_if_ne (pc := 1) 17 dX7_must_1 rfl (fun c_1 => ?_) (fun c_1 => ?_)
  · (try simp (disch := omega) only [zb_e0, zb_n0, w32_id, w64_id, ne_eq, Classical.not_not] at c_1)
    refine x_aload_n (pc := 17) dX7_must_17 rfl ?_
    refine y_getI 4 (pc := 18) dX7_must_18 f_RX7_85 (by assumption) rfl (fun b_18 => ?_)
    refine x_iconst (pc := 21) dX7_must_21 ?_
    refine x_icmp_ne (pc := 22) 29 dX7_must_22 rfl (fun c_22 => ?_) (fun c_22 => ?_)
    · (try simp (disch := omega) only [zb_e0, zb_n0, w32_id, w64_id, ne_eq, Classical.not_not] at c_22)
      refine x_iconst (pc := 29) dX7_must_29 ?_
      refine x_retv (pc := 30) ⟨dX7_must_30, Or.inr ⟨rfl, (by decide)⟩⟩ ?_
      exact hq
    · (try simp (disch := omega) only [zb_e0, zb_n0, w32_id, w64_id, ne_eq, Classical.not_not] at c_22)
      omega
  · (try simp (disch := omega) only [zb_e0, zb_n0, w32_id, w64_id, ne_eq, Classical.not_not] at c_1)
    refine x_aload_n (pc := 4) dX7_must_4 rfl ?_
    refine y_getI 4 (pc := 5) dX7_must_5 f_RX7_85 (by assumption) rfl (fun b_5 => ?_)
    refine x_iconst (pc := 8) dX7_must_8 ?_
    refine x_icmp_ne (pc := 9) 17 dX7_must_9 rfl (fun c_9 => ?_) (fun c_9 => ?_)
    · (try simp (disch := omega) only [zb_e0, zb_n0, w32_id, w64_id, ne_eq, Classical.not_not] at c_9)
      refine x_aload_n (pc := 17) dX7_must_17 rfl ?_
      refine y_getI 4 (pc := 18) dX7_must_18 f_RX7_85 (by assumption) rfl (fun b_18 => ?_)
      refine x_iconst (pc := 21) dX7_must_21 ?_
      refine x_icmp_ne (pc := 22) 29 dX7_must_22 rfl (fun c_22 => ?_) (fun c_22 => ?_)
      · (try simp (disch := omega) only [zb_e0, zb_n0, w32_id, w64_id, ne_eq, Classical.not_not] at c_22)
        refine x_iconst (pc := 29) dX7_must_29 ?_
        refine x_retv (pc := 30) ⟨dX7_must_30, Or.inr ⟨rfl, (by decide)⟩⟩ ?_
        exact hq
      · (try simp (disch := omega) only [zb_e0, zb_n0, w32_id, w64_id, ne_eq, Classical.not_not] at c_22)
        omega
    · (try simp (disch := omega) only [zb_e0, zb_n0, w32_id, w64_id, ne_eq, Classical.not_not] at c_9)
      omega

set_option maxHeartbeats 4000000 in
set_option maxRecDepth 100000 in
theorem c_m_isDigit {m : Int} (hM : isMT ty m) {T : List Int} (hP : MTx h m T) (hT : TxOK T) (hp : 0 ≤ h m 3) (hq : Q (some (iV (zb (48 ≤ lookT T (h m 3) ∧ lookT T (h m 3) ≤ 57)))) ty sz h) : zXM D mX7_isDigit (d + 1) 0 0 [rV m] ty sz h Q := by
  have hM0 := hM
  obtain ⟨m9, m0, a1, a2, a3, a4, a5, a6, a7, a8, a9, a10, a11, a12, a13, a14, a15, a16, a17, a18, a19, a20, a21⟩ := hM
  have hlr := lookT_rng hT (h m 3)
  refine x_aload_n (pc := 0) dX7_isDigit_0 rfl ?_
  refine x_callV0 (pc := 1) dX7_isDigit_1 (k_RX7_88 _ rfl) tmv_X7_look (by assumption) rfl rfl rfl ?_
  refine c_m_look hM0 hP hT hp ?_
  dsimp only [Option.toList, List.cons_append, List.nil_append]
  refine x_bipush (pc := 4) dX7_isDigit_4 (by decide) ?_
  refine x_icmp_lt (pc := 6) 22 dX7_isDigit_6 rfl (fun c_6 => ?_) (fun c_6 => ?_)
  · (try simp (disch := omega) only [zb_e0, zb_n0, w32_id, w64_id, ne_eq, Classical.not_not] at c_6)
    refine x_iconst (pc := 22) dX7_isDigit_22 ?_
    refine x_retv (pc := 23) ⟨dX7_isDigit_23, Or.inr ⟨rfl, (by decide)⟩⟩ ?_
    first
    | (rw [zb_t (p := 48 ≤ lookT T (h m 3) ∧ lookT T (h m 3) ≤ 57) ⟨by omega, by omega⟩] at hq
       exact hq)
    | (rw [zb_f (p := 48 ≤ lookT T (h m 3) ∧ lookT T (h m 3) ≤ 57) (by omega)] at hq
       exact hq)
  · (try simp (disch := omega) only [zb_e0, zb_n0, w32_id, w64_id, ne_eq, Classical.not_not] at c_6)
    refine x_aload_n (pc := 9) dX7_isDigit_9 rfl ?_
    refine x_callV0 (pc := 10) dX7_isDigit_10 (k_RX7_88 _ rfl) tmv_X7_look (by assumption) rfl rfl rfl ?_
    refine c_m_look hM0 hP hT hp ?_
    dsimp only [Option.toList, List.cons_append, List.nil_append]
    refine x_bipush (pc := 13) dX7_isDigit_13 (by decide) ?_
    refine x_icmp_gt (pc := 15) 22 dX7_isDigit_15 rfl (fun c_15 => ?_) (fun c_15 => ?_)
    · (try simp (disch := omega) only [zb_e0, zb_n0, w32_id, w64_id, ne_eq, Classical.not_not] at c_15)
      refine x_iconst (pc := 22) dX7_isDigit_22 ?_
      refine x_retv (pc := 23) ⟨dX7_isDigit_23, Or.inr ⟨rfl, (by decide)⟩⟩ ?_
      first
      | (rw [zb_t (p := 48 ≤ lookT T (h m 3) ∧ lookT T (h m 3) ≤ 57) ⟨by omega, by omega⟩] at hq
         exact hq)
      | (rw [zb_f (p := 48 ≤ lookT T (h m 3) ∧ lookT T (h m 3) ≤ 57) (by omega)] at hq
         exact hq)
    · (try simp (disch := omega) only [zb_e0, zb_n0, w32_id, w64_id, ne_eq, Classical.not_not] at c_15)
      refine x_iconst (pc := 18) dX7_isDigit_18 ?_
      refine x_goto (pc := 19) 23 dX7_isDigit_19 rfl ?_
      refine x_retv (pc := 23) ⟨dX7_isDigit_23, Or.inr ⟨rfl, (by decide)⟩⟩ ?_
      first
      | (rw [zb_t (p := 48 ≤ lookT T (h m 3) ∧ lookT T (h m 3) ≤ 57) ⟨by omega, by omega⟩] at hq
         exact hq)
      | (rw [zb_f (p := 48 ≤ lookT T (h m 3) ∧ lookT T (h m 3) ≤ 57) (by omega)] at hq
         exact hq)

theorem MTx_up {m k v : Int} {T : List Int} (hP : MTx h m T) (hk : k ≠ 2) : MTx (zup h m k v) m T := by
  refine ⟨?_, fun i c hi => ?_⟩
  · simp [zup_app, Ne.symm hk, hP.1]
  · rw [zup_ne (by omega)]; exact hP.2 i c hi

theorem zb_of {p : Prop} {b : Int} (hb : b = zb p) : zb p = b := hb.symm

set_option maxHeartbeats 4000000 in
set_option maxRecDepth 100000 in
theorem c_m_num54 {m : Int} (hM : isMT ty m) {T : List Int} {p q v le mo : Int} (hP : MTx h m T) (hp : 0 ≤ p ∧ p ≤ 2000) (hq0 : p ≤ q ∧ q ≤ p + 7) (hv : 0 ≤ v ∧ v < 10000000) (h4 : h m 4 = -1) (hle : i32 le ∧ i32 mo) (hq : Q (some (iV v)) ty sz (mF (zup h m 3 q) m (q ≠ p ∧ le ≤ v ∧ v ≤ mo) p)) : zX D mX7_number (d + 2) 0 0 54 [(4, iV v), (3, iV p), (0, rV m), (1, iV le), (2, iV mo)] [] ty sz (zup h m 3 q) Q := by
  have hM0 := hM
  obtain ⟨m9, m0, a1, a2, a3, a4, a5, a6, a7, a8, a9, a10, a11, a12, a13, a14, a15, a16, a17, a18, a19, a20, a21⟩ := hM
  have e3 : zup h m 3 q m 3 = q := by simp [zup_app]
  have e4 : zup h m 3 q m 4 = -1 := by simp [zup_app, h4]
  refine x_aload_n (pc := 54) dX7_number_54 rfl ?_
  refine x_aload_n (pc := 55) dX7_number_55 rfl ?_
  refine y_getI 3 (pc := 56) dX7_number_56 f_RX7_82 (by assumption) rfl (fun b_56 => ?_)
  rw [e3]
  refine x_iload_n (pc := 59) dX7_number_59 rfl ?_
  refine x_icmp_le (pc := 60) 79 dX7_number_60 rfl (fun c_60 => ?_) (fun c_60 => ?_)
  · (try simp (disch := omega) only [zb_e0, zb_n0, w32_id, w64_id, ne_eq, Classical.not_not] at c_60)
    refine x_iconst (pc := 79) dX7_number_79 ?_
    first
    | rw [show (0 : Int) = zb (q ≠ p ∧ le ≤ v ∧ v ≤ mo) from (zb_f (by omega)).symm]
    | rw [show (1 : Int) = zb (q ≠ p ∧ le ≤ v ∧ v ≤ mo) from (zb_t (by omega)).symm]
    refine x_iload_n (pc := 80) dX7_number_80 rfl ?_
    refine x_callV2 (pc := 81) dX7_number_81 (k_RX7_96 _ rfl) tmv_X7_must (by assumption) rfl rfl rfl ?_
    refine x_room (d' := d) (by omega) (Nat.le_refl _) (Nat.le_refl _) (c_m_must hM0 (by omega) e4 (by omega) ?_)
    dsimp only [Option.toList, List.cons_append, List.nil_append]
    refine x_istore (pc := 84) dX7_number_84 (by decide) ?_
    refine x_iload (pc := 86) dX7_number_86 rfl ?_
    refine x_retv (pc := 88) ⟨dX7_number_88, Or.inl rfl⟩ ?_
    exact hq
  · (try simp (disch := omega) only [zb_e0, zb_n0, w32_id, w64_id, ne_eq, Classical.not_not] at c_60)
    refine x_iload (pc := 63) dX7_number_63 rfl ?_
    refine x_iload_n (pc := 65) dX7_number_65 rfl ?_
    refine x_icmp_lt (pc := 66) 79 dX7_number_66 rfl (fun c_66 => ?_) (fun c_66 => ?_)
    · (try simp (disch := omega) only [zb_e0, zb_n0, w32_id, w64_id, ne_eq, Classical.not_not] at c_66)
      refine x_iconst (pc := 79) dX7_number_79 ?_
      first
      | rw [show (0 : Int) = zb (q ≠ p ∧ le ≤ v ∧ v ≤ mo) from (zb_f (by omega)).symm]
      | rw [show (1 : Int) = zb (q ≠ p ∧ le ≤ v ∧ v ≤ mo) from (zb_t (by omega)).symm]
      refine x_iload_n (pc := 80) dX7_number_80 rfl ?_
      refine x_callV2 (pc := 81) dX7_number_81 (k_RX7_96 _ rfl) tmv_X7_must (by assumption) rfl rfl rfl ?_
      refine x_room (d' := d) (by omega) (Nat.le_refl _) (Nat.le_refl _) (c_m_must hM0 (by omega) e4 (by omega) ?_)
      dsimp only [Option.toList, List.cons_append, List.nil_append]
      refine x_istore (pc := 84) dX7_number_84 (by decide) ?_
      refine x_iload (pc := 86) dX7_number_86 rfl ?_
      refine x_retv (pc := 88) ⟨dX7_number_88, Or.inl rfl⟩ ?_
      exact hq
    · (try simp (disch := omega) only [zb_e0, zb_n0, w32_id, w64_id, ne_eq, Classical.not_not] at c_66)
      refine x_iload (pc := 69) dX7_number_69 rfl ?_
      refine x_iload_n (pc := 71) dX7_number_71 rfl ?_
      refine x_icmp_gt (pc := 72) 79 dX7_number_72 rfl (fun c_72 => ?_) (fun c_72 => ?_)
      · (try simp (disch := omega) only [zb_e0, zb_n0, w32_id, w64_id, ne_eq, Classical.not_not] at c_72)
        refine x_iconst (pc := 79) dX7_number_79 ?_
        first
        | rw [show (0 : Int) = zb (q ≠ p ∧ le ≤ v ∧ v ≤ mo) from (zb_f (by omega)).symm]
        | rw [show (1 : Int) = zb (q ≠ p ∧ le ≤ v ∧ v ≤ mo) from (zb_t (by omega)).symm]
        refine x_iload_n (pc := 80) dX7_number_80 rfl ?_
        refine x_callV2 (pc := 81) dX7_number_81 (k_RX7_96 _ rfl) tmv_X7_must (by assumption) rfl rfl rfl ?_
        refine x_room (d' := d) (by omega) (Nat.le_refl _) (Nat.le_refl _) (c_m_must hM0 (by omega) e4 (by omega) ?_)
        dsimp only [Option.toList, List.cons_append, List.nil_append]
        refine x_istore (pc := 84) dX7_number_84 (by decide) ?_
        refine x_iload (pc := 86) dX7_number_86 rfl ?_
        refine x_retv (pc := 88) ⟨dX7_number_88, Or.inl rfl⟩ ?_
        exact hq
      · (try simp (disch := omega) only [zb_e0, zb_n0, w32_id, w64_id, ne_eq, Classical.not_not] at c_72)
        refine x_iconst (pc := 75) dX7_number_75 ?_
        refine x_goto (pc := 76) 80 dX7_number_76 rfl ?_
        first
        | rw [show (0 : Int) = zb (q ≠ p ∧ le ≤ v ∧ v ≤ mo) from (zb_f (by omega)).symm]
        | rw [show (1 : Int) = zb (q ≠ p ∧ le ≤ v ∧ v ≤ mo) from (zb_t (by omega)).symm]
        refine x_iload_n (pc := 80) dX7_number_80 rfl ?_
        refine x_callV2 (pc := 81) dX7_number_81 (k_RX7_96 _ rfl) tmv_X7_must (by assumption) rfl rfl rfl ?_
        refine x_room (d' := d) (by omega) (Nat.le_refl _) (Nat.le_refl _) (c_m_must hM0 (by omega) e4 (by omega) ?_)
        dsimp only [Option.toList, List.cons_append, List.nil_append]
        refine x_istore (pc := 84) dX7_number_84 (by decide) ?_
        refine x_iload (pc := 86) dX7_number_86 rfl ?_
        refine x_retv (pc := 88) ⟨dX7_number_88, Or.inl rfl⟩ ?_
        exact hq

set_option maxHeartbeats 4000000 in
set_option maxRecDepth 100000 in
theorem c_m_num8 {m : Int} (hM : isMT ty m) {T : List Int} {p le mo : Int} (hP : MTx h m T) (hT : TxOK T) (hp : 0 ≤ p ∧ p ≤ T.length) (h4 : h m 4 = -1) (hle : i32 le ∧ i32 mo) (hq : Q (some (iV (numR T p).1)) ty sz (mF (zup h m 3 (numR T p).2) m ((numR T p).2 ≠ p ∧ le ≤ (numR T p).1 ∧ (numR T p).1 ≤ mo) p)) : ∀ (n : Nat) (u : Nat) (q v : Int), p ≤ q ∧ q ≤ T.length ∧ p + 7 - q = u → 0 ≤ v ∧ v < 10 ^ (7 - u) → numS T u q v = numR T p → u < n → zX D mX7_number (d + 2) 0 0 8 [(4, iV v), (3, iV p), (0, rV m), (1, iV le), (2, iV mo)] [] ty sz (zup h m 3 q) Q := by
  intro n
  induction n with
  | zero =>
    intro u q v h1 hv hr hm
    exfalso
    omega
  | succ n ih =>
    intro u q v h1 hv hr hm
    have hM0 := hM
    obtain ⟨m9, m0, a1, a2, a3, a4, a5, a6, a7, a8, a9, a10, a11, a12, a13, a14, a15, a16, a17, a18, a19, a20, a21⟩ := hM
    have hT1 := hT.1
    have hlr := lookT_rng hT q
    have hP3 : MTx (zup h m 3 q) m T := MTx_up hP (by decide)
    have e3 : zup h m 3 q m 3 = q := by simp [zup_app]
    have hpw : (10 : Int) ^ (7 - u) ≤ 10000000 := by
      have : u = 0 ∨ u = 1 ∨ u = 2 ∨ u = 3 ∨ u = 4 ∨ u = 5 ∨ u = 6 ∨ u = 7 := by omega
      rcases this with e | e | e | e | e | e | e | e <;> subst e <;> decide
    have h0q : 0 ≤ zup h m 3 q m 3 := by omega
    refine x_aload_n (pc := 8) dX7_number_8 rfl ?_
    refine x_callV0 (pc := 9) dX7_number_9 (k_RX7_92 _ rfl) tmv_X7_isDigit (by assumption) rfl rfl rfl ?_
    refine c_m_isDigit hM0 hP3 hT h0q ?_
    rw [e3]
    dsimp only [Option.toList, List.cons_append, List.nil_append]
    refine x_if_eq (pc := 12) 54 dX7_number_12 rfl (fun c_12 => ?_) (fun c_12 => ?_)
    · (try simp (disch := omega) only [zb_e0, zb_n0, w32_id, w64_id, ne_eq, Classical.not_not] at c_12)
      have hqv : numR T p = (v, q) := by
        rw [← hr]
        cases u with
        | zero => rfl
        | succ u => exact numS_n (fun z => by omega)
      rw [hqv] at hq
      exact c_m_num54 hM0 hP (by omega) (by omega) (by omega) h4 hle hq
    · (try simp (disch := omega) only [zb_e0, zb_n0, w32_id, w64_id, ne_eq, Classical.not_not] at c_12)
      refine x_aload_n (pc := 15) dX7_number_15 rfl ?_
      refine y_getI 3 (pc := 16) dX7_number_16 f_RX7_82 (by assumption) rfl (fun b_16 => ?_)
      rw [e3]
      refine x_iload_n (pc := 19) dX7_number_19 rfl ?_
      refine x_isub (pc := 20) dX7_number_20 ?_
      refine x_bipush (pc := 21) dX7_number_21 (by decide) ?_
      refine x_icmp_ge (pc := 23) 54 dX7_number_23 rfl (fun c_23 => ?_) (fun c_23 => ?_)
      · (try simp (disch := omega) only [zb_e0, zb_n0, w32_id, w64_id, ne_eq, Classical.not_not] at c_23)
        have hqv : numR T p = (v, q) := by
          rw [← hr]
          cases u with
          | zero => rfl
          | succ u => exact numS_n (fun z => by omega)
        rw [hqv] at hq
        exact c_m_num54 hM0 hP (by omega) (by omega) (by omega) h4 hle hq
      · (try simp (disch := omega) only [zb_e0, zb_n0, w32_id, w64_id, ne_eq, Classical.not_not] at c_23)
        refine x_bipush (pc := 26) dX7_number_26 (by decide) ?_
        refine x_iload (pc := 28) dX7_number_28 rfl ?_
        refine x_imul (pc := 30) dX7_number_30 ?_
        refine x_aload_n (pc := 31) dX7_number_31 rfl ?_
        refine x_callV0 (pc := 32) dX7_number_32 (k_RX7_88 _ rfl) tmv_X7_look (by assumption) rfl rfl rfl ?_
        refine x_room (d' := d) (by omega) (Nat.le_refl _) (Nat.le_refl _) (c_m_look hM0 hP3 hT h0q ?_)
        rw [e3]
        dsimp only [Option.toList, List.cons_append, List.nil_append]
        refine x_iadd (pc := 35) dX7_number_35 ?_
        refine x_bipush (pc := 36) dX7_number_36 (by decide) ?_
        refine x_isub (pc := 38) dX7_number_38 ?_
        refine x_istore (pc := 39) dX7_number_39 (by decide) ?_
        refine x_aload_n (pc := 41) dX7_number_41 rfl ?_
        refine x_dup (pc := 42) dX7_number_42 rfl ?_
        refine y_getI 3 (pc := 43) dX7_number_43 f_RX7_82 (by assumption) rfl (fun b_43 => ?_)
        rw [e3]
        refine x_iconst (pc := 46) dX7_number_46 ?_
        refine x_iadd (pc := 47) dX7_number_47 ?_
        refine y_putI 3 (pc := 48) dX7_number_48 f_RX7_82 (by assumption) rfl (by rfl) (by omega) rfl ?_
        refine x_goto (pc := 51) 8 dX7_number_51 rfl ?_
        obtain ⟨u', rfl⟩ : ∃ u', u = u' + 1 := ⟨u - 1, by omega⟩
        rw [numS_y c_12] at hr
        have hq8 : q < T.length := by
          rcases Int.lt_or_le q T.length with z | z
          · exact z
          · rw [lookT_out z] at c_12; omega
        have hp10 : (10 : Int) ^ (7 - u') = 10 * 10 ^ (7 - (u' + 1)) := by
          rw [show 7 - u' = (7 - (u' + 1)) + 1 by omega, Int.pow_succ, Int.mul_comm]
        rw [zup_zup]
        exact x_loc _ (by exact ⟨rfl, rfl, rfl, rfl, rfl, trivial⟩) (ih u' (q + 1) (10 * v + lookT T q - 48) (by omega) (by rw [hp10]; omega) hr (by omega))

set_option maxHeartbeats 4000000 in
set_option maxRecDepth 100000 in
theorem c_m_number {m : Int} (hM : isMT ty m) {T : List Int} {p le mo : Int} (hP : MTx h m T) (hT : TxOK T) (hp3 : h m 3 = p) (hp : 0 ≤ p ∧ p ≤ T.length) (h4 : h m 4 = -1) (hle : i32 le ∧ i32 mo) (hq : Q (some (iV (numR T p).1)) ty sz (mF (zup h m 3 (numR T p).2) m ((numR T p).2 ≠ p ∧ le ≤ (numR T p).1 ∧ (numR T p).1 ≤ mo) p)) : zXM D mX7_number (d + 2) 0 0 [rV m, iV le, iV mo] ty sz h Q := by
  have hM0 := hM
  obtain ⟨m9, m0, a1, a2, a3, a4, a5, a6, a7, a8, a9, a10, a11, a12, a13, a14, a15, a16, a17, a18, a19, a20, a21⟩ := hM
  have hT1 := hT.1
  refine x_aload_n (pc := 0) dX7_number_0 rfl ?_
  refine y_getI 3 (pc := 1) dX7_number_1 f_RX7_82 (by assumption) rfl (fun b_1 => ?_)
  rw [hp3]
  refine x_istore_n (pc := 4) dX7_number_4 (by decide) ?_
  refine x_iconst (pc := 5) dX7_number_5 ?_
  refine x_istore (pc := 6) dX7_number_6 (by decide) ?_
  have hs : h = zup h m 3 p := by rw [← hp3]; exact (zup_self h m 3).symm
  rw [hs]
  exact x_loc _ (by exact ⟨rfl, rfl, rfl, rfl, rfl, trivial⟩) (c_m_num8 hM0 hP hT hp h4 hle hq 8 7 p 0 (by omega) (by omega) rfl (by omega))

set_option maxHeartbeats 4000000 in
set_option maxRecDepth 100000 in
theorem c_m_next {m : Int} (hM : isMT ty m) {T : List Int} {p le mo : Int} (hP : MTx h m T) (hT : TxOK T) (hp3 : h m 3 = p) (hp : 0 ≤ p ∧ p ≤ T.length) (h4 : h m 4 = -1) (hle : i32 le ∧ i32 mo) (hN : lookT T p ≠ 32 → Q (some (iV 0)) ty sz (zup h m 4 p)) (hq : lookT T p = 32 → p + 1 ≤ T.length → Q (some (iV (numR T (p + 1)).1)) ty sz (mF (zup (zup h m 3 (p + 1)) m 3 (numR T (p + 1)).2) m ((numR T (p + 1)).2 ≠ p + 1 ∧ le ≤ (numR T (p + 1)).1 ∧ (numR T (p + 1)).1 ≤ mo) (p + 1))) : zXM D mX7_next (d + 3) 0 0 [rV m, iV le, iV mo] ty sz h Q := by
  have hM0 := hM
  obtain ⟨m9, m0, a1, a2, a3, a4, a5, a6, a7, a8, a9, a10, a11, a12, a13, a14, a15, a16, a17, a18, a19, a20, a21⟩ := hM
  have hT1 := hT.1
  have hlr := lookT_rng hT p
  refine x_aload_n (pc := 0) dX7_next_0 rfl ?_
  refine x_aload_n (pc := 1) dX7_next_1 rfl ?_
  refine x_callV0 (pc := 2) dX7_next_2 (k_RX7_88 _ rfl) tmv_X7_look (by assumption) rfl rfl rfl ?_
  refine x_room (d' := d) (by omega) (Nat.le_refl _) (Nat.le_refl _) (c_m_look hM0 hP hT (by omega) ?_)
  rw [hp3]
  dsimp only [Option.toList, List.cons_append, List.nil_append]
  refine x_bipush (pc := 5) dX7_next_5 (by decide) ?_
  refine x_icmp_ne (pc := 7) 14 dX7_next_7 rfl (fun c_7 => ?_) (fun c_7 => ?_)
  · (try simp (disch := omega) only [zb_e0, zb_n0, w32_id, w64_id, ne_eq, Classical.not_not] at c_7)
    refine x_iconst (pc := 14) dX7_next_14 ?_
    first
    | rw [show (0 : Int) = zb (lookT T p = 32) from (zb_f (by omega)).symm]
    | rw [show (1 : Int) = zb (lookT T p = 32) from (zb_t (by omega)).symm]
    refine x_aload_n (pc := 15) dX7_next_15 rfl ?_
    refine y_getI 3 (pc := 16) dX7_next_16 f_RX7_82 (by assumption) rfl (fun b_16 => ?_)
    rw [hp3]
    refine x_callV2 (pc := 19) dX7_next_19 (k_RX7_96 _ rfl) tmv_X7_must (by assumption) rfl rfl rfl ?_
    refine x_room (d' := d) (by omega) (Nat.le_refl _) (Nat.le_refl _) (c_m_must hM0 (by omega) h4 (by omega) ?_)
    dsimp only [Option.toList, List.cons_append, List.nil_append]
    refine x_if_ne (pc := 22) 27 dX7_next_22 rfl (fun c_22 => ?_) (fun c_22 => ?_)
    · (try simp (disch := omega) only [zb_e0, zb_n0, w32_id, w64_id, ne_eq, Classical.not_not] at c_22)
      --
      rw [mF_t c_22]
      have hp1 : p + 1 ≤ T.length := by
        rcases Int.lt_or_le p T.length with z | z
        · omega
        · rw [lookT_out z] at c_22; omega
      refine x_aload_n (pc := 27) dX7_next_27 rfl ?_
      refine x_dup (pc := 28) dX7_next_28 rfl ?_
      refine y_getI 3 (pc := 29) dX7_next_29 f_RX7_82 (by assumption) rfl (fun b_29 => ?_)
      rw [hp3]
      refine x_iconst (pc := 32) dX7_next_32 ?_
      refine x_iadd (pc := 33) dX7_next_33 ?_
      refine y_putI 3 (pc := 34) dX7_next_34 f_RX7_82 (by assumption) rfl (by rfl) (by omega) rfl ?_
      refine x_aload_n (pc := 37) dX7_next_37 rfl ?_
      refine x_iload_n (pc := 38) dX7_next_38 rfl ?_
      refine x_iload_n (pc := 39) dX7_next_39 rfl ?_
      refine x_callV2 (pc := 40) dX7_next_40 (k_RX7_100 _ rfl) tmv_X7_number (by assumption) rfl rfl rfl ?_
      refine c_m_number (p := p + 1) hM0 (MTx_up hP (by decide)) hT (by simp [zup_app]) ⟨by omega, hp1⟩ (by simp [zup_app, h4]) hle ?_
      dsimp only [Option.toList, List.cons_append, List.nil_append]
      refine x_retv (pc := 43) ⟨dX7_next_43, Or.inl rfl⟩ ?_
      exact hq c_22 hp1
    · (try simp (disch := omega) only [zb_e0, zb_n0, w32_id, w64_id, ne_eq, Classical.not_not] at c_22)
      --
      rw [mF_n c_22]
      refine x_iconst (pc := 25) dX7_next_25 ?_
      refine x_retv (pc := 26) ⟨dX7_next_26, Or.inl rfl⟩ ?_
      exact hN c_22
  · (try simp (disch := omega) only [zb_e0, zb_n0, w32_id, w64_id, ne_eq, Classical.not_not] at c_7)
    refine x_iconst (pc := 10) dX7_next_10 ?_
    refine x_goto (pc := 11) 15 dX7_next_11 rfl ?_
    first
    | rw [show (0 : Int) = zb (lookT T p = 32) from (zb_f (by omega)).symm]
    | rw [show (1 : Int) = zb (lookT T p = 32) from (zb_t (by omega)).symm]
    refine x_aload_n (pc := 15) dX7_next_15 rfl ?_
    refine y_getI 3 (pc := 16) dX7_next_16 f_RX7_82 (by assumption) rfl (fun b_16 => ?_)
    rw [hp3]
    refine x_callV2 (pc := 19) dX7_next_19 (k_RX7_96 _ rfl) tmv_X7_must (by assumption) rfl rfl rfl ?_
    refine x_room (d' := d) (by omega) (Nat.le_refl _) (Nat.le_refl _) (c_m_must hM0 (by omega) h4 (by omega) ?_)
    dsimp only [Option.toList, List.cons_append, List.nil_append]
    refine x_if_ne (pc := 22) 27 dX7_next_22 rfl (fun c_22 => ?_) (fun c_22 => ?_)
    · (try simp (disch := omega) only [zb_e0, zb_n0, w32_id, w64_id, ne_eq, Classical.not_not] at c_22)
      --
      rw [mF_t c_22]
      have hp1 : p + 1 ≤ T.length := by
        rcases Int.lt_or_le p T.length with z | z
        · omega
        · rw [lookT_out z] at c_22; omega
      refine x_aload_n (pc := 27) dX7_next_27 rfl ?_
      refine x_dup (pc := 28) dX7_next_28 rfl ?_
      refine y_getI 3 (pc := 29) dX7_next_29 f_RX7_82 (by assumption) rfl (fun b_29 => ?_)
      rw [hp3]
      refine x_iconst (pc := 32) dX7_next_32 ?_
      refine x_iadd (pc := 33) dX7_next_33 ?_
      refine y_putI 3 (pc := 34) dX7_next_34 f_RX7_82 (by assumption) rfl (by rfl) (by omega) rfl ?_
      refine x_aload_n (pc := 37) dX7_next_37 rfl ?_
      refine x_iload_n (pc := 38) dX7_next_38 rfl ?_
      refine x_iload_n (pc := 39) dX7_next_39 rfl ?_
      refine x_callV2 (pc := 40) dX7_next_40 (k_RX7_100 _ rfl) tmv_X7_number (by assumption) rfl rfl rfl ?_
      refine c_m_number (p := p + 1) hM0 (MTx_up hP (by decide)) hT (by simp [zup_app]) ⟨by omega, hp1⟩ (by simp [zup_app, h4]) hle ?_
      dsimp only [Option.toList, List.cons_append, List.nil_append]
      refine x_retv (pc := 43) ⟨dX7_next_43, Or.inl rfl⟩ ?_
      exact hq c_22 hp1
    · (try simp (disch := omega) only [zb_e0, zb_n0, w32_id, w64_id, ne_eq, Classical.not_not] at c_22)
      --
      rw [mF_n c_22]
      refine x_iconst (pc := 25) dX7_next_25 ?_
      refine x_retv (pc := 26) ⟨dX7_next_26, Or.inl rfl⟩ ?_
      exact hN c_22

set_option maxHeartbeats 4000000 in
set_option maxRecDepth 100000 in
theorem c_m_base {m : Int} (hq : Q (some (iV 2600)) ty sz h) : zXM D mX7_base d 0 0 [rV m] ty sz h Q := by
  refine x_sipush (pc := 0) dX7_base_0 (by decide) ?_
  refine x_retv (pc := 3) ⟨dX7_base_3, Or.inl rfl⟩ ?_
  exact hq

set_option maxHeartbeats 4000000 in
set_option maxRecDepth 100000 in
theorem c_m_lastRow {m : Int} (hM : isMT ty m) {N : Int} (hN : h (m + 6) 5 = N) (h0 : 0 ≤ N ∧ N ≤ 520) (hq : Q (some (iV (2600 + N))) ty sz h) : zXM D mX7_lastRow (d + 1) 0 0 [rV m] ty sz h Q := by
  have hM0 := hM
  obtain ⟨m9, m0, a1, a2, a3, a4, a5, a6, a7, a8, a9, a10, a11, a12, a13, a14, a15, a16, a17, a18, a19, a20, a21⟩ := hM
  refine x_aload_n (pc := 0) dX7_lastRow_0 rfl ?_
  refine x_callV0 (pc := 1) dX7_lastRow_1 (k_RX7_104 _ rfl) tmv_X7_base (by assumption) rfl rfl rfl ?_
  refine c_m_base ?_
  dsimp only [Option.toList, List.cons_append, List.nil_append]
  refine x_aload_n (pc := 4) dX7_lastRow_4 rfl ?_
  refine x_getF (pc := 5) dX7_lastRow_5 f_RX7_25 (by assumption) (by rfl) ?_
  refine x_iconst (pc := 8) dX7_lastRow_8 ?_
  refine x_iald (pc := 9) dX7_lastRow_9 (by assumption) (by omega) (by omega) (fun b_9 => ?_)
  rw [hN]
  refine x_iadd (pc := 10) dX7_lastRow_10 ?_
  refine x_retv (pc := 11) ⟨dX7_lastRow_11, Or.inl rfl⟩ ?_
  exact hq

theorem take_snoc {l : List Row} {i : Nat} {r : Row} (h : l[i]? = some r) : l.take (i + 1) = l.take i ++ [r] := by
  rw [List.take_add_one, h]
  rfl
def exL (c z : Int) (l : List Row) : Prop := ∃ r ∈ l, r.1 = c ∧ r.2.1 = z
def apL (s t : Int) (l : List Row) : Prop := ∃ r ∈ l, r.1 = 69 ∧ ((r.2.1 = s ∧ r.2.2.1 = t) ∨ (r.2.1 = t ∧ r.2.2.1 = s))
def lwL (l : List Row) : Int := l.foldl (fun w r => if r.1 = 83 then r.2.1 else w) 0
theorem exL_nil (c z : Int) : ¬ exL c z [] := fun ⟨r, hr, _⟩ => by simp at hr
theorem exL_snoc (c z : Int) (l : List Row) (r : Row) : exL c z (l ++ [r]) ↔ exL c z l ∨ (r.1 = c ∧ r.2.1 = z) := by
  constructor
  · intro ⟨q, hq, h1⟩
    rcases List.mem_append.mp hq with y | y
    · exact Or.inl ⟨q, y, h1⟩
    · rw [List.mem_singleton.mp y] at h1; exact Or.inr h1
  · intro y
    rcases y with ⟨q, hq, h1⟩ | y
    · exact ⟨q, List.mem_append_left _ hq, h1⟩
    · exact ⟨r, List.mem_append_right _ (List.mem_singleton.mpr rfl), y⟩
theorem apL_nil (c z : Int) : ¬ apL c z [] := fun ⟨r, hr, _⟩ => by simp at hr
theorem apL_snoc (s t : Int) (l : List Row) (r : Row) : apL s t (l ++ [r]) ↔ apL s t l ∨ (r.1 = 69 ∧ ((r.2.1 = s ∧ r.2.2.1 = t) ∨ (r.2.1 = t ∧ r.2.2.1 = s))) := by
  constructor
  · intro ⟨q, hq, h1⟩
    rcases List.mem_append.mp hq with y | y
    · exact Or.inl ⟨q, y, h1⟩
    · rw [List.mem_singleton.mp y] at h1; exact Or.inr h1
  · intro y
    rcases y with ⟨q, hq, h1⟩ | y
    · exact ⟨q, List.mem_append_left _ hq, h1⟩
    · exact ⟨r, List.mem_append_right _ (List.mem_singleton.mpr rfl), y⟩
theorem lwL_snoc (l : List Row) (r : Row) : lwL (l ++ [r]) = if r.1 = 83 then r.2.1 else lwL l := by
  unfold lwL
  rw [List.foldl_append]
  rfl
/-- the rows of the kind that is read stand from b on -/
def CurIs (h : zH) (m b : Int) (kr : List Row) : Prop := MR h m b kr ∧ h m 11 = b ∧ 2600 ≤ b ∧ b + kr.length ≤ 3120 ∧ 2600 + h (m + 6) 5 = b + kr.length

set_option maxHeartbeats 4000000 in
set_option maxRecDepth 100000 in
theorem c_m_count_l {m : Int} (hM : isMT ty m) {b : Int} {kr : List Row} {c : Int} (hc : i32 c) (hC : CurIs h m b kr) (hq : Q (some (iV (nL c kr))) ty sz h) : ∀ (n : Nat) (i : Nat), i ≤ kr.length → kr.length - i < n → zX D mX7_count (d + 2) 0 0 7 [(3, iV (b + i)), (2, iV (nL c (kr.take i))), (0, rV m), (1, iV c)] [] ty sz h Q := by
  intro n
  induction n with
  | zero =>
    intro i h1 hm
    exfalso
    omega
  | succ n ih =>
    intro i h1 hm
    have hM0 := hM
    obtain ⟨m9, m0, a1, a2, a3, a4, a5, a6, a7, a8, a9, a10, a11, a12, a13, a14, a15, a16, a17, a18, a19, a20, a21⟩ := hM
    obtain ⟨hR, hb1, hb2, hb3, hb4⟩ := hC
    have hnl : nL c (kr.take i) ≤ i := by
      unfold nL
      have := List.length_filter_le (fun r => r.1 == c) (kr.take i)
      rw [List.length_take] at this
      omega
    refine x_iload_n (pc := 7) dX7_count_7 rfl ?_
    refine x_aload_n (pc := 8) dX7_count_8 rfl ?_
    refine x_callV0 (pc := 9) dX7_count_9 (k_RX7_110 _ rfl) tmv_X7_lastRow (by assumption) rfl rfl rfl ?_
    refine c_m_lastRow (N := b + kr.length - 2600) hM0 (by omega) (by omega) ?_
    rw [show 2600 + (b + (kr.length : Int) - 2600) = b + kr.length by omega]
    dsimp only [Option.toList, List.cons_append, List.nil_append]
    refine x_icmp_ge (pc := 12) 39 dX7_count_12 rfl (fun c_12 => ?_) (fun c_12 => ?_)
    · (try simp (disch := omega) only [zb_e0, zb_n0, w32_id, w64_id, ne_eq, Classical.not_not] at c_12)
      refine x_iload_n (pc := 39) dX7_count_39 rfl ?_
      refine x_retv (pc := 40) ⟨dX7_count_40, Or.inl rfl⟩ ?_
      rw [show i = kr.length by omega, List.take_length]
      exact hq
    · (try simp (disch := omega) only [zb_e0, zb_n0, w32_id, w64_id, ne_eq, Classical.not_not] at c_12)
      obtain ⟨r, hr⟩ : ∃ r, kr[i]? = some r := ⟨_, List.getElem?_eq_getElem (by omega)⟩
      obtain ⟨r1, r2, r3, r4⟩ := hR i r hr
      have htk := take_snoc hr
      refine x_aload_n (pc := 15) dX7_count_15 rfl ?_
      refine x_getF (pc := 16) dX7_count_16 f_RX7_13 (by assumption) (by rfl) ?_
      refine x_iload_n (pc := 19) dX7_count_19 rfl ?_
      refine x_iald (pc := 20) dX7_count_20 (by assumption) (by omega) (by omega) (fun b_20 => ?_)
      rw [r1] at b_20 ⊢
      refine x_iload_n (pc := 21) dX7_count_21 rfl ?_
      refine x_icmp_ne (pc := 22) 31 dX7_count_22 rfl (fun c_22 => ?_) (fun c_22 => ?_)
      · (try simp (disch := omega) only [zb_e0, zb_n0, w32_id, w64_id, ne_eq, Classical.not_not] at c_22)
        refine x_iload_n (pc := 31) dX7_count_31 rfl ?_
        refine x_istore_n (pc := 32) dX7_count_32 (by decide) ?_
        refine x_iinc (pc := 33) dX7_count_33 rfl (by decide) ?_
        refine x_goto (pc := 36) 7 dX7_count_36 rfl ?_
        first
        | (have hN : (nL c (kr.take (i + 1)) : Int) = nL c (kr.take i) := by rw [htk, nL_snoc, if_neg (by assumption)]
           refine x_loc [(3, iV (b + ((i + 1 : Nat) : Int))), (2, iV (nL c (kr.take (i + 1)))), (0, rV m), (1, iV c)] (by rw [hN, show b + ((i + 1 : Nat) : Int) = b + i + 1 by omega]; exact ⟨rfl, rfl, rfl, rfl, trivial⟩) (ih (i + 1) (by omega) (by omega)))
        | (have hN : (nL c (kr.take (i + 1)) : Int) = nL c (kr.take i) + 1 := by rw [htk, nL_snoc, if_pos (by assumption)]; omega
           refine x_loc [(3, iV (b + ((i + 1 : Nat) : Int))), (2, iV (nL c (kr.take (i + 1)))), (0, rV m), (1, iV c)] (by rw [hN, show b + ((i + 1 : Nat) : Int) = b + i + 1 by omega]; exact ⟨rfl, rfl, rfl, rfl, trivial⟩) (ih (i + 1) (by omega) (by omega)))
      · (try simp (disch := omega) only [zb_e0, zb_n0, w32_id, w64_id, ne_eq, Classical.not_not] at c_22)
        refine x_iload_n (pc := 25) dX7_count_25 rfl ?_
        refine x_iconst (pc := 26) dX7_count_26 ?_
        refine x_iadd (pc := 27) dX7_count_27 ?_
        refine x_goto (pc := 28) 32 dX7_count_28 rfl ?_
        refine x_istore_n (pc := 32) dX7_count_32 (by decide) ?_
        refine x_iinc (pc := 33) dX7_count_33 rfl (by decide) ?_
        refine x_goto (pc := 36) 7 dX7_count_36 rfl ?_
        first
        | (have hN : (nL c (kr.take (i + 1)) : Int) = nL c (kr.take i) := by rw [htk, nL_snoc, if_neg (by assumption)]
           refine x_loc [(3, iV (b + ((i + 1 : Nat) : Int))), (2, iV (nL c (kr.take (i + 1)))), (0, rV m), (1, iV c)] (by rw [hN, show b + ((i + 1 : Nat) : Int) = b + i + 1 by omega]; exact ⟨rfl, rfl, rfl, rfl, trivial⟩) (ih (i + 1) (by omega) (by omega)))
        | (have hN : (nL c (kr.take (i + 1)) : Int) = nL c (kr.take i) + 1 := by rw [htk, nL_snoc, if_pos (by assumption)]; omega
           refine x_loc [(3, iV (b + ((i + 1 : Nat) : Int))), (2, iV (nL c (kr.take (i + 1)))), (0, rV m), (1, iV c)] (by rw [hN, show b + ((i + 1 : Nat) : Int) = b + i + 1 by omega]; exact ⟨rfl, rfl, rfl, rfl, trivial⟩) (ih (i + 1) (by omega) (by omega)))

set_option maxHeartbeats 4000000 in
set_option maxRecDepth 100000 in
theorem c_m_count {m : Int} (hM : isMT ty m) {b : Int} {kr : List Row} {c : Int} (hc : i32 c) (hC : CurIs h m b kr) (hq : Q (some (iV (nL c kr))) ty sz h) : zXM D mX7_count (d + 2) 0 0 [rV m, iV c] ty sz h Q := by
  have hM0 := hM
  obtain ⟨m9, m0, a1, a2, a3, a4, a5, a6, a7, a8, a9, a10, a11, a12, a13, a14, a15, a16, a17, a18, a19, a20, a21⟩ := hM
  refine x_iconst (pc := 0) dX7_count_0 ?_
  refine x_istore_n (pc := 1) dX7_count_1 (by decide) ?_
  refine x_aload_n (pc := 2) dX7_count_2 rfl ?_
  refine y_getI 11 (pc := 3) dX7_count_3 f_RX7_107 (by assumption) rfl (fun b_3 => ?_)
  rw [hC.2.1]
  refine x_istore_n (pc := 6) dX7_count_6 (by decide) ?_
  exact x_loc _ (by exact ⟨by show _ = some (iV (b + ((0 : Nat) : Int))); rw [show b + ((0 : Nat) : Int) = b by omega]; rfl, rfl, rfl, rfl, trivial⟩) (c_m_count_l hM0 hc hC hq (kr.length + 1) 0 (by omega) (by omega))

set_option maxHeartbeats 4000000 in
set_option maxRecDepth 100000 in
theorem c_m_isThere_l {m : Int} (hM : isMT ty m) {b : Int} {kr : List Row} {s t : Int} (hc : i32 s ∧ i32 t) (hC : CurIs h m b kr) (hq : Q (some (iV (zb (exL s t kr)))) ty sz h) : ∀ (n : Nat) (i : Nat), i ≤ kr.length → kr.length - i < n → zX D mX7_isThere (d + 2) 0 0 8 [(4, iV (b + i)), (3, iV (zb (exL s t (kr.take i)))), (0, rV m), (1, iV s), (2, iV t)] [] ty sz h Q := by
  intro n
  induction n with
  | zero =>
    intro i h1 hm
    exfalso
    omega
  | succ n ih =>
    intro i h1 hm
    have hM0 := hM
    obtain ⟨m9, m0, a1, a2, a3, a4, a5, a6, a7, a8, a9, a10, a11, a12, a13, a14, a15, a16, a17, a18, a19, a20, a21⟩ := hM
    obtain ⟨hR, hb1, hb2, hb3, hb4⟩ := hC
    
    refine x_iload (pc := 8) dX7_isThere_8 rfl ?_
    refine x_aload_n (pc := 10) dX7_isThere_10 rfl ?_
    refine x_callV0 (pc := 11) dX7_isThere_11 (k_RX7_110 _ rfl) tmv_X7_lastRow (by assumption) rfl rfl rfl ?_
    refine c_m_lastRow (N := b + kr.length - 2600) hM0 (by omega) (by omega) ?_
    rw [show 2600 + (b + (kr.length : Int) - 2600) = b + kr.length by omega]
    dsimp only [Option.toList, List.cons_append, List.nil_append]
    refine x_icmp_ge (pc := 14) 55 dX7_isThere_14 rfl (fun c_14 => ?_) (fun c_14 => ?_)
    · (try simp (disch := omega) only [zb_e0, zb_n0, w32_id, w64_id, ne_eq, Classical.not_not] at c_14)
      refine x_iload_n (pc := 55) dX7_isThere_55 rfl ?_
      refine x_retv (pc := 56) ⟨dX7_isThere_56, Or.inr ⟨rfl, (zb_01 _)⟩⟩ ?_
      rw [show i = kr.length by omega, List.take_length]
      exact hq
    · (try simp (disch := omega) only [zb_e0, zb_n0, w32_id, w64_id, ne_eq, Classical.not_not] at c_14)
      obtain ⟨r, hr⟩ : ∃ r, kr[i]? = some r := ⟨_, List.getElem?_eq_getElem (by omega)⟩
      obtain ⟨r1, r2, r3, r4⟩ := hR i r hr
      have htk := take_snoc hr
      refine x_iload_n (pc := 17) dX7_isThere_17 rfl ?_
      refine x_if_ne (pc := 18) 43 dX7_isThere_18 rfl (fun c_18 => ?_) (fun c_18 => ?_)
      · (try simp (disch := omega) only [zb_e0, zb_n0, w32_id, w64_id, ne_eq, Classical.not_not] at c_18)
        refine x_iconst (pc := 43) dX7_isThere_43 ?_
        refine x_goto (pc := 44) 48 dX7_isThere_44 rfl ?_
        refine x_istore_n (pc := 48) dX7_isThere_48 (by decide) ?_
        refine x_iinc (pc := 49) dX7_isThere_49 rfl (by decide) ?_
        refine x_goto (pc := 52) 8 dX7_isThere_52 rfl ?_
        first
        | (have hN : exL s t (kr.take (i + 1)) := by rw [htk, exL_snoc]; first | exact Or.inl (by assumption) | exact Or.inr (by omega)
           refine x_loc [(4, iV (b + ((i + 1 : Nat) : Int))), (3, iV (zb (exL s t (kr.take (i + 1))))), (0, rV m), (1, iV s), (2, iV t)] (by rw [zb_t hN, show b + ((i + 1 : Nat) : Int) = b + i + 1 by omega]; exact ⟨rfl, rfl, rfl, rfl, rfl, trivial⟩) (ih (i + 1) (by omega) (by omega)))
        | (have hN : ¬ exL s t (kr.take (i + 1)) := by
             rw [htk, exL_snoc]
             intro z
             rcases z with z | z
             · exact c_18 z
             · omega
           refine x_loc [(4, iV (b + ((i + 1 : Nat) : Int))), (3, iV (zb (exL s t (kr.take (i + 1))))), (0, rV m), (1, iV s), (2, iV t)] (by rw [zb_f hN, show b + ((i + 1 : Nat) : Int) = b + i + 1 by omega]; exact ⟨rfl, rfl, rfl, rfl, rfl, trivial⟩) (ih (i + 1) (by omega) (by omega)))
      · (try simp (disch := omega) only [zb_e0, zb_n0, w32_id, w64_id, ne_eq, Classical.not_not] at c_18)
        refine x_aload_n (pc := 21) dX7_isThere_21 rfl ?_
        refine x_getF (pc := 22) dX7_isThere_22 f_RX7_13 (by assumption) (by rfl) ?_
        refine x_iload (pc := 25) dX7_isThere_25 rfl ?_
        refine x_iald (pc := 27) dX7_isThere_27 (by assumption) (by omega) (by omega) (fun b_27 => ?_)
        rw [r1] at b_27 ⊢
        refine x_iload_n (pc := 28) dX7_isThere_28 rfl ?_
        refine x_icmp_ne (pc := 29) 47 dX7_isThere_29 rfl (fun c_29 => ?_) (fun c_29 => ?_)
        · (try simp (disch := omega) only [zb_e0, zb_n0, w32_id, w64_id, ne_eq, Classical.not_not] at c_29)
          refine x_iconst (pc := 47) dX7_isThere_47 ?_
          refine x_istore_n (pc := 48) dX7_isThere_48 (by decide) ?_
          refine x_iinc (pc := 49) dX7_isThere_49 rfl (by decide) ?_
          refine x_goto (pc := 52) 8 dX7_isThere_52 rfl ?_
          first
          | (have hN : exL s t (kr.take (i + 1)) := by rw [htk, exL_snoc]; first | exact Or.inl (by assumption) | exact Or.inr (by omega)
             refine x_loc [(4, iV (b + ((i + 1 : Nat) : Int))), (3, iV (zb (exL s t (kr.take (i + 1))))), (0, rV m), (1, iV s), (2, iV t)] (by rw [zb_t hN, show b + ((i + 1 : Nat) : Int) = b + i + 1 by omega]; exact ⟨rfl, rfl, rfl, rfl, rfl, trivial⟩) (ih (i + 1) (by omega) (by omega)))
          | (have hN : ¬ exL s t (kr.take (i + 1)) := by
               rw [htk, exL_snoc]
               intro z
               rcases z with z | z
               · exact c_18 z
               · omega
             refine x_loc [(4, iV (b + ((i + 1 : Nat) : Int))), (3, iV (zb (exL s t (kr.take (i + 1))))), (0, rV m), (1, iV s), (2, iV t)] (by rw [zb_f hN, show b + ((i + 1 : Nat) : Int) = b + i + 1 by omega]; exact ⟨rfl, rfl, rfl, rfl, rfl, trivial⟩) (ih (i + 1) (by omega) (by omega)))
        · (try simp (disch := omega) only [zb_e0, zb_n0, w32_id, w64_id, ne_eq, Classical.not_not] at c_29)
          refine x_aload_n (pc := 32) dX7_isThere_32 rfl ?_
          refine x_getF (pc := 33) dX7_isThere_33 f_RX7_16 (by assumption) (by rfl) ?_
          refine x_iload (pc := 36) dX7_isThere_36 rfl ?_
          refine x_iald (pc := 38) dX7_isThere_38 (by assumption) (by omega) (by omega) (fun b_38 => ?_)
          rw [r2] at b_38 ⊢
          refine x_iload_n (pc := 39) dX7_isThere_39 rfl ?_
          refine x_icmp_ne (pc := 40) 47 dX7_isThere_40 rfl (fun c_40 => ?_) (fun c_40 => ?_)
          · (try simp (disch := omega) only [zb_e0, zb_n0, w32_id, w64_id, ne_eq, Classical.not_not] at c_40)
            refine x_iconst (pc := 47) dX7_isThere_47 ?_
            refine x_istore_n (pc := 48) dX7_isThere_48 (by decide) ?_
            refine x_iinc (pc := 49) dX7_isThere_49 rfl (by decide) ?_
            refine x_goto (pc := 52) 8 dX7_isThere_52 rfl ?_
            first
            | (have hN : exL s t (kr.take (i + 1)) := by rw [htk, exL_snoc]; first | exact Or.inl (by assumption) | exact Or.inr (by omega)
               refine x_loc [(4, iV (b + ((i + 1 : Nat) : Int))), (3, iV (zb (exL s t (kr.take (i + 1))))), (0, rV m), (1, iV s), (2, iV t)] (by rw [zb_t hN, show b + ((i + 1 : Nat) : Int) = b + i + 1 by omega]; exact ⟨rfl, rfl, rfl, rfl, rfl, trivial⟩) (ih (i + 1) (by omega) (by omega)))
            | (have hN : ¬ exL s t (kr.take (i + 1)) := by
                 rw [htk, exL_snoc]
                 intro z
                 rcases z with z | z
                 · exact c_18 z
                 · omega
               refine x_loc [(4, iV (b + ((i + 1 : Nat) : Int))), (3, iV (zb (exL s t (kr.take (i + 1))))), (0, rV m), (1, iV s), (2, iV t)] (by rw [zb_f hN, show b + ((i + 1 : Nat) : Int) = b + i + 1 by omega]; exact ⟨rfl, rfl, rfl, rfl, rfl, trivial⟩) (ih (i + 1) (by omega) (by omega)))
          · (try simp (disch := omega) only [zb_e0, zb_n0, w32_id, w64_id, ne_eq, Classical.not_not] at c_40)
            refine x_iconst (pc := 43) dX7_isThere_43 ?_
            refine x_goto (pc := 44) 48 dX7_isThere_44 rfl ?_
            refine x_istore_n (pc := 48) dX7_isThere_48 (by decide) ?_
            refine x_iinc (pc := 49) dX7_isThere_49 rfl (by decide) ?_
            refine x_goto (pc := 52) 8 dX7_isThere_52 rfl ?_
            first
            | (have hN : exL s t (kr.take (i + 1)) := by rw [htk, exL_snoc]; first | exact Or.inl (by assumption) | exact Or.inr (by omega)
               refine x_loc [(4, iV (b + ((i + 1 : Nat) : Int))), (3, iV (zb (exL s t (kr.take (i + 1))))), (0, rV m), (1, iV s), (2, iV t)] (by rw [zb_t hN, show b + ((i + 1 : Nat) : Int) = b + i + 1 by omega]; exact ⟨rfl, rfl, rfl, rfl, rfl, trivial⟩) (ih (i + 1) (by omega) (by omega)))
            | (have hN : ¬ exL s t (kr.take (i + 1)) := by
                 rw [htk, exL_snoc]
                 intro z
                 rcases z with z | z
                 · exact c_18 z
                 · omega
               refine x_loc [(4, iV (b + ((i + 1 : Nat) : Int))), (3, iV (zb (exL s t (kr.take (i + 1))))), (0, rV m), (1, iV s), (2, iV t)] (by rw [zb_f hN, show b + ((i + 1 : Nat) : Int) = b + i + 1 by omega]; exact ⟨rfl, rfl, rfl, rfl, rfl, trivial⟩) (ih (i + 1) (by omega) (by omega)))

set_option maxHeartbeats 4000000 in
set_option maxRecDepth 100000 in
theorem c_m_isThere {m : Int} (hM : isMT ty m) {b : Int} {kr : List Row} {s t : Int} (hc : i32 s ∧ i32 t) (hC : CurIs h m b kr) (hq : Q (some (iV (zb (exL s t kr)))) ty sz h) : zXM D mX7_isThere (d + 2) 0 0 [rV m, iV s, iV t] ty sz h Q := by
  have hM0 := hM
  obtain ⟨m9, m0, a1, a2, a3, a4, a5, a6, a7, a8, a9, a10, a11, a12, a13, a14, a15, a16, a17, a18, a19, a20, a21⟩ := hM
  refine x_iconst (pc := 0) dX7_isThere_0 ?_
  refine x_istore_n (pc := 1) dX7_isThere_1 (by decide) ?_
  refine x_aload_n (pc := 2) dX7_isThere_2 rfl ?_
  refine y_getI 11 (pc := 3) dX7_isThere_3 f_RX7_107 (by assumption) rfl (fun b_3 => ?_)
  rw [hC.2.1]
  refine x_istore (pc := 6) dX7_isThere_6 (by decide) ?_
  exact x_loc _ (by exact ⟨by show _ = some (iV (b + ((0 : Nat) : Int))); rw [show b + ((0 : Nat) : Int) = b by omega]; rfl, by rw [List.take_zero, zb_f (exL_nil s t)]; rfl, rfl, rfl, rfl, trivial⟩) (c_m_isThere_l hM0 hc hC hq (kr.length + 1) 0 (by omega) (by omega))

set_option maxHeartbeats 4000000 in
set_option maxRecDepth 100000 in
theorem c_m_areApart_l {m : Int} (hM : isMT ty m) {b : Int} {kr : List Row} {s t : Int} (hc : i32 s ∧ i32 t) (hC : CurIs h m b kr) (hq : Q (some (iV (zb (apL s t kr)))) ty sz h) : ∀ (n : Nat) (i : Nat), i ≤ kr.length → kr.length - i < n → zX D mX7_areApart (d + 2) 0 0 8 [(4, iV (b + i)), (3, iV (zb (apL s t (kr.take i)))), (0, rV m), (1, iV s), (2, iV t)] [] ty sz h Q := by
  intro n
  induction n with
  | zero =>
    intro i h1 hm
    exfalso
    omega
  | succ n ih =>
    intro i h1 hm
    have hM0 := hM
    obtain ⟨m9, m0, a1, a2, a3, a4, a5, a6, a7, a8, a9, a10, a11, a12, a13, a14, a15, a16, a17, a18, a19, a20, a21⟩ := hM
    obtain ⟨hR, hb1, hb2, hb3, hb4⟩ := hC
    
    refine x_iload (pc := 8) dX7_areApart_8 rfl ?_
    refine x_aload_n (pc := 10) dX7_areApart_10 rfl ?_
    refine x_callV0 (pc := 11) dX7_areApart_11 (k_RX7_110 _ rfl) tmv_X7_lastRow (by assumption) rfl rfl rfl ?_
    refine c_m_lastRow (N := b + kr.length - 2600) hM0 (by omega) (by omega) ?_
    rw [show 2600 + (b + (kr.length : Int) - 2600) = b + kr.length by omega]
    dsimp only [Option.toList, List.cons_append, List.nil_append]
    refine x_icmp_ge (pc := 14) 89 dX7_areApart_14 rfl (fun c_14 => ?_) (fun c_14 => ?_)
    · (try simp (disch := omega) only [zb_e0, zb_n0, w32_id, w64_id, ne_eq, Classical.not_not] at c_14)
      refine x_iload_n (pc := 89) dX7_areApart_89 rfl ?_
      refine x_retv (pc := 90) ⟨dX7_areApart_90, Or.inr ⟨rfl, (zb_01 _)⟩⟩ ?_
      rw [show i = kr.length by omega, List.take_length]
      exact hq
    · (try simp (disch := omega) only [zb_e0, zb_n0, w32_id, w64_id, ne_eq, Classical.not_not] at c_14)
      obtain ⟨r, hr⟩ : ∃ r, kr[i]? = some r := ⟨_, List.getElem?_eq_getElem (by omega)⟩
      obtain ⟨r1, r2, r3, r4⟩ := hR i r hr
      have htk := take_snoc hr
      refine x_iload_n (pc := 17) dX7_areApart_17 rfl ?_
      refine x_if_ne (pc := 18) 77 dX7_areApart_18 rfl (fun c_18 => ?_) (fun c_18 => ?_)
      · (try simp (disch := omega) only [zb_e0, zb_n0, w32_id, w64_id, ne_eq, Classical.not_not] at c_18)
        refine x_iconst (pc := 77) dX7_areApart_77 ?_
        refine x_goto (pc := 78) 82 dX7_areApart_78 rfl ?_
        refine x_istore_n (pc := 82) dX7_areApart_82 (by decide) ?_
        refine x_iinc (pc := 83) dX7_areApart_83 rfl (by decide) ?_
        refine x_goto (pc := 86) 8 dX7_areApart_86 rfl ?_
        first
        | (have hN : apL s t (kr.take (i + 1)) := by rw [htk, apL_snoc]; first | exact Or.inl (by assumption) | exact Or.inr (by omega)
           refine x_loc [(4, iV (b + ((i + 1 : Nat) : Int))), (3, iV (zb (apL s t (kr.take (i + 1))))), (0, rV m), (1, iV s), (2, iV t)] (by rw [zb_t hN, show b + ((i + 1 : Nat) : Int) = b + i + 1 by omega]; exact ⟨rfl, rfl, rfl, rfl, rfl, trivial⟩) (ih (i + 1) (by omega) (by omega)))
        | (have hN : ¬ apL s t (kr.take (i + 1)) := by
             rw [htk, apL_snoc]
             intro z
             rcases z with z | z
             · exact c_18 z
             · omega
           refine x_loc [(4, iV (b + ((i + 1 : Nat) : Int))), (3, iV (zb (apL s t (kr.take (i + 1))))), (0, rV m), (1, iV s), (2, iV t)] (by rw [zb_f hN, show b + ((i + 1 : Nat) : Int) = b + i + 1 by omega]; exact ⟨rfl, rfl, rfl, rfl, rfl, trivial⟩) (ih (i + 1) (by omega) (by omega)))
      · (try simp (disch := omega) only [zb_e0, zb_n0, w32_id, w64_id, ne_eq, Classical.not_not] at c_18)
        refine x_aload_n (pc := 21) dX7_areApart_21 rfl ?_
        refine x_getF (pc := 22) dX7_areApart_22 f_RX7_13 (by assumption) (by rfl) ?_
        refine x_iload (pc := 25) dX7_areApart_25 rfl ?_
        refine x_iald (pc := 27) dX7_areApart_27 (by assumption) (by omega) (by omega) (fun b_27 => ?_)
        rw [r1] at b_27 ⊢
        refine x_bipush (pc := 28) dX7_areApart_28 (by decide) ?_
        refine x_icmp_ne (pc := 30) 81 dX7_areApart_30 rfl (fun c_30 => ?_) (fun c_30 => ?_)
        · (try simp (disch := omega) only [zb_e0, zb_n0, w32_id, w64_id, ne_eq, Classical.not_not] at c_30)
          refine x_iconst (pc := 81) dX7_areApart_81 ?_
          refine x_istore_n (pc := 82) dX7_areApart_82 (by decide) ?_
          refine x_iinc (pc := 83) dX7_areApart_83 rfl (by decide) ?_
          refine x_goto (pc := 86) 8 dX7_areApart_86 rfl ?_
          first
          | (have hN : apL s t (kr.take (i + 1)) := by rw [htk, apL_snoc]; first | exact Or.inl (by assumption) | exact Or.inr (by omega)
             refine x_loc [(4, iV (b + ((i + 1 : Nat) : Int))), (3, iV (zb (apL s t (kr.take (i + 1))))), (0, rV m), (1, iV s), (2, iV t)] (by rw [zb_t hN, show b + ((i + 1 : Nat) : Int) = b + i + 1 by omega]; exact ⟨rfl, rfl, rfl, rfl, rfl, trivial⟩) (ih (i + 1) (by omega) (by omega)))
          | (have hN : ¬ apL s t (kr.take (i + 1)) := by
               rw [htk, apL_snoc]
               intro z
               rcases z with z | z
               · exact c_18 z
               · omega
             refine x_loc [(4, iV (b + ((i + 1 : Nat) : Int))), (3, iV (zb (apL s t (kr.take (i + 1))))), (0, rV m), (1, iV s), (2, iV t)] (by rw [zb_f hN, show b + ((i + 1 : Nat) : Int) = b + i + 1 by omega]; exact ⟨rfl, rfl, rfl, rfl, rfl, trivial⟩) (ih (i + 1) (by omega) (by omega)))
        · (try simp (disch := omega) only [zb_e0, zb_n0, w32_id, w64_id, ne_eq, Classical.not_not] at c_30)
          refine x_aload_n (pc := 33) dX7_areApart_33 rfl ?_
          refine x_getF (pc := 34) dX7_areApart_34 f_RX7_16 (by assumption) (by rfl) ?_
          refine x_iload (pc := 37) dX7_areApart_37 rfl ?_
          refine x_iald (pc := 39) dX7_areApart_39 (by assumption) (by omega) (by omega) (fun b_39 => ?_)
          rw [r2] at b_39 ⊢
          refine x_iload_n (pc := 40) dX7_areApart_40 rfl ?_
          refine x_icmp_ne (pc := 41) 55 dX7_areApart_41 rfl (fun c_41 => ?_) (fun c_41 => ?_)
          · (try simp (disch := omega) only [zb_e0, zb_n0, w32_id, w64_id, ne_eq, Classical.not_not] at c_41)
            refine x_aload_n (pc := 55) dX7_areApart_55 rfl ?_
            refine x_getF (pc := 56) dX7_areApart_56 f_RX7_16 (by assumption) (by rfl) ?_
            refine x_iload (pc := 59) dX7_areApart_59 rfl ?_
            refine x_iald (pc := 61) dX7_areApart_61 (by assumption) (by omega) (by omega) (fun b_61 => ?_)
            rw [r2] at b_61 ⊢
            refine x_iload_n (pc := 62) dX7_areApart_62 rfl ?_
            refine x_icmp_ne (pc := 63) 81 dX7_areApart_63 rfl (fun c_63 => ?_) (fun c_63 => ?_)
            · (try simp (disch := omega) only [zb_e0, zb_n0, w32_id, w64_id, ne_eq, Classical.not_not] at c_63)
              refine x_iconst (pc := 81) dX7_areApart_81 ?_
              refine x_istore_n (pc := 82) dX7_areApart_82 (by decide) ?_
              refine x_iinc (pc := 83) dX7_areApart_83 rfl (by decide) ?_
              refine x_goto (pc := 86) 8 dX7_areApart_86 rfl ?_
              first
              | (have hN : apL s t (kr.take (i + 1)) := by rw [htk, apL_snoc]; first | exact Or.inl (by assumption) | exact Or.inr (by omega)
                 refine x_loc [(4, iV (b + ((i + 1 : Nat) : Int))), (3, iV (zb (apL s t (kr.take (i + 1))))), (0, rV m), (1, iV s), (2, iV t)] (by rw [zb_t hN, show b + ((i + 1 : Nat) : Int) = b + i + 1 by omega]; exact ⟨rfl, rfl, rfl, rfl, rfl, trivial⟩) (ih (i + 1) (by omega) (by omega)))
              | (have hN : ¬ apL s t (kr.take (i + 1)) := by
                   rw [htk, apL_snoc]
                   intro z
                   rcases z with z | z
                   · exact c_18 z
                   · omega
                 refine x_loc [(4, iV (b + ((i + 1 : Nat) : Int))), (3, iV (zb (apL s t (kr.take (i + 1))))), (0, rV m), (1, iV s), (2, iV t)] (by rw [zb_f hN, show b + ((i + 1 : Nat) : Int) = b + i + 1 by omega]; exact ⟨rfl, rfl, rfl, rfl, rfl, trivial⟩) (ih (i + 1) (by omega) (by omega)))
            · (try simp (disch := omega) only [zb_e0, zb_n0, w32_id, w64_id, ne_eq, Classical.not_not] at c_63)
              refine x_aload_n (pc := 66) dX7_areApart_66 rfl ?_
              refine x_getF (pc := 67) dX7_areApart_67 f_RX7_19 (by assumption) (by rfl) ?_
              refine x_iload (pc := 70) dX7_areApart_70 rfl ?_
              refine x_iald (pc := 72) dX7_areApart_72 (by assumption) (by omega) (by omega) (fun b_72 => ?_)
              rw [r3] at b_72 ⊢
              refine x_iload_n (pc := 73) dX7_areApart_73 rfl ?_
              refine x_icmp_ne (pc := 74) 81 dX7_areApart_74 rfl (fun c_74 => ?_) (fun c_74 => ?_)
              · (try simp (disch := omega) only [zb_e0, zb_n0, w32_id, w64_id, ne_eq, Classical.not_not] at c_74)
                refine x_iconst (pc := 81) dX7_areApart_81 ?_
                refine x_istore_n (pc := 82) dX7_areApart_82 (by decide) ?_
                refine x_iinc (pc := 83) dX7_areApart_83 rfl (by decide) ?_
                refine x_goto (pc := 86) 8 dX7_areApart_86 rfl ?_
                first
                | (have hN : apL s t (kr.take (i + 1)) := by rw [htk, apL_snoc]; first | exact Or.inl (by assumption) | exact Or.inr (by omega)
                   refine x_loc [(4, iV (b + ((i + 1 : Nat) : Int))), (3, iV (zb (apL s t (kr.take (i + 1))))), (0, rV m), (1, iV s), (2, iV t)] (by rw [zb_t hN, show b + ((i + 1 : Nat) : Int) = b + i + 1 by omega]; exact ⟨rfl, rfl, rfl, rfl, rfl, trivial⟩) (ih (i + 1) (by omega) (by omega)))
                | (have hN : ¬ apL s t (kr.take (i + 1)) := by
                     rw [htk, apL_snoc]
                     intro z
                     rcases z with z | z
                     · exact c_18 z
                     · omega
                   refine x_loc [(4, iV (b + ((i + 1 : Nat) : Int))), (3, iV (zb (apL s t (kr.take (i + 1))))), (0, rV m), (1, iV s), (2, iV t)] (by rw [zb_f hN, show b + ((i + 1 : Nat) : Int) = b + i + 1 by omega]; exact ⟨rfl, rfl, rfl, rfl, rfl, trivial⟩) (ih (i + 1) (by omega) (by omega)))
              · (try simp (disch := omega) only [zb_e0, zb_n0, w32_id, w64_id, ne_eq, Classical.not_not] at c_74)
                refine x_iconst (pc := 77) dX7_areApart_77 ?_
                refine x_goto (pc := 78) 82 dX7_areApart_78 rfl ?_
                refine x_istore_n (pc := 82) dX7_areApart_82 (by decide) ?_
                refine x_iinc (pc := 83) dX7_areApart_83 rfl (by decide) ?_
                refine x_goto (pc := 86) 8 dX7_areApart_86 rfl ?_
                first
                | (have hN : apL s t (kr.take (i + 1)) := by rw [htk, apL_snoc]; first | exact Or.inl (by assumption) | exact Or.inr (by omega)
                   refine x_loc [(4, iV (b + ((i + 1 : Nat) : Int))), (3, iV (zb (apL s t (kr.take (i + 1))))), (0, rV m), (1, iV s), (2, iV t)] (by rw [zb_t hN, show b + ((i + 1 : Nat) : Int) = b + i + 1 by omega]; exact ⟨rfl, rfl, rfl, rfl, rfl, trivial⟩) (ih (i + 1) (by omega) (by omega)))
                | (have hN : ¬ apL s t (kr.take (i + 1)) := by
                     rw [htk, apL_snoc]
                     intro z
                     rcases z with z | z
                     · exact c_18 z
                     · omega
                   refine x_loc [(4, iV (b + ((i + 1 : Nat) : Int))), (3, iV (zb (apL s t (kr.take (i + 1))))), (0, rV m), (1, iV s), (2, iV t)] (by rw [zb_f hN, show b + ((i + 1 : Nat) : Int) = b + i + 1 by omega]; exact ⟨rfl, rfl, rfl, rfl, rfl, trivial⟩) (ih (i + 1) (by omega) (by omega)))
          · (try simp (disch := omega) only [zb_e0, zb_n0, w32_id, w64_id, ne_eq, Classical.not_not] at c_41)
            refine x_aload_n (pc := 44) dX7_areApart_44 rfl ?_
            refine x_getF (pc := 45) dX7_areApart_45 f_RX7_19 (by assumption) (by rfl) ?_
            refine x_iload (pc := 48) dX7_areApart_48 rfl ?_
            refine x_iald (pc := 50) dX7_areApart_50 (by assumption) (by omega) (by omega) (fun b_50 => ?_)
            rw [r3] at b_50 ⊢
            refine x_iload_n (pc := 51) dX7_areApart_51 rfl ?_
            refine x_icmp_eq (pc := 52) 77 dX7_areApart_52 rfl (fun c_52 => ?_) (fun c_52 => ?_)
            · (try simp (disch := omega) only [zb_e0, zb_n0, w32_id, w64_id, ne_eq, Classical.not_not] at c_52)
              refine x_iconst (pc := 77) dX7_areApart_77 ?_
              refine x_goto (pc := 78) 82 dX7_areApart_78 rfl ?_
              refine x_istore_n (pc := 82) dX7_areApart_82 (by decide) ?_
              refine x_iinc (pc := 83) dX7_areApart_83 rfl (by decide) ?_
              refine x_goto (pc := 86) 8 dX7_areApart_86 rfl ?_
              first
              | (have hN : apL s t (kr.take (i + 1)) := by rw [htk, apL_snoc]; first | exact Or.inl (by assumption) | exact Or.inr (by omega)
                 refine x_loc [(4, iV (b + ((i + 1 : Nat) : Int))), (3, iV (zb (apL s t (kr.take (i + 1))))), (0, rV m), (1, iV s), (2, iV t)] (by rw [zb_t hN, show b + ((i + 1 : Nat) : Int) = b + i + 1 by omega]; exact ⟨rfl, rfl, rfl, rfl, rfl, trivial⟩) (ih (i + 1) (by omega) (by omega)))
              | (have hN : ¬ apL s t (kr.take (i + 1)) := by
                   rw [htk, apL_snoc]
                   intro z
                   rcases z with z | z
                   · exact c_18 z
                   · omega
                 refine x_loc [(4, iV (b + ((i + 1 : Nat) : Int))), (3, iV (zb (apL s t (kr.take (i + 1))))), (0, rV m), (1, iV s), (2, iV t)] (by rw [zb_f hN, show b + ((i + 1 : Nat) : Int) = b + i + 1 by omega]; exact ⟨rfl, rfl, rfl, rfl, rfl, trivial⟩) (ih (i + 1) (by omega) (by omega)))
            · (try simp (disch := omega) only [zb_e0, zb_n0, w32_id, w64_id, ne_eq, Classical.not_not] at c_52)
              refine x_aload_n (pc := 55) dX7_areApart_55 rfl ?_
              refine x_getF (pc := 56) dX7_areApart_56 f_RX7_16 (by assumption) (by rfl) ?_
              refine x_iload (pc := 59) dX7_areApart_59 rfl ?_
              refine x_iald (pc := 61) dX7_areApart_61 (by assumption) (by omega) (by omega) (fun b_61 => ?_)
              rw [r2] at b_61 ⊢
              refine x_iload_n (pc := 62) dX7_areApart_62 rfl ?_
              refine x_icmp_ne (pc := 63) 81 dX7_areApart_63 rfl (fun c_63 => ?_) (fun c_63 => ?_)
              · (try simp (disch := omega) only [zb_e0, zb_n0, w32_id, w64_id, ne_eq, Classical.not_not] at c_63)
                refine x_iconst (pc := 81) dX7_areApart_81 ?_
                refine x_istore_n (pc := 82) dX7_areApart_82 (by decide) ?_
                refine x_iinc (pc := 83) dX7_areApart_83 rfl (by decide) ?_
                refine x_goto (pc := 86) 8 dX7_areApart_86 rfl ?_
                first
                | (have hN : apL s t (kr.take (i + 1)) := by rw [htk, apL_snoc]; first | exact Or.inl (by assumption) | exact Or.inr (by omega)
                   refine x_loc [(4, iV (b + ((i + 1 : Nat) : Int))), (3, iV (zb (apL s t (kr.take (i + 1))))), (0, rV m), (1, iV s), (2, iV t)] (by rw [zb_t hN, show b + ((i + 1 : Nat) : Int) = b + i + 1 by omega]; exact ⟨rfl, rfl, rfl, rfl, rfl, trivial⟩) (ih (i + 1) (by omega) (by omega)))
                | (have hN : ¬ apL s t (kr.take (i + 1)) := by
                     rw [htk, apL_snoc]
                     intro z
                     rcases z with z | z
                     · exact c_18 z
                     · omega
                   refine x_loc [(4, iV (b + ((i + 1 : Nat) : Int))), (3, iV (zb (apL s t (kr.take (i + 1))))), (0, rV m), (1, iV s), (2, iV t)] (by rw [zb_f hN, show b + ((i + 1 : Nat) : Int) = b + i + 1 by omega]; exact ⟨rfl, rfl, rfl, rfl, rfl, trivial⟩) (ih (i + 1) (by omega) (by omega)))
              · (try simp (disch := omega) only [zb_e0, zb_n0, w32_id, w64_id, ne_eq, Classical.not_not] at c_63)
                refine x_aload_n (pc := 66) dX7_areApart_66 rfl ?_
                refine x_getF (pc := 67) dX7_areApart_67 f_RX7_19 (by assumption) (by rfl) ?_
                refine x_iload (pc := 70) dX7_areApart_70 rfl ?_
                refine x_iald (pc := 72) dX7_areApart_72 (by assumption) (by omega) (by omega) (fun b_72 => ?_)
                rw [r3] at b_72 ⊢
                refine x_iload_n (pc := 73) dX7_areApart_73 rfl ?_
                refine x_icmp_ne (pc := 74) 81 dX7_areApart_74 rfl (fun c_74 => ?_) (fun c_74 => ?_)
                · (try simp (disch := omega) only [zb_e0, zb_n0, w32_id, w64_id, ne_eq, Classical.not_not] at c_74)
                  refine x_iconst (pc := 81) dX7_areApart_81 ?_
                  refine x_istore_n (pc := 82) dX7_areApart_82 (by decide) ?_
                  refine x_iinc (pc := 83) dX7_areApart_83 rfl (by decide) ?_
                  refine x_goto (pc := 86) 8 dX7_areApart_86 rfl ?_
                  first
                  | (have hN : apL s t (kr.take (i + 1)) := by rw [htk, apL_snoc]; first | exact Or.inl (by assumption) | exact Or.inr (by omega)
                     refine x_loc [(4, iV (b + ((i + 1 : Nat) : Int))), (3, iV (zb (apL s t (kr.take (i + 1))))), (0, rV m), (1, iV s), (2, iV t)] (by rw [zb_t hN, show b + ((i + 1 : Nat) : Int) = b + i + 1 by omega]; exact ⟨rfl, rfl, rfl, rfl, rfl, trivial⟩) (ih (i + 1) (by omega) (by omega)))
                  | (have hN : ¬ apL s t (kr.take (i + 1)) := by
                       rw [htk, apL_snoc]
                       intro z
                       rcases z with z | z
                       · exact c_18 z
                       · omega
                     refine x_loc [(4, iV (b + ((i + 1 : Nat) : Int))), (3, iV (zb (apL s t (kr.take (i + 1))))), (0, rV m), (1, iV s), (2, iV t)] (by rw [zb_f hN, show b + ((i + 1 : Nat) : Int) = b + i + 1 by omega]; exact ⟨rfl, rfl, rfl, rfl, rfl, trivial⟩) (ih (i + 1) (by omega) (by omega)))
                · (try simp (disch := omega) only [zb_e0, zb_n0, w32_id, w64_id, ne_eq, Classical.not_not] at c_74)
                  refine x_iconst (pc := 77) dX7_areApart_77 ?_
                  refine x_goto (pc := 78) 82 dX7_areApart_78 rfl ?_
                  refine x_istore_n (pc := 82) dX7_areApart_82 (by decide) ?_
                  refine x_iinc (pc := 83) dX7_areApart_83 rfl (by decide) ?_
                  refine x_goto (pc := 86) 8 dX7_areApart_86 rfl ?_
                  first
                  | (have hN : apL s t (kr.take (i + 1)) := by rw [htk, apL_snoc]; first | exact Or.inl (by assumption) | exact Or.inr (by omega)
                     refine x_loc [(4, iV (b + ((i + 1 : Nat) : Int))), (3, iV (zb (apL s t (kr.take (i + 1))))), (0, rV m), (1, iV s), (2, iV t)] (by rw [zb_t hN, show b + ((i + 1 : Nat) : Int) = b + i + 1 by omega]; exact ⟨rfl, rfl, rfl, rfl, rfl, trivial⟩) (ih (i + 1) (by omega) (by omega)))
                  | (have hN : ¬ apL s t (kr.take (i + 1)) := by
                       rw [htk, apL_snoc]
                       intro z
                       rcases z with z | z
                       · exact c_18 z
                       · omega
                     refine x_loc [(4, iV (b + ((i + 1 : Nat) : Int))), (3, iV (zb (apL s t (kr.take (i + 1))))), (0, rV m), (1, iV s), (2, iV t)] (by rw [zb_f hN, show b + ((i + 1 : Nat) : Int) = b + i + 1 by omega]; exact ⟨rfl, rfl, rfl, rfl, rfl, trivial⟩) (ih (i + 1) (by omega) (by omega)))

set_option maxHeartbeats 4000000 in
set_option maxRecDepth 100000 in
theorem c_m_areApart {m : Int} (hM : isMT ty m) {b : Int} {kr : List Row} {s t : Int} (hc : i32 s ∧ i32 t) (hC : CurIs h m b kr) (hq : Q (some (iV (zb (apL s t kr)))) ty sz h) : zXM D mX7_areApart (d + 2) 0 0 [rV m, iV s, iV t] ty sz h Q := by
  have hM0 := hM
  obtain ⟨m9, m0, a1, a2, a3, a4, a5, a6, a7, a8, a9, a10, a11, a12, a13, a14, a15, a16, a17, a18, a19, a20, a21⟩ := hM
  refine x_iconst (pc := 0) dX7_areApart_0 ?_
  refine x_istore_n (pc := 1) dX7_areApart_1 (by decide) ?_
  refine x_aload_n (pc := 2) dX7_areApart_2 rfl ?_
  refine y_getI 11 (pc := 3) dX7_areApart_3 f_RX7_107 (by assumption) rfl (fun b_3 => ?_)
  rw [hC.2.1]
  refine x_istore (pc := 6) dX7_areApart_6 (by decide) ?_
  exact x_loc _ (by exact ⟨by show _ = some (iV (b + ((0 : Nat) : Int))); rw [show b + ((0 : Nat) : Int) = b by omega]; rfl, by rw [List.take_zero, zb_f (apL_nil s t)]; rfl, rfl, rfl, rfl, trivial⟩) (c_m_areApart_l hM0 hc hC hq (kr.length + 1) 0 (by omega) (by omega))

set_option maxHeartbeats 4000000 in
set_option maxRecDepth 100000 in
theorem c_m_lastWeight_l {m : Int} (hM : isMT ty m) {b : Int} {kr : List Row}  (hC : CurIs h m b kr) (hq : Q (some (iV (lwL kr))) ty sz h) : ∀ (n : Nat) (i : Nat), i ≤ kr.length → kr.length - i < n → zX D mX7_lastWeight (d + 2) 0 0 7 [(2, iV (b + i)), (1, iV (lwL (kr.take i))), (0, rV m)] [] ty sz h Q := by
  intro n
  induction n with
  | zero =>
    intro i h1 hm
    exfalso
    omega
  | succ n ih =>
    intro i h1 hm
    have hM0 := hM
    obtain ⟨m9, m0, a1, a2, a3, a4, a5, a6, a7, a8, a9, a10, a11, a12, a13, a14, a15, a16, a17, a18, a19, a20, a21⟩ := hM
    obtain ⟨hR, hb1, hb2, hb3, hb4⟩ := hC
    
    refine x_iload_n (pc := 7) dX7_lastWeight_7 rfl ?_
    refine x_aload_n (pc := 8) dX7_lastWeight_8 rfl ?_
    refine x_callV0 (pc := 9) dX7_lastWeight_9 (k_RX7_110 _ rfl) tmv_X7_lastRow (by assumption) rfl rfl rfl ?_
    refine c_m_lastRow (N := b + kr.length - 2600) hM0 (by omega) (by omega) ?_
    rw [show 2600 + (b + (kr.length : Int) - 2600) = b + kr.length by omega]
    dsimp only [Option.toList, List.cons_append, List.nil_append]
    refine x_icmp_ge (pc := 12) 43 dX7_lastWeight_12 rfl (fun c_12 => ?_) (fun c_12 => ?_)
    · (try simp (disch := omega) only [zb_e0, zb_n0, w32_id, w64_id, ne_eq, Classical.not_not] at c_12)
      refine x_iload_n (pc := 43) dX7_lastWeight_43 rfl ?_
      refine x_retv (pc := 44) ⟨dX7_lastWeight_44, Or.inl rfl⟩ ?_
      rw [show i = kr.length by omega, List.take_length]
      exact hq
    · (try simp (disch := omega) only [zb_e0, zb_n0, w32_id, w64_id, ne_eq, Classical.not_not] at c_12)
      obtain ⟨r, hr⟩ : ∃ r, kr[i]? = some r := ⟨_, List.getElem?_eq_getElem (by omega)⟩
      obtain ⟨r1, r2, r3, r4⟩ := hR i r hr
      have htk := take_snoc hr
      refine x_aload_n (pc := 15) dX7_lastWeight_15 rfl ?_
      refine x_getF (pc := 16) dX7_lastWeight_16 f_RX7_13 (by assumption) (by rfl) ?_
      refine x_iload_n (pc := 19) dX7_lastWeight_19 rfl ?_
      refine x_iald (pc := 20) dX7_lastWeight_20 (by assumption) (by omega) (by omega) (fun b_20 => ?_)
      rw [r1] at b_20 ⊢
      refine x_bipush (pc := 21) dX7_lastWeight_21 (by decide) ?_
      refine x_icmp_ne (pc := 23) 35 dX7_lastWeight_23 rfl (fun c_23 => ?_) (fun c_23 => ?_)
      · (try simp (disch := omega) only [zb_e0, zb_n0, w32_id, w64_id, ne_eq, Classical.not_not] at c_23)
        refine x_iload_n (pc := 35) dX7_lastWeight_35 rfl ?_
        refine x_istore_n (pc := 36) dX7_lastWeight_36 (by decide) ?_
        refine x_iinc (pc := 37) dX7_lastWeight_37 rfl (by decide) ?_
        refine x_goto (pc := 40) 7 dX7_lastWeight_40 rfl ?_
        first
        | (have hN : lwL (kr.take (i + 1)) = r.2.1 := by rw [htk, lwL_snoc, if_pos (by assumption)]
           refine x_loc _ (by rw [← hN]; exact ⟨by show _ = some (iV (b + ((i + 1 : Nat) : Int))); rw [show b + ((i + 1 : Nat) : Int) = b + i + 1 by omega]; rfl, rfl, rfl, trivial⟩) (ih (i + 1) (by omega) (by omega)))
        | (have hN : lwL (kr.take (i + 1)) = lwL (kr.take i) := by rw [htk, lwL_snoc, if_neg (by assumption)]
           refine x_loc _ (by rw [← hN]; exact ⟨by show _ = some (iV (b + ((i + 1 : Nat) : Int))); rw [show b + ((i + 1 : Nat) : Int) = b + i + 1 by omega]; rfl, rfl, rfl, trivial⟩) (ih (i + 1) (by omega) (by omega)))
      · (try simp (disch := omega) only [zb_e0, zb_n0, w32_id, w64_id, ne_eq, Classical.not_not] at c_23)
        refine x_aload_n (pc := 26) dX7_lastWeight_26 rfl ?_
        refine x_getF (pc := 27) dX7_lastWeight_27 f_RX7_16 (by assumption) (by rfl) ?_
        refine x_iload_n (pc := 30) dX7_lastWeight_30 rfl ?_
        refine x_iald (pc := 31) dX7_lastWeight_31 (by assumption) (by omega) (by omega) (fun b_31 => ?_)
        rw [r2] at b_31 ⊢
        refine x_goto (pc := 32) 36 dX7_lastWeight_32 rfl ?_
        refine x_istore_n (pc := 36) dX7_lastWeight_36 (by decide) ?_
        refine x_iinc (pc := 37) dX7_lastWeight_37 rfl (by decide) ?_
        refine x_goto (pc := 40) 7 dX7_lastWeight_40 rfl ?_
        first
        | (have hN : lwL (kr.take (i + 1)) = r.2.1 := by rw [htk, lwL_snoc, if_pos (by assumption)]
           refine x_loc _ (by rw [← hN]; exact ⟨by show _ = some (iV (b + ((i + 1 : Nat) : Int))); rw [show b + ((i + 1 : Nat) : Int) = b + i + 1 by omega]; rfl, rfl, rfl, trivial⟩) (ih (i + 1) (by omega) (by omega)))
        | (have hN : lwL (kr.take (i + 1)) = lwL (kr.take i) := by rw [htk, lwL_snoc, if_neg (by assumption)]
           refine x_loc _ (by rw [← hN]; exact ⟨by show _ = some (iV (b + ((i + 1 : Nat) : Int))); rw [show b + ((i + 1 : Nat) : Int) = b + i + 1 by omega]; rfl, rfl, rfl, trivial⟩) (ih (i + 1) (by omega) (by omega)))

set_option maxHeartbeats 4000000 in
set_option maxRecDepth 100000 in
theorem c_m_lastWeight {m : Int} (hM : isMT ty m) {b : Int} {kr : List Row} (hC : CurIs h m b kr) (hq : Q (some (iV (lwL kr))) ty sz h) : zXM D mX7_lastWeight (d + 2) 0 0 [rV m] ty sz h Q := by
  have hM0 := hM
  obtain ⟨m9, m0, a1, a2, a3, a4, a5, a6, a7, a8, a9, a10, a11, a12, a13, a14, a15, a16, a17, a18, a19, a20, a21⟩ := hM
  refine x_iconst (pc := 0) dX7_lastWeight_0 ?_
  refine x_istore_n (pc := 1) dX7_lastWeight_1 (by decide) ?_
  refine x_aload_n (pc := 2) dX7_lastWeight_2 rfl ?_
  refine y_getI 11 (pc := 3) dX7_lastWeight_3 f_RX7_107 (by assumption) rfl (fun b_3 => ?_)
  rw [hC.2.1]
  refine x_istore_n (pc := 6) dX7_lastWeight_6 (by decide) ?_
  exact x_loc _ (by exact ⟨by show _ = some (iV (b + ((0 : Nat) : Int))); rw [show b + ((0 : Nat) : Int) = b by omega]; rfl, rfl, rfl, trivial⟩) (c_m_lastWeight_l hM0 hC hq (kr.length + 1) 0 (by omega) (by omega))

set_option maxHeartbeats 4000000 in
set_option maxRecDepth 100000 in
theorem c_m_addF {m : Int} (hM : isMT ty m) {c a e f : Int} (h4 : h m 4 ≠ -1) (hq : Q none ty sz h) : zXM D mX7_add (d + 2) 0 0 [rV m, iV c, iV a, iV e, iV f] ty sz h Q := by
  have hM0 := hM
  obtain ⟨m9, m0, a1, a2, a3, a4, a5, a6, a7, a8, a9, a10, a11, a12, a13, a14, a15, a16, a17, a18, a19, a20, a21⟩ := hM
  refine x_aload_n (pc := 0) dX7_add_0 rfl ?_
  refine y_getI 4 (pc := 1) dX7_add_1 f_RX7_85 (by assumption) rfl (fun b_1 => ?_)
  refine x_iconst (pc := 4) dX7_add_4 ?_
  refine x_icmp_eq (pc := 5) 9 dX7_add_5 rfl (fun c_5 => ?_) (fun c_5 => ?_)
  · (try simp (disch := omega) only [zb_e0, zb_n0, w32_id, w64_id, ne_eq, Classical.not_not] at c_5)
    exact absurd c_5 h4
  · (try simp (disch := omega) only [zb_e0, zb_n0, w32_id, w64_id, ne_eq, Classical.not_not] at c_5)
    refine x_ret (pc := 8) ⟨dX7_add_8, rfl⟩ ?_
    exact hq

set_option maxHeartbeats 4000000 in
set_option maxRecDepth 100000 in
theorem c_m_add {m : Int} (hM : isMT ty m) {c a e f N : Int} (hi : i32 c ∧ i32 a ∧ i32 e ∧ i32 f) (h4 : h m 4 = -1) (hN : h (m + 6) 5 = N) (h0 : 0 ≤ N ∧ N < 520) (hq : Q none ty sz (zup (zup (zup (zup (zup h (m + 2) (2600 + N) c) (m + 3) (2600 + N) a) (m + 4) (2600 + N) e) (m + 5) (2600 + N) f) (m + 6) 5 (N + 1))) : zXM D mX7_add (d + 2) 0 0 [rV m, iV c, iV a, iV e, iV f] ty sz h Q := by
  have hM0 := hM
  obtain ⟨m9, m0, a1, a2, a3, a4, a5, a6, a7, a8, a9, a10, a11, a12, a13, a14, a15, a16, a17, a18, a19, a20, a21⟩ := hM
  refine x_aload_n (pc := 0) dX7_add_0 rfl ?_
  refine y_getI 4 (pc := 1) dX7_add_1 f_RX7_85 (by assumption) rfl (fun b_1 => ?_)
  rw [h4]
  refine x_iconst (pc := 4) dX7_add_4 ?_
  refine x_icmp_eq (pc := 5) 9 dX7_add_5 rfl (fun c_5 => ?_) (fun c_5 => ?_)
  · (try simp (disch := omega) only [zb_e0, zb_n0, w32_id, w64_id, ne_eq, Classical.not_not] at c_5)
    refine x_aload_n (pc := 9) dX7_add_9 rfl ?_
    refine x_callV0 (pc := 10) dX7_add_10 (k_RX7_110 _ rfl) tmv_X7_lastRow (by assumption) rfl rfl rfl ?_
    refine c_m_lastRow (N := N) hM0 hN (by omega) ?_
    dsimp only [Option.toList, List.cons_append, List.nil_append]
    refine x_istore (pc := 13) dX7_add_13 (by decide) ?_
    refine x_aload_n (pc := 15) dX7_add_15 rfl ?_
    refine x_getF (pc := 16) dX7_add_16 f_RX7_13 (by assumption) (by rfl) ?_
    refine x_iload (pc := 19) dX7_add_19 rfl ?_
    refine x_iload_n (pc := 21) dX7_add_21 rfl ?_
    refine x_iast (pc := 22) dX7_add_22 (by assumption) (by omega) (by omega) (by rfl) (by omega) ?_
    refine x_aload_n (pc := 23) dX7_add_23 rfl ?_
    refine x_getF (pc := 24) dX7_add_24 f_RX7_16 (by assumption) (by rfl) ?_
    refine x_iload (pc := 27) dX7_add_27 rfl ?_
    refine x_iload_n (pc := 29) dX7_add_29 rfl ?_
    refine x_iast (pc := 30) dX7_add_30 (by assumption) (by omega) (by omega) (by rfl) (by omega) ?_
    refine x_aload_n (pc := 31) dX7_add_31 rfl ?_
    refine x_getF (pc := 32) dX7_add_32 f_RX7_19 (by assumption) (by rfl) ?_
    refine x_iload (pc := 35) dX7_add_35 rfl ?_
    refine x_iload_n (pc := 37) dX7_add_37 rfl ?_
    refine x_iast (pc := 38) dX7_add_38 (by assumption) (by omega) (by omega) (by rfl) (by omega) ?_
    refine x_aload_n (pc := 39) dX7_add_39 rfl ?_
    refine x_getF (pc := 40) dX7_add_40 f_RX7_22 (by assumption) (by rfl) ?_
    refine x_iload (pc := 43) dX7_add_43 rfl ?_
    refine x_iload (pc := 45) dX7_add_45 rfl ?_
    refine x_iast (pc := 47) dX7_add_47 (by assumption) (by omega) (by omega) (by rfl) (by omega) ?_
    refine x_aload_n (pc := 48) dX7_add_48 rfl ?_
    refine x_getF (pc := 49) dX7_add_49 f_RX7_25 (by assumption) (by rfl) ?_
    refine x_iconst (pc := 52) dX7_add_52 ?_
    refine x_dup2 (pc := 53) dX7_add_53 rfl rfl ?_
    refine x_iald (pc := 54) dX7_add_54 (by assumption) (by omega) (by omega) (fun b_54 => ?_)
    rw [show zup (zup (zup (zup h (m + 2) (2600 + N) c) (m + 3) (2600 + N) a) (m + 4) (2600 + N) e) (m + 5) (2600 + N) f (m + 6) 5 = N by rw [zup_ne (by omega), zup_ne (by omega), zup_ne (by omega), zup_ne (by omega), hN]]
    refine x_iconst (pc := 55) dX7_add_55 ?_
    refine x_iadd (pc := 56) dX7_add_56 ?_
    refine x_iast (pc := 57) dX7_add_57 (by assumption) (by omega) (by omega) (by rfl) (by omega) ?_
    refine x_ret (pc := 58) ⟨dX7_add_58, rfl⟩ ?_
    exact hq
  · (try simp (disch := omega) only [zb_e0, zb_n0, w32_id, w64_id, ne_eq, Classical.not_not] at c_5)
    exact absurd trivial c_5

end C22
