section C2
variable {D : va_G} {d : Nat} {ty : zT} {sz : Nat} {h : zH} {Q : zQ}
theorem zor_rng (a b : Int) : i32 (zor a b) := ⟨Int32.le_toInt _, by have := Int32.toInt_lt (Int32.ofInt a ||| Int32.ofInt b); unfold zor; omega⟩
theorem zand_rng (a b : Int) : i32 (zand a b) := ⟨Int32.le_toInt _, by have := Int32.toInt_lt (Int32.ofInt a &&& Int32.ofInt b); unfold zand; omega⟩
theorem zvol {a b c : Int} (ha : 1 ≤ a ∧ a ≤ 100000) (hb : 1 ≤ b ∧ b ≤ 100000) (hc : 1 ≤ c ∧ c ≤ 100000) : (1 ≤ a * b ∧ a * b ≤ 10000000000) ∧ 1 ≤ a * b * c ∧ a * b * c ≤ 1000000000000000 := by
  have h1 : 1 * 1 ≤ a * b := Int.mul_le_mul ha.1 hb.1 (by omega) (by omega)
  have h2 : a * b ≤ 100000 * 100000 := Int.mul_le_mul ha.2 hb.2 (by omega) (by omega)
  have h3 : 1 * 1 ≤ a * b * c := Int.mul_le_mul (by omega) hc.1 (by omega) (by omega)
  have h4 : a * b * c ≤ 10000000000 * 100000 := Int.mul_le_mul (by omega) hc.2 (by omega) (by omega)
  exact ⟨⟨by omega, by omega⟩, by omega, by omega⟩
theorem zdu_rng {a b : Int} (h0 : 0 ≤ a) (h1 : a ≤ 1000000000000000) (hb : b ≤ 1000000000000000) : 0 ≤ zdu a b ∧ zdu a b ≤ 2000000000000000 := by
  unfold zdu
  by_cases hb0 : 0 < b
  · rw [if_pos hb0]
    have e : (a + b - 1).tdiv b = (a + b - 1) / b := Int.tdiv_eq_ediv_of_nonneg (by omega)
    rw [e]
    have h3 : 0 ≤ (a + b - 1) / b := Int.ediv_nonneg (by omega) (by omega)
    have h4 : (a + b - 1) / b ≤ a + b - 1 := Int.ediv_le_self _ (by omega)
    omega
  · rw [if_neg hb0]
    omega
/-- the first place from i on, n places, at which p holds; -1 -/
noncomputable def zfst (p : Int → Prop) : Nat → Int → Int
  | 0, _ => -1
  | n + 1, i => @ite _ (p i) (Classical.propDecidable _) i (zfst p n (i + 1))
theorem zfst_y {p : Int → Prop} {n : Nat} {i : Int} (hp : p i) : zfst p (n + 1) i = i := if_pos hp
theorem zfst_n {p : Int → Prop} {n : Nat} {i : Int} (hp : ¬ p i) : zfst p (n + 1) i = zfst p n (i + 1) := if_neg hp
def hasS (h : zH) (it s : Int) : Prop := zand (h it 5) (zshl 1 s) ≠ 0
def kServ (h : zH) (a it : Int) : Prop := ∀ s, 0 ≤ s → s < 10 → hasS h it s → h (a + 4) s ≠ -1 ∧ zand (h (a + 5) s) (h it 5) = 0
def kTakes (h : zH) (a it zone day : Int) : Prop := (h a 12 = -1 ∨ (h a 12 ≤ day ∧ day ≤ h a 13)) ∧ (h a 8 = -1 ∨ (h it 2 ≤ h a 8 ∧ h it 3 ≤ h a 9 ∧ h it 4 ≤ h a 10)) ∧ h (a + 3) zone ≠ -1 ∧ kServ h a it
def kWeight (h : zH) (a it : Int) : Int := if h a 11 = -1 then h it 1 else (if zdu (h it 2 * h it 3 * h it 4) (h a 11) < h it 1 then h it 1 else zdu (h it 2 * h it 3 * h it 4) (h a 11))
noncomputable def kStep (h : zH) (a wt : Int) : Int := zfst (fun i => wt ≤ h (a + 1) i) (h a 1).toNat 0
def itOK (h : zH) (it : Int) : Prop := (1 ≤ h it 1 ∧ h it 1 ≤ 100000) ∧ (1 ≤ h it 2 ∧ h it 2 ≤ 100000) ∧ (1 ≤ h it 3 ∧ h it 3 ≤ 100000) ∧ (1 ≤ h it 4 ∧ h it 4 ≤ 100000)
def kClr (h : zH) (a : Int) : Prop := h a 0 = 0 ∧ h a 1 = 0 ∧ h a 7 = 0 ∧ (h a 8 = -1 ∧ h a 9 = -1 ∧ h a 10 = -1 ∧ h a 11 = -1 ∧ h a 12 = -1 ∧ h a 13 = -1 ∧ h a 14 = -1) ∧ ∀ z, 0 ≤ z → z < 10 → h (a + 3) z = -1 ∧ h (a + 4) z = -1 ∧ h (a + 5) z = 0
def kSameS (h : zH) (a b : Int) : Prop := h a 1 = h b 1 ∧ ∀ i, 0 ≤ i → i < h a 1 → h (a + 1) i = h (b + 1) i ∧ h (a + 2) i = h (b + 2) i
def kSameN (h : zH) (a b : Int) : Prop := ∀ i, 0 ≤ i → i < 10 → h (a + 3) i = h (b + 3) i ∧ h (a + 4) i = h (b + 4) i ∧ h (a + 5) i = h (b + 5) i
def kSameL (h : zH) (a b : Int) : Prop := h a 8 = h b 8 ∧ h a 9 = h b 9 ∧ h a 10 = h b 10 ∧ h a 11 = h b 11 ∧ h a 12 = h b 12 ∧ h a 13 = h b 13 ∧ h a 14 = h b 14

set_option maxHeartbeats 4000000 in
set_option maxRecDepth 100000 in
theorem c_has {it s : Int} (hI : isIT ty it) (hs : 0 ≤ s ∧ s ≤ 9) (hq : Q (some (iV (zb (hasS h it s)))) ty sz h) : zXM D mX2_has d 0 0 [rV it, iV s] ty sz h Q := by
  obtain ⟨i9, i0⟩ := hI
  have hz := zand_rng (h it 5) (zshl 1 s)
  unfold hasS at hq
  refine x_aload_n (pc := 0) dX2_has_0 rfl ?_
  refine y_getI 5 (pc := 1) dX2_has_1 f_RX2_25 (by assumption) rfl (fun b_1 => ?_)
  refine x_iconst (pc := 4) dX2_has_4 ?_
  refine x_iload_n (pc := 5) dX2_has_5 rfl ?_
  refine x_ishl (pc := 6) dX2_has_6 ?_
  refine x_iand (pc := 7) dX2_has_7 ?_
  refine x_if_eq (pc := 8) 15 dX2_has_8 rfl (fun c_8 => ?_) (fun c_8 => ?_)
  · (try simp (disch := omega) only [zb_e0, zb_n0, w32_id, w64_id, ne_eq, Classical.not_not] at c_8)
    refine x_iconst (pc := 15) dX2_has_15 ?_
    refine x_retv (pc := 16) ⟨dX2_has_16, Or.inr ⟨rfl, (by decide)⟩⟩ ?_
    first | (rw [zb_f (by omega)] at hq; exact hq) | (rw [zb_t (by omega)] at hq; exact hq)
  · (try simp (disch := omega) only [zb_e0, zb_n0, w32_id, w64_id, ne_eq, Classical.not_not] at c_8)
    refine x_iconst (pc := 11) dX2_has_11 ?_
    refine x_goto (pc := 12) 16 dX2_has_12 rfl ?_
    refine x_retv (pc := 16) ⟨dX2_has_16, Or.inr ⟨rfl, (by decide)⟩⟩ ?_
    first | (rw [zb_f (by omega)] at hq; exact hq) | (rw [zb_t (by omega)] at hq; exact hq)

set_option maxHeartbeats 4000000 in
set_option maxRecDepth 100000 in
theorem c_item_init {it a b c e f : Int} (hI : isIT ty it) (ha : i32 a ∧ i32 b ∧ i32 c ∧ i32 e ∧ i32 f) (hq : Q none ty sz (zup (zup (zup (zup (zup h it 0 a) it 1 b) it 2 c) it 3 e) it 4 f)) : zXM D mX2_init (d + 1) 0 0 [rV it, iV a, iV b, iV c, iV e, iV f] ty sz h Q := by
  obtain ⟨i9, i0⟩ := hI
  refine x_aload_n (pc := 0) dX2_init_0 rfl ?_
  refine x_objInit (pc := 1) dX2_init_1 (k_RX2_1 _ rfl) tobj_in tobj_code (by omega) (Nat.le_of_ble_eq_true rfl) ?_
  refine x_aload_n (pc := 4) dX2_init_4 rfl ?_
  refine x_iload_n (pc := 5) dX2_init_5 rfl ?_
  refine y_putIF 0 (pc := 6) dX2_init_6 f_RX2_7 (by assumption) rfl ⟨rfl, rfl⟩ (by rfl) (by omega) rfl ?_
  refine x_aload_n (pc := 9) dX2_init_9 rfl ?_
  refine x_iload_n (pc := 10) dX2_init_10 rfl ?_
  refine y_putIF 1 (pc := 11) dX2_init_11 f_RX2_13 (by assumption) rfl ⟨rfl, rfl⟩ (by rfl) (by omega) rfl ?_
  refine x_aload_n (pc := 14) dX2_init_14 rfl ?_
  refine x_iload_n (pc := 15) dX2_init_15 rfl ?_
  refine y_putIF 2 (pc := 16) dX2_init_16 f_RX2_16 (by assumption) rfl ⟨rfl, rfl⟩ (by rfl) (by omega) rfl ?_
  refine x_aload_n (pc := 19) dX2_init_19 rfl ?_
  refine x_iload (pc := 20) dX2_init_20 rfl ?_
  refine y_putIF 3 (pc := 22) dX2_init_22 f_RX2_19 (by assumption) rfl ⟨rfl, rfl⟩ (by rfl) (by omega) rfl ?_
  refine x_aload_n (pc := 25) dX2_init_25 rfl ?_
  refine x_iload (pc := 26) dX2_init_26 rfl ?_
  refine y_putIF 4 (pc := 28) dX2_init_28 f_RX2_22 (by assumption) rfl ⟨rfl, rfl⟩ (by rfl) (by omega) rfl ?_
  refine x_ret (pc := 31) ⟨dX2_init_31, rfl⟩ ?_
  exact hq

set_option maxHeartbeats 4000000 in
set_option maxRecDepth 100000 in
theorem c_k_addStep {a x y : Int} (hK : isKT ty a) (hx : i32 x) (hy : i32 y) (hs : 0 ≤ h a 1 ∧ h a 1 < 10) (hq : Q none ty sz (zup (zup (zup h (a + 1) (h a 1) x) (a + 2) (h a 1) y) a 1 (h a 1 + 1))) : zXM D mX3_addStep (d + 1) 0 0 [rV a, iV x, iV y] ty sz h Q := by
  obtain ⟨k9, k0, k1, k2, k3, k4, k5⟩ := hK
  refine x_aload_n (pc := 0) dX3_addStep_0 rfl ?_
  refine x_getF (pc := 1) dX3_addStep_1 f_RX3_9 (by assumption) (by rfl) ?_
  refine x_aload_n (pc := 4) dX3_addStep_4 rfl ?_
  refine y_getI 1 (pc := 5) dX3_addStep_5 f_RX3_31 (by assumption) rfl (fun b_5 => ?_)
  refine x_iload_n (pc := 8) dX3_addStep_8 rfl ?_
  refine x_callS3 (pc := 9) dX3_addStep_9 (k_RX3_63 _ rfl) tms_X6_put rfl rfl ?_
  refine c_put (N := 10) (by omega) (by omega) (by omega) (by assumption) (by decide) (by omega) ?_
  dsimp only [Option.toList, List.cons_append, List.nil_append]
  refine x_aload_n (pc := 12) dX3_addStep_12 rfl ?_
  refine x_getF (pc := 13) dX3_addStep_13 f_RX3_15 (by assumption) (by rfl) ?_
  refine x_aload_n (pc := 16) dX3_addStep_16 rfl ?_
  refine y_getI 1 (pc := 17) dX3_addStep_17 f_RX3_31 (by assumption) rfl (fun b_17 => ?_)
  refine x_iload_n (pc := 20) dX3_addStep_20 rfl ?_
  refine x_callS3 (pc := 21) dX3_addStep_21 (k_RX3_63 _ rfl) tms_X6_put rfl rfl ?_
  have e1 : zup h (a + 1) (h a 1) x a 1 = h a 1 := by rw [zup_ne (by omega)]
  rw [e1]
  refine c_put (N := 10) (by omega) (by omega) (by omega) (by assumption) (by decide) (by omega) ?_
  have e2 : zup (zup h (a + 1) (h a 1) x) (a + 2) (h a 1) y a 1 = h a 1 := by rw [zup_ne (by omega), zup_ne (by omega)]
  dsimp only [Option.toList, List.cons_append, List.nil_append]
  refine x_aload_n (pc := 24) dX3_addStep_24 rfl ?_
  refine x_dup (pc := 25) dX3_addStep_25 rfl ?_
  refine y_getI 1 (pc := 26) dX3_addStep_26 f_RX3_31 (by assumption) rfl (fun b_26 => ?_)
  rw [e2]
  refine x_iconst (pc := 29) dX3_addStep_29 ?_
  refine x_iadd (pc := 30) dX3_addStep_30 ?_
  refine y_putI 1 (pc := 31) dX3_addStep_31 f_RX3_31 (by assumption) rfl (by rfl) (by omega) rfl ?_
  refine x_ret (pc := 34) ⟨dX3_addStep_34, rfl⟩ ?_
  exact hq

set_option maxHeartbeats 4000000 in
set_option maxRecDepth 100000 in
theorem c_k_exclude {a s t : Int} (hK : isKT ty a) (hs : 0 ≤ s ∧ s ≤ 9) (ht : 0 ≤ t ∧ t ≤ 9) (hst : s ≠ t) (hn : 0 ≤ h a 7 ∧ h a 7 ≤ 100) (hq : Q none ty sz (zup (zup (zup h (a + 5) s (zor (h (a + 5) s) (zshl 1 t))) (a + 5) t (zor (h (a + 5) t) (zshl 1 s))) a 7 (h a 7 + 1))) : zXM D mX3_exclude (d + 1) 0 0 [rV a, iV s, iV t] ty sz h Q := by
  obtain ⟨k9, k0, k1, k2, k3, k4, k5⟩ := hK
  refine x_aload_n (pc := 0) dX3_exclude_0 rfl ?_
  refine x_getF (pc := 1) dX3_exclude_1 f_RX3_24 (by assumption) (by rfl) ?_
  refine x_iload_n (pc := 4) dX3_exclude_4 rfl ?_
  refine x_aload_n (pc := 5) dX3_exclude_5 rfl ?_
  refine x_getF (pc := 6) dX3_exclude_6 f_RX3_24 (by assumption) (by rfl) ?_
  refine x_iload_n (pc := 9) dX3_exclude_9 rfl ?_
  refine x_callS2 (pc := 10) dX3_exclude_10 (k_RX3_67 _ rfl) tms_X6_cell rfl rfl ?_
  refine c_cellIn (N := 10) (by omega) (by omega) (by assumption) (by decide) (by omega) (fun bb => ?_)
  dsimp only [Option.toList, List.cons_append, List.nil_append]
  refine x_iconst (pc := 13) dX3_exclude_13 ?_
  refine x_iload_n (pc := 14) dX3_exclude_14 rfl ?_
  refine x_ishl (pc := 15) dX3_exclude_15 ?_
  refine x_ior (pc := 16) dX3_exclude_16 ?_
  refine x_callS3 (pc := 17) dX3_exclude_17 (k_RX3_63 _ rfl) tms_X6_put rfl rfl ?_
  refine c_put (N := 10) (by omega) (by omega) (zor_rng _ _) (by assumption) (by decide) (by omega) ?_
  dsimp only [Option.toList, List.cons_append, List.nil_append]
  refine x_aload_n (pc := 20) dX3_exclude_20 rfl ?_
  refine x_getF (pc := 21) dX3_exclude_21 f_RX3_24 (by assumption) (by rfl) ?_
  refine x_iload_n (pc := 24) dX3_exclude_24 rfl ?_
  refine x_aload_n (pc := 25) dX3_exclude_25 rfl ?_
  refine x_getF (pc := 26) dX3_exclude_26 f_RX3_24 (by assumption) (by rfl) ?_
  refine x_iload_n (pc := 29) dX3_exclude_29 rfl ?_
  refine x_callS2 (pc := 30) dX3_exclude_30 (k_RX3_67 _ rfl) tms_X6_cell rfl rfl ?_
  refine c_cellIn (N := 10) (by omega) (by omega) (by assumption) (by decide) (by omega) (fun bb => ?_)
  dsimp only [Option.toList, List.cons_append, List.nil_append]
  refine x_iconst (pc := 33) dX3_exclude_33 ?_
  refine x_iload_n (pc := 34) dX3_exclude_34 rfl ?_
  refine x_ishl (pc := 35) dX3_exclude_35 ?_
  refine x_ior (pc := 36) dX3_exclude_36 ?_
  refine x_callS3 (pc := 37) dX3_exclude_37 (k_RX3_63 _ rfl) tms_X6_put rfl rfl ?_
  have e1 : zup h (a + 5) s (zor (h (a + 5) s) (zshl 1 t)) (a + 5) t = h (a + 5) t := by
    rw [zup_app, if_neg (fun q => hst q.2.symm)]
  rw [e1]
  refine c_put (N := 10) (by omega) (by omega) (zor_rng _ _) (by assumption) (by decide) (by omega) ?_
  have e2 : zup (zup h (a + 5) s (zor (h (a + 5) s) (zshl 1 t))) (a + 5) t (zor (h (a + 5) t) (zshl 1 s)) a 7 = h a 7 := by rw [zup_ne (by omega), zup_ne (by omega)]
  dsimp only [Option.toList, List.cons_append, List.nil_append]
  refine x_aload_n (pc := 40) dX3_exclude_40 rfl ?_
  refine x_dup (pc := 41) dX3_exclude_41 rfl ?_
  refine y_getI 7 (pc := 42) dX3_exclude_42 f_RX3_39 (by assumption) rfl (fun b_42 => ?_)
  rw [e2]
  refine x_iconst (pc := 45) dX3_exclude_45 ?_
  refine x_iadd (pc := 46) dX3_exclude_46 ?_
  refine y_putI 7 (pc := 47) dX3_exclude_47 f_RX3_39 (by assumption) rfl (by rfl) (by omega) rfl ?_
  refine x_ret (pc := 50) ⟨dX3_exclude_50, rfl⟩ ?_
  exact hq

set_option maxHeartbeats 4000000 in
set_option maxRecDepth 100000 in
theorem c_k_excludes {a s t : Int} (hK : isKT ty a) (hs : 0 ≤ s ∧ s ≤ 9) (hq : Q (some (iV (zb (zand (h (a + 5) s) (zshl 1 t) ≠ 0)))) ty sz h) : zXM D mX3_excludes (d + 1) 0 0 [rV a, iV s, iV t] ty sz h Q := by
  obtain ⟨k9, k0, k1, k2, k3, k4, k5⟩ := hK
  have hz := zand_rng (h (a + 5) s) (zshl 1 t)
  refine x_aload_n (pc := 0) dX3_excludes_0 rfl ?_
  refine x_getF (pc := 1) dX3_excludes_1 f_RX3_24 (by assumption) (by rfl) ?_
  refine x_iload_n (pc := 4) dX3_excludes_4 rfl ?_
  refine x_callS2 (pc := 5) dX3_excludes_5 (k_RX3_67 _ rfl) tms_X6_cell rfl rfl ?_
  refine c_cellIn (N := 10) (by omega) (by omega) (by assumption) (by decide) (by omega) (fun bb => ?_)
  dsimp only [Option.toList, List.cons_append, List.nil_append]
  refine x_iconst (pc := 8) dX3_excludes_8 ?_
  refine x_iload_n (pc := 9) dX3_excludes_9 rfl ?_
  refine x_ishl (pc := 10) dX3_excludes_10 ?_
  refine x_iand (pc := 11) dX3_excludes_11 ?_
  refine x_if_eq (pc := 12) 19 dX3_excludes_12 rfl (fun c_12 => ?_) (fun c_12 => ?_)
  · (try simp (disch := omega) only [zb_e0, zb_n0, w32_id, w64_id, ne_eq, Classical.not_not] at c_12)
    refine x_iconst (pc := 19) dX3_excludes_19 ?_
    refine x_retv (pc := 20) ⟨dX3_excludes_20, Or.inr ⟨rfl, (by decide)⟩⟩ ?_
    first | (rw [zb_f (by omega)] at hq; exact hq) | (rw [zb_t (by omega)] at hq; exact hq)
  · (try simp (disch := omega) only [zb_e0, zb_n0, w32_id, w64_id, ne_eq, Classical.not_not] at c_12)
    refine x_iconst (pc := 15) dX3_excludes_15 ?_
    refine x_goto (pc := 16) 20 dX3_excludes_16 rfl ?_
    refine x_retv (pc := 20) ⟨dX3_excludes_20, Or.inr ⟨rfl, (by decide)⟩⟩ ?_
    first | (rw [zb_f (by omega)] at hq; exact hq) | (rw [zb_t (by omega)] at hq; exact hq)

set_option maxHeartbeats 4000000 in
set_option maxRecDepth 100000 in
theorem c_k_lastWeight {a : Int} (hK : isKT ty a) (hs : 0 ≤ h a 1 ∧ h a 1 ≤ 10) (hq : i32 (if 0 < h a 1 then h (a + 1) (h a 1 - 1) else 0) → Q (some (iV (if 0 < h a 1 then h (a + 1) (h a 1 - 1) else 0))) ty sz h) : zXM D mX3_lastWeight (d + 1) 0 0 [rV a] ty sz h Q := by
  obtain ⟨k9, k0, k1, k2, k3, k4, k5⟩ := hK
  refine x_aload_n (pc := 0) dX3_lastWeight_0 rfl ?_
  refine y_getI 1 (pc := 1) dX3_lastWeight_1 f_RX3_31 (by assumption) rfl (fun b_1 => ?_)
  refine x_if_le (pc := 4) 23 dX3_lastWeight_4 rfl (fun c_4 => ?_) (fun c_4 => ?_)
  · (try simp (disch := omega) only [zb_e0, zb_n0, w32_id, w64_id, ne_eq, Classical.not_not] at c_4)
    refine x_iconst (pc := 23) dX3_lastWeight_23 ?_
    refine x_retv (pc := 24) ⟨dX3_lastWeight_24, Or.inl rfl⟩ ?_
    first | (rw [if_neg (by omega)] at hq; exact hq (by omega)) | (rw [if_pos (by omega)] at hq; exact hq (by omega))
  · (try simp (disch := omega) only [zb_e0, zb_n0, w32_id, w64_id, ne_eq, Classical.not_not] at c_4)
    refine x_aload_n (pc := 7) dX3_lastWeight_7 rfl ?_
    refine x_getF (pc := 8) dX3_lastWeight_8 f_RX3_9 (by assumption) (by rfl) ?_
    refine x_aload_n (pc := 11) dX3_lastWeight_11 rfl ?_
    refine y_getI 1 (pc := 12) dX3_lastWeight_12 f_RX3_31 (by assumption) rfl (fun b_12 => ?_)
    refine x_iconst (pc := 15) dX3_lastWeight_15 ?_
    refine x_isub (pc := 16) dX3_lastWeight_16 ?_
    refine x_callS2 (pc := 17) dX3_lastWeight_17 (k_RX3_67 _ rfl) tms_X6_cell rfl rfl ?_
    refine c_cellIn (N := 10) (by omega) (by omega) (by assumption) (by decide) (by omega) (fun bb => ?_)
    dsimp only [Option.toList, List.cons_append, List.nil_append]
    refine x_goto (pc := 20) 24 dX3_lastWeight_20 rfl ?_
    refine x_retv (pc := 24) ⟨dX3_lastWeight_24, Or.inl rfl⟩ ?_
    first | (rw [if_neg (by omega)] at hq; exact hq (by omega)) | (rw [if_pos (by omega)] at hq; exact hq (by omega))

set_option maxHeartbeats 4000000 in
set_option maxRecDepth 100000 in
theorem c_k_tS_l {a it : Int} (hK : isKT ty a) (hI : isIT ty it) (hq : Q (some (iV (zb (kServ h a it)))) ty sz h) : ∀ (n : Nat) (s : Int), 0 ≤ s ∧ s ≤ 10 → (∀ u, 0 ≤ u → u < s → hasS h it u → h (a + 4) u ≠ -1 ∧ zand (h (a + 5) u) (h it 5) = 0) → 10 - s < n → zX D mX3_takesServices (d + 1) 0 0 2 [(2, iV s), (0, rV a), (1, rV it)] [] ty sz h Q := by
  intro n
  induction n with
  | zero =>
    intro s h1 h2 hm
    exfalso
    omega
  | succ n ih =>
    intro s h1 h2 hm
    have hK0 := hK
    have hI0 := hI
    obtain ⟨k9, k0, k1, k2, k3, k4, k5⟩ := hK
    obtain ⟨i9, i0⟩ := hI
    refine x_iload_n (pc := 2) dX3_takesServices_2 rfl ?_
    refine x_bipush (pc := 3) dX3_takesServices_3 (by decide) ?_
    refine x_icmp_ge (pc := 5) 52 dX3_takesServices_5 rfl (fun c_5 => ?_) (fun c_5 => ?_)
    · (try simp (disch := omega) only [zb_e0, zb_n0, w32_id, w64_id, ne_eq, Classical.not_not] at c_5)
      refine x_iconst (pc := 52) dX3_takesServices_52 ?_
      refine x_retv (pc := 53) ⟨dX3_takesServices_53, Or.inr ⟨rfl, (by decide)⟩⟩ ?_
      rw [zb_t (p := kServ h a it) (fun u hu1 hu2 => h2 u hu1 (by omega))] at hq
      exact hq
    · (try simp (disch := omega) only [zb_e0, zb_n0, w32_id, w64_id, ne_eq, Classical.not_not] at c_5)
      refine x_aload_n (pc := 8) dX3_takesServices_8 rfl ?_
      refine x_iload_n (pc := 9) dX3_takesServices_9 rfl ?_
      refine x_callV1 (pc := 10) dX3_takesServices_10 (k_RX3_80 _ rfl) tmv_X2_has (by assumption) rfl rfl rfl ?_
      refine c_has hI0 (by omega) ?_
      dsimp only [Option.toList, List.cons_append, List.nil_append]
      refine x_if_eq (pc := 13) 46 dX3_takesServices_13 rfl (fun c_13 => ?_) (fun c_13 => ?_)
      · (try simp (disch := omega) only [zb_e0, zb_n0, w32_id, w64_id, ne_eq, Classical.not_not] at c_13)
        refine x_iinc (pc := 46) dX3_takesServices_46 rfl (by decide) ?_
        refine x_goto (pc := 49) 2 dX3_takesServices_49 rfl ?_
        refine x_loc _ (by exact ⟨rfl, rfl, rfl, trivial⟩) (ih (s + 1) (by omega) (fun u hu1 hu2 hu3 => ?_) (by omega))
        by_cases e : u = s
        · subst e
          first
            | exact absurd hu3 c_13
            | exact ⟨c_25, by omega⟩
        · exact h2 u hu1 (by omega) hu3
      · (try simp (disch := omega) only [zb_e0, zb_n0, w32_id, w64_id, ne_eq, Classical.not_not] at c_13)
        refine x_aload_n (pc := 16) dX3_takesServices_16 rfl ?_
        refine x_getF (pc := 17) dX3_takesServices_17 f_RX3_21 (by assumption) (by rfl) ?_
        refine x_iload_n (pc := 20) dX3_takesServices_20 rfl ?_
        refine x_callS2 (pc := 21) dX3_takesServices_21 (k_RX3_67 _ rfl) tms_X6_cell rfl rfl ?_
        refine c_cellIn (N := 10) (by omega) (by omega) (by assumption) (by decide) (by omega) (fun bb => ?_)
        dsimp only [Option.toList, List.cons_append, List.nil_append]
        refine x_iconst (pc := 24) dX3_takesServices_24 ?_
        refine x_icmp_eq (pc := 25) 44 dX3_takesServices_25 rfl (fun c_25 => ?_) (fun c_25 => ?_)
        · (try simp (disch := omega) only [zb_e0, zb_n0, w32_id, w64_id, ne_eq, Classical.not_not] at c_25)
          refine x_iconst (pc := 44) dX3_takesServices_44 ?_
          refine x_retv (pc := 45) ⟨dX3_takesServices_45, Or.inr ⟨rfl, (by decide)⟩⟩ ?_
          rw [zb_f (p := kServ h a it) (fun q => ?_)] at hq
          · exact hq
          · have := q s (by omega) (by omega) c_13
            omega
        · (try simp (disch := omega) only [zb_e0, zb_n0, w32_id, w64_id, ne_eq, Classical.not_not] at c_25)
          refine x_aload_n (pc := 28) dX3_takesServices_28 rfl ?_
          refine x_getF (pc := 29) dX3_takesServices_29 f_RX3_24 (by assumption) (by rfl) ?_
          refine x_iload_n (pc := 32) dX3_takesServices_32 rfl ?_
          refine x_callS2 (pc := 33) dX3_takesServices_33 (k_RX3_67 _ rfl) tms_X6_cell rfl rfl ?_
          refine c_cellIn (N := 10) (by omega) (by omega) (by assumption) (by decide) (by omega) (fun bb => ?_)
          have hz := zand_rng (h (a + 5) s) (h it 5)
          dsimp only [Option.toList, List.cons_append, List.nil_append]
          refine x_aload_n (pc := 36) dX3_takesServices_36 rfl ?_
          refine y_getI 5 (pc := 37) dX3_takesServices_37 f_RX3_84 (by assumption) rfl (fun b_37 => ?_)
          refine x_iand (pc := 40) dX3_takesServices_40 ?_
          refine x_if_eq (pc := 41) 46 dX3_takesServices_41 rfl (fun c_41 => ?_) (fun c_41 => ?_)
          · (try simp (disch := omega) only [zb_e0, zb_n0, w32_id, w64_id, ne_eq, Classical.not_not] at c_41)
            refine x_iinc (pc := 46) dX3_takesServices_46 rfl (by decide) ?_
            refine x_goto (pc := 49) 2 dX3_takesServices_49 rfl ?_
            refine x_loc _ (by exact ⟨rfl, rfl, rfl, trivial⟩) (ih (s + 1) (by omega) (fun u hu1 hu2 hu3 => ?_) (by omega))
            by_cases e : u = s
            · subst e
              first
                | exact absurd hu3 c_13
                | exact ⟨c_25, by omega⟩
            · exact h2 u hu1 (by omega) hu3
          · (try simp (disch := omega) only [zb_e0, zb_n0, w32_id, w64_id, ne_eq, Classical.not_not] at c_41)
            refine x_iconst (pc := 44) dX3_takesServices_44 ?_
            refine x_retv (pc := 45) ⟨dX3_takesServices_45, Or.inr ⟨rfl, (by decide)⟩⟩ ?_
            rw [zb_f (p := kServ h a it) (fun q => ?_)] at hq
            · exact hq
            · have := q s (by omega) (by omega) c_13
              omega

set_option maxHeartbeats 4000000 in
set_option maxRecDepth 100000 in
theorem c_k_takesServices {a it : Int} (hK : isKT ty a) (hI : isIT ty it) (hq : Q (some (iV (zb (kServ h a it)))) ty sz h) : zXM D mX3_takesServices (d + 1) 0 0 [rV a, rV it] ty sz h Q := by
  refine x_iconst (pc := 0) dX3_takesServices_0 ?_
  refine x_istore_n (pc := 1) dX3_takesServices_1 (by decide) ?_
  exact x_loc _ (by exact ⟨rfl, rfl, rfl, trivial⟩) (c_k_tS_l hK hI hq 11 0 (by omega) (fun u h1 h2 => by omega) (by omega))

end C2
