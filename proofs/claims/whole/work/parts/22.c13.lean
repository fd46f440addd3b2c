section C13
variable {D : va_G} {d : Nat} {ty : zT} {sz : Nat} {h : zH} {Q : zQ}
/-- a number: at most so many digits from p on, behind the value v: value, place behind it -/
def numS (T : List Int) : Nat → Int → Int → Int × Int
  | 0, p, v => (v, p)
  | n + 1, p, v => if 48 ≤ lookT T p ∧ lookT T p ≤ 57 then numS T n (p + 1) (10 * v + lookT T p - 48) else (v, p)
def numR (T : List Int) (p : Int) : Int × Int := numS T 7 p 0
theorem numS_y {T : List Int} {n : Nat} {p v : Int} (hc : 48 ≤ lookT T p ∧ lookT T p ≤ 57) : numS T (n + 1) p v = numS T n (p + 1) (10 * v + lookT T p - 48) := if_pos hc
theorem numS_n {T : List Int} {n : Nat} {p v : Int} (hc : ¬ (48 ≤ lookT T p ∧ lookT T p ≤ 57)) : numS T (n + 1) p v = (v, p) := if_neg hc
theorem numS_r (T : List Int) : ∀ (n : Nat) (p v : Int), 0 ≤ v → v < 10 ^ (7 - n) → n ≤ 7 → 0 ≤ p → p ≤ T.length → 0 ≤ (numS T n p v).1 ∧ (numS T n p v).1 < 10 ^ 7 ∧ p ≤ (numS T n p v).2 ∧ (numS T n p v).2 ≤ T.length
  | 0, p, v, h0, h1, h2, h3, h4 => ⟨h0, h1, Int.le_refl _, h4⟩
  | n + 1, p, v, h0, h1, h2, h3, h4 => by
    by_cases hc : 48 ≤ lookT T p ∧ lookT T p ≤ 57
    · rw [numS_y hc]
      have hp : p < T.length := by
        rcases Int.lt_or_le p T.length with q | q
        · exact q
        · rw [lookT_out q] at hc; omega
      have h5 : (10 : Int) ^ (7 - n) = 10 * 10 ^ (7 - (n + 1)) := by
        rw [show 7 - n = (7 - (n + 1)) + 1 by omega, Int.pow_succ, Int.mul_comm]
      have := numS_r T n (p + 1) (10 * v + lookT T p - 48) (by omega) (by rw [h5]; omega) (by omega) (by omega) (by omega)
      exact ⟨this.1, this.2.1, by omega, this.2.2.2⟩
    · rw [numS_n hc]
      have h6 : (10 : Int) ^ (7 - (n + 1)) ≤ 10 ^ 7 := by
        have : n = 0 ∨ n = 1 ∨ n = 2 ∨ n = 3 ∨ n = 4 ∨ n = 5 ∨ n = 6 := by omega
        rcases this with e | e | e | e | e | e | e <;> subst e <;> decide
      exact ⟨h0, by show v < 10 ^ 7; omega, Int.le_refl _, h4⟩
theorem numR_r (T : List Int) {p : Int} (h0 : 0 ≤ p) (h1 : p ≤ T.length) : i10 (numR T p).1 ∧ p ≤ (numR T p).2 ∧ (numR T p).2 ≤ T.length := by
  have := numS_r T 7 p 0 (by omega) (by decide) (by omega) h0 h1
  unfold numR
  have e : (10 : Int) ^ 7 = 10000000 := by decide
  omega

theorem RdK_fr {h h' : zH} {r e : Int} {l : List Row} (hk : RdK h r e l) (h4 : h' r 4 = h r 4) (h5 : h' r 5 = h r 5) (ea : ∀ q, e ≤ q → q ≤ e + 61 → h' q = h q) : RdK h' r e l :=
  ⟨fun k k0 k1 => (hk.1 k k0 k1).fr (fun q q1 q2 => ea q (by omega) (by omega)), by rw [h4]; exact hk.2.1, by rw [h5]; exact hk.2.2.1, hk.2.2.2⟩
theorem PrIs_up {h : zH} {r k v : Int} {T : List Int} (hP : PrIs h r T) (hk : k ≠ 1) : PrIs (zup h r k v) r T := by
  refine ⟨?_, fun i c hi => ?_⟩
  · simp [zup_app, Ne.symm hk, hP.1]
  · rw [zup_ne (by omega)]; exact hP.2 i c hi

set_option maxHeartbeats 4000000 in
set_option maxRecDepth 100000 in
theorem c_r_num70 {r e c n a0 p : Int} {l : List Row} {T : List Int} (hR : isRT ty r) (hE : isET ty e) (hd : e + 61 < r ∨ r + 2 < e) (hk : RdK h r e l) (hP : PrIs h r T) (hT : TxOK T) (hp : h r 2 = p ∧ 0 ≤ p ∧ p ≤ T.length) (h3 : h r 3 = -1) (hc : isRowL c) (hl : c = 75 ∨ l ≠ []) (hn : 0 ≤ n ∧ n ≤ 2) (ha : n = 0 ∨ (h (r + 2) 0 = a0 ∧ i10 a0 ∧ (c = 69 → a0 ≤ 9))) (hq1 : ((numR T p).2 = p ∨ ¬ okN l c n (numR T p).1 a0) → Q none ty sz (zup (zup h r 2 (numR T p).2) r 3 p)) (hq2 : (numR T p).2 ≠ p → okN l c n (numR T p).1 a0 → Q none ty sz (zup (zup h r 2 (numR T p).2) (r + 2) n (numR T p).1)) {v : Int} (hv : numR T p = (v, (numR T p).2)) : zX D mX5_readNumber (d + 4) 0 0 70 [(4, iV v), (3, iV p), (0, rV r), (1, iV c), (2, iV n)] [] ty sz (zup h r 2 (numR T p).2) Q := by
  have hR0 := hR
  obtain ⟨r9, r0, r1, r2⟩ := hR
  have hnr := numR_r T hp.2.1 hp.2.2
  have e1 : (numR T p).1 = v := by rw [hv]
  rw [e1] at hnr hq1 hq2
  generalize (numR T p).2 = p' at *
  have e2 : zup h r 2 p' r 2 = p' := by simp [zup_app]
  have hk2 : RdK (zup h r 2 p') r e l := RdK_fr hk (by simp [zup_app]) (by simp [zup_app]) (fun q q1 q2 => zup_ne (by omega))
  have en : zup h r 2 p' (r + 2) = h (r + 2) := zup_ne (by omega)
  have hT1 := hT.1
  refine x_aload_n (pc := 70) dX5_readNumber_70 rfl ?_
  refine y_getI 2 (pc := 71) dX5_readNumber_71 f_RX5_39 (by assumption) rfl (fun b_71 => ?_)
  rw [e2]
  refine x_iload_n (pc := 74) dX5_readNumber_74 rfl ?_
  refine x_icmp_eq (pc := 75) 89 dX5_readNumber_75 rfl (fun c_75 => ?_) (fun c_75 => ?_)
  · (try simp (disch := omega) only [zb_e0, zb_n0, w32_id, w64_id, ne_eq, Classical.not_not] at c_75)
    refine x_aload_n (pc := 89) dX5_readNumber_89 rfl ?_
    refine x_iload_n (pc := 90) dX5_readNumber_90 rfl ?_
    refine y_putI 3 (pc := 91) dX5_readNumber_91 f_RX5_42 (by assumption) rfl (by rfl) (by omega) rfl ?_
    refine x_goto (pc := 94) 107 dX5_readNumber_94 rfl ?_
    exact x_ret (pc := 107) ⟨dX5_readNumber_107, rfl⟩ (hq1 (Or.inl c_75))
  · (try simp (disch := omega) only [zb_e0, zb_n0, w32_id, w64_id, ne_eq, Classical.not_not] at c_75)
    refine x_aload_n (pc := 78) dX5_readNumber_78 rfl ?_
    refine x_iload_n (pc := 79) dX5_readNumber_79 rfl ?_
    refine x_iload_n (pc := 80) dX5_readNumber_80 rfl ?_
    refine x_iload (pc := 81) dX5_readNumber_81 rfl ?_
    refine x_callV3 (pc := 83) dX5_readNumber_83 (k_RX5_84 _ rfl) tmv_X5_isAsSaid (by assumption) rfl rfl rfl ?_
    have hS : ∀ (q : Prop) (hq : q = okN l c n v a0), zXM D mX5_isAsSaid (d + 3) 0 0 [rV r, iV c, iV n, iV v] ty sz (zup h r 2 p') (fun w ty' sz' h' => zX D mX5_readNumber (d + 4) 0 0 86 [(4, iV v), (3, iV p), (0, rV r), (1, iV c), (2, iV n)] (w.toList ++ []) ty' sz' h' Q) → True := fun _ _ _ => trivial
    have F86 : zX D mX5_readNumber (d + 4) 0 0 86 [(4, iV v), (3, iV p), (0, rV r), (1, iV c), (2, iV n)] [iV (zb (okN l c n v a0))] ty sz (zup h r 2 p') Q := by
      refine x_if_ne (pc := 86) 97 dX5_readNumber_86 rfl (fun c_86 => ?_) (fun c_86 => ?_)
      · rw [zb_n0] at c_86
        refine x_aload_n (pc := 97) dX5_readNumber_97 rfl ?_
        refine x_getF (pc := 98) dX5_readNumber_98 f_RX5_15 (by assumption) (by rfl) ?_
        refine x_iload_n (pc := 101) dX5_readNumber_101 rfl ?_
        refine x_iload (pc := 102) dX5_readNumber_102 rfl ?_
        refine x_callS3 (pc := 104) dX5_readNumber_104 (k_RX5_22 _ rfl) tms_X6_put rfl rfl ?_
        refine c_put (N := 3) (by omega) (by omega) (by omega) (by assumption) (by decide) (by omega) ?_
        exact x_ret (pc := 107) ⟨dX5_readNumber_107, rfl⟩ (hq2 (by omega) c_86)
      · rw [zb_e0] at c_86
        refine x_aload_n (pc := 89) dX5_readNumber_89 rfl ?_
        refine x_iload_n (pc := 90) dX5_readNumber_90 rfl ?_
        refine y_putI 3 (pc := 91) dX5_readNumber_91 f_RX5_42 (by assumption) rfl (by rfl) (by omega) rfl ?_
        refine x_goto (pc := 94) 107 dX5_readNumber_94 rfl ?_
        exact x_ret (pc := 107) ⟨dX5_readNumber_107, rfl⟩ (hq1 (Or.inr c_86))
    by_cases h75 : c = 75
    · subst h75
      exact x_room (d' := d + 2) (by omega) (Nat.le_refl _) (Nat.le_refl _) (c_r_saidK hR0 hE hk2 hnr.1 F86)
    · exact c_r_said hR0 hE hk2 hc h75 (by rcases hl with q | q; exact absurd q h75; exact q) hn hnr.1 (by rw [en]; exact ha) F86

set_option maxHeartbeats 4000000 in
set_option maxRecDepth 100000 in
theorem c_r_num17 {r e c n a0 p : Int} {l : List Row} {T : List Int} (hR : isRT ty r) (hE : isET ty e) (hd : e + 61 < r ∨ r + 2 < e) (hk : RdK h r e l) (hP : PrIs h r T) (hT : TxOK T) (hp : h r 2 = p ∧ 0 ≤ p ∧ p ≤ T.length) (h3 : h r 3 = -1) (hc : isRowL c) (hl : c = 75 ∨ l ≠ []) (hn : 0 ≤ n ∧ n ≤ 2) (ha : n = 0 ∨ (h (r + 2) 0 = a0 ∧ i10 a0 ∧ (c = 69 → a0 ≤ 9))) (hq1 : ((numR T p).2 = p ∨ ¬ okN l c n (numR T p).1 a0) → Q none ty sz (zup (zup h r 2 (numR T p).2) r 3 p)) (hq2 : (numR T p).2 ≠ p → okN l c n (numR T p).1 a0 → Q none ty sz (zup (zup h r 2 (numR T p).2) (r + 2) n (numR T p).1)) : ∀ (m : Nat) (q v : Int), p ≤ q ∧ q ≤ p + 7 ∧ q ≤ T.length → 0 ≤ v ∧ v < 10 ^ (q - p).toNat → numS T m q v = numR T p → p + 7 - q = m → zX D mX5_readNumber (d + 4) 0 0 17 [(4, iV v), (3, iV p), (0, rV r), (1, iV c), (2, iV n)] [] ty sz (zup h r 2 q) Q := by
  intro m
  induction m with
  | zero =>
    intro q v h1 hv hs hm
    have hR0 := hR
    obtain ⟨r9, r0, r1, r2⟩ := hR
    have hT1 := hT.1
    have e2 : zup h r 2 q r 2 = q := by simp [zup_app]
    have eq : numR T p = (v, q) := hs.symm
    have e3 : (numR T p).2 = q := by rw [eq]
    refine x_aload_n (pc := 17) dX5_readNumber_17 rfl ?_
    refine y_getI 2 (pc := 18) dX5_readNumber_18 f_RX5_39 (by assumption) rfl (fun b_18 => ?_)
    rw [e2]
    refine x_iload_n (pc := 21) dX5_readNumber_21 rfl ?_
    refine x_bipush (pc := 22) dX5_readNumber_22 (by decide) ?_
    refine x_iadd (pc := 24) dX5_readNumber_24 ?_
    refine x_icmp_ge (pc := 25) 70 dX5_readNumber_25 rfl (fun c_25 => ?_) (fun c_25 => ?_)
    · have := c_r_num70 (D := D) (d := d) hR0 hE hd hk hP hT hp h3 hc hl hn ha hq1 hq2 (v := v) (by rw [eq])
      rw [e3] at this
      exact this
    · simp (disch := omega) only [w32_id] at c_25
      omega
  | succ m ih =>
    intro q v h1 hv hs hm
    have hR0 := hR
    obtain ⟨r9, r0, r1, r2⟩ := hR
    have hT1 := hT.1
    have e2 : zup h r 2 q r 2 = q := by simp [zup_app]
    have hP2 : PrIs (zup h r 2 q) r T := PrIs_up hP (by decide)
    have hlr := lookT_rng hT q
    have hv7 : v < 1000000 := by
      have h9 : (10 : Int) ^ (q - p).toNat ≤ 1000000 := by
        have : (q - p).toNat = 0 ∨ (q - p).toNat = 1 ∨ (q - p).toNat = 2 ∨ (q - p).toNat = 3 ∨ (q - p).toNat = 4 ∨ (q - p).toNat = 5 ∨ (q - p).toNat = 6 := by omega
        rcases this with e | e | e | e | e | e | e <;> rw [e] <;> decide
      omega
    refine x_aload_n (pc := 17) dX5_readNumber_17 rfl ?_
    refine y_getI 2 (pc := 18) dX5_readNumber_18 f_RX5_39 (by assumption) rfl (fun b_18 => ?_)
    rw [e2]
    refine x_iload_n (pc := 21) dX5_readNumber_21 rfl ?_
    refine x_bipush (pc := 22) dX5_readNumber_22 (by decide) ?_
    refine x_iadd (pc := 24) dX5_readNumber_24 ?_
    refine x_icmp_ge (pc := 25) 70 dX5_readNumber_25 rfl (fun c_25 => ?_) (fun c_25 => ?_)
    · (try simp (disch := omega) only [zb_e0, zb_n0, w32_id, w64_id, ne_eq, Classical.not_not] at c_25)
      omega
    · (try simp (disch := omega) only [zb_e0, zb_n0, w32_id, w64_id, ne_eq, Classical.not_not] at c_25)
      refine x_aload_n (pc := 28) dX5_readNumber_28 rfl ?_
      refine x_callV0 (pc := 29) dX5_readNumber_29 (k_RX5_57 _ rfl) tmv_X5_signHere (by assumption) rfl rfl rfl ?_
      refine c_r_look (T := T) hR0 hP2 hT (by rw [e2]; omega) ?_
      rw [e2]
      dsimp only [Option.toList, List.cons_append, List.nil_append]
      refine x_bipush (pc := 32) dX5_readNumber_32 (by decide) ?_
      refine x_bipush (pc := 34) dX5_readNumber_34 (by decide) ?_
      refine x_callS3 (pc := 36) dX5_readNumber_36 (k_RX5_80 _ rfl) tms_X6_isWithin rfl rfl ?_
      refine c_isWithin (by omega) (by omega) (by omega) ?_
      dsimp only [Option.toList, List.cons_append, List.nil_append]
      refine x_if_eq (pc := 39) 70 dX5_readNumber_39 rfl (fun c_39 => ?_) (fun c_39 => ?_)
      · (try simp (disch := omega) only [zb_e0, zb_n0, w32_id, w64_id, ne_eq, Classical.not_not] at c_39)
        rw [numS_n c_39] at hs
        have eq : numR T p = (v, q) := hs.symm
        have e3 : (numR T p).2 = q := by rw [eq]
        have := c_r_num70 (D := D) (d := d) hR0 hE hd hk hP hT hp h3 hc hl hn ha hq1 hq2 (v := v) (by rw [eq])
        rw [e3] at this
        exact this
      · (try simp (disch := omega) only [zb_e0, zb_n0, w32_id, w64_id, ne_eq, Classical.not_not] at c_39)
        refine x_iload (pc := 42) dX5_readNumber_42 rfl ?_
        refine x_bipush (pc := 44) dX5_readNumber_44 (by decide) ?_
        refine x_imul (pc := 46) dX5_readNumber_46 ?_
        refine x_aload_n (pc := 47) dX5_readNumber_47 rfl ?_
        refine x_callV0 (pc := 48) dX5_readNumber_48 (k_RX5_57 _ rfl) tmv_X5_signHere (by assumption) rfl rfl rfl ?_
        refine c_r_look (T := T) hR0 hP2 hT (by rw [e2]; omega) ?_
        rw [e2]
        dsimp only [Option.toList, List.cons_append, List.nil_append]
        refine x_iadd (pc := 51) dX5_readNumber_51 ?_
        refine x_bipush (pc := 52) dX5_readNumber_52 (by decide) ?_
        refine x_isub (pc := 54) dX5_readNumber_54 ?_
        refine x_istore (pc := 55) dX5_readNumber_55 (by decide) ?_
        refine x_aload_n (pc := 57) dX5_readNumber_57 rfl ?_
        refine x_dup (pc := 58) dX5_readNumber_58 rfl ?_
        refine y_getI 2 (pc := 59) dX5_readNumber_59 f_RX5_39 (by assumption) rfl (fun b_59 => ?_)
        rw [e2]
        refine x_iconst (pc := 62) dX5_readNumber_62 ?_
        refine x_iadd (pc := 63) dX5_readNumber_63 ?_
        refine y_putI 2 (pc := 64) dX5_readNumber_64 f_RX5_39 (by assumption) rfl (by rfl) (by omega) rfl ?_
        refine x_goto (pc := 67) 17 dX5_readNumber_67 rfl ?_
        rw [numS_y c_39] at hs
        have hq : q < T.length := by
          rcases Int.lt_or_le q T.length with z | z
          · exact z
          · rw [lookT_out z] at c_39; omega
        rw [zup_zup, show v * 10 + lookT T q - 48 = 10 * v + lookT T q - 48 by omega]
        refine x_loc _ (by exact ⟨rfl, rfl, rfl, rfl, rfl, trivial⟩) (ih (q + 1) (10 * v + lookT T q - 48) (by omega) ?_ hs (by omega))
        rw [show (q + 1 - p).toNat = (q - p).toNat + 1 by omega, Int.pow_succ]
        omega

set_option maxHeartbeats 4000000 in
set_option maxRecDepth 100000 in
theorem c_r_num {r e c n a0 p : Int} {l : List Row} {T : List Int} (hR : isRT ty r) (hE : isET ty e) (hd : e + 61 < r ∨ r + 2 < e) (hk : RdK h r e l) (hP : PrIs h r T) (hT : TxOK T) (hp : h r 2 = p ∧ 0 ≤ p ∧ p ≤ T.length) (h3 : h r 3 = -1) (hc : isRowL c) (hl : c = 75 ∨ l ≠ []) (hn : 0 ≤ n ∧ n ≤ 2) (ha : n = 0 ∨ (h (r + 2) 0 = a0 ∧ i10 a0 ∧ (c = 69 → a0 ≤ 9))) (hq1 : ((numR T p).2 = p ∨ ¬ okN l c n (numR T p).1 a0) → Q none ty sz (zup (zup h r 2 (numR T p).2) r 3 p)) (hq2 : (numR T p).2 ≠ p → okN l c n (numR T p).1 a0 → Q none ty sz (zup (zup h r 2 (numR T p).2) (r + 2) n (numR T p).1)) : zXM D mX5_readNumber (d + 4) 0 0 [rV r, iV c, iV n] ty sz h Q := by
  have hR0 := hR
  obtain ⟨r9, r0, r1, r2⟩ := hR
  have e9 : zup h r 2 p = h := by rw [← hp.1, zup_self]
  refine x_aload_n (pc := 0) dX5_readNumber_0 rfl ?_
  refine y_getI 3 (pc := 1) dX5_readNumber_1 f_RX5_42 (by assumption) rfl (fun b_1 => ?_)
  refine x_iconst (pc := 4) dX5_readNumber_4 ?_
  refine x_icmp_eq (pc := 5) 9 dX5_readNumber_5 rfl (fun c_5 => ?_) (fun c_5 => ?_)
  · (try simp (disch := omega) only [zb_e0, zb_n0, w32_id, w64_id, ne_eq, Classical.not_not] at c_5)
    refine x_aload_n (pc := 9) dX5_readNumber_9 rfl ?_
    refine y_getI 2 (pc := 10) dX5_readNumber_10 f_RX5_39 (by assumption) rfl (fun b_10 => ?_)
    rw [hp.1]
    refine x_istore_n (pc := 13) dX5_readNumber_13 (by decide) ?_
    refine x_iconst (pc := 14) dX5_readNumber_14 ?_
    refine x_istore (pc := 15) dX5_readNumber_15 (by decide) ?_
    have := c_r_num17 (D := D) (d := d) hR0 hE hd hk hP hT hp h3 hc hl hn ha hq1 hq2 7 p 0 (by omega) (by simp) rfl (by omega)
    rw [e9] at this
    exact x_loc _ (by exact ⟨rfl, rfl, rfl, rfl, rfl, trivial⟩) this
  · (try simp (disch := omega) only [zb_e0, zb_n0, w32_id, w64_id, ne_eq, Classical.not_not] at c_5)
    exact absurd h3 c_5

set_option maxHeartbeats 4000000 in
set_option maxRecDepth 100000 in
theorem c_r_numF {r c n : Int} (hR : isRT ty r) (h3 : h r 3 ≠ -1) (hq : Q none ty sz h) : zXM D mX5_readNumber (d + 4) 0 0 [rV r, iV c, iV n] ty sz h Q := by
  obtain ⟨r9, r0, r1, r2⟩ := hR
  refine x_aload_n (pc := 0) dX5_readNumber_0 rfl ?_
  refine y_getI 3 (pc := 1) dX5_readNumber_1 f_RX5_42 (by assumption) rfl (fun b_1 => ?_)
  refine x_iconst (pc := 4) dX5_readNumber_4 ?_
  refine x_icmp_eq (pc := 5) 9 dX5_readNumber_5 rfl (fun c_5 => ?_) (fun c_5 => ?_)
  · (try simp (disch := omega) only [zb_e0, zb_n0, w32_id, w64_id, ne_eq, Classical.not_not] at c_5)
    exact absurd c_5 h3
  · (try simp (disch := omega) only [zb_e0, zb_n0, w32_id, w64_id, ne_eq, Classical.not_not] at c_5)
    refine x_ret (pc := 8) ⟨dX5_readNumber_8, rfl⟩ ?_
    exact hq

end C13
