section C40
variable {D : va_G} {d : Nat} {ty : zT} {sz : Nat} {h : zH} {Q : zQ}
/-- what is on the reference's paper -/
def PA (h : zH) (m : Int) (T : List Int) : Prop := h m 25 = T.length ∧ ∀ (i : Nat) (c : Int), T[i]? = some c → h (m + 17) i = c
def FrQ (m : Int) (h h' : zH) : Prop := (∀ q, q ≠ m → q ≠ m + 17 → h' q = h q) ∧ ∀ k, k ≠ 25 → h' m k = h m k
theorem FrQ.rf (m : Int) (h : zH) : FrQ m h h := ⟨fun _ _ _ => rfl, fun _ _ => rfl⟩
theorem FrQ.t {m : Int} {h h' h2 : zH} (a : FrQ m h h') (b : FrQ m h' h2) : FrQ m h h2 := ⟨fun q q1 q2 => (b.1 q q1 q2).trans (a.1 q q1 q2), fun k hk => (b.2 k hk).trans (a.2 k hk)⟩
theorem PA.push {h : zH} {m c : Int} {T : List Int} (hP : PA h m T) : PA (zup (zup h (m + 17) T.length c) m 25 (T.length + 1)) m (T ++ [c]) := by
  obtain ⟨h1, h2⟩ := hP
  refine ⟨by simp [zup_app], fun i q hi => ?_⟩
  rw [zup_ne (by omega), zup_app]
  by_cases hl : i < T.length
  · rw [List.getElem?_append_left hl] at hi
    rw [if_neg (by omega)]
    exact h2 i q hi
  · rw [List.getElem?_append_right (by omega)] at hi
    have h0 : i - T.length = 0 := by
      have := (List.getElem?_eq_some_iff.mp hi).1
      simp at this
      omega
    rw [h0] at hi
    cases hi
    rw [if_pos ⟨rfl, by omega⟩]

set_option maxHeartbeats 4000000 in
set_option maxRecDepth 100000 in
theorem c_m_put {m : Int} (hM : isMT ty m) {c : Int} {T : List Int} (hc : i32 c) (hP : PA h m T) (hl : T.length < 2000) (hq : ∀ h', FrQ m h h' → PA h' m (T ++ [c]) → Q none ty sz h') : zXM D mX7_put d 0 0 [rV m, iV c] ty sz h Q := by
  have hM0 := hM
  obtain ⟨m9, m0, a1, a2, a3, a4, a5, a6, a7, a8, a9, a10, a11, a12, a13, a14, a15, a16, a17, a18, a19, a20, a21⟩ := hM
  have hP1 := hP.1
  refine x_aload_n (pc := 0) dX7_put_0 rfl ?_
  refine x_getF (pc := 1) dX7_put_1 f_RX7_60 (by assumption) (by rfl) ?_
  refine x_aload_n (pc := 4) dX7_put_4 rfl ?_
  refine y_getI 25 (pc := 5) dX7_put_5 f_RX7_220 (by assumption) rfl (fun b_5 => ?_)
  rw [hP1]
  refine x_iload_n (pc := 8) dX7_put_8 rfl ?_
  refine x_iast (pc := 9) dX7_put_9 (by assumption) (by omega) (by omega) (by rfl) (by omega) ?_
  refine x_aload_n (pc := 10) dX7_put_10 rfl ?_
  refine x_dup (pc := 11) dX7_put_11 rfl ?_
  refine y_getI 25 (pc := 12) dX7_put_12 f_RX7_220 (by assumption) rfl (fun b_12 => ?_)
  rw [show zup h (m + 17) (T.length : Int) c m 25 = T.length by rw [zup_ne (by omega)]; exact hP1]
  refine x_iconst (pc := 15) dX7_put_15 ?_
  refine x_iadd (pc := 16) dX7_put_16 ?_
  refine y_putI 25 (pc := 17) dX7_put_17 f_RX7_220 (by assumption) rfl (by rfl) (by omega) rfl ?_
  refine x_ret (pc := 20) ⟨dX7_put_20, rfl⟩ ?_
  exact hq _ ⟨fun q q1 q2 => by rw [zup_ne q1, zup_ne q2], fun k hk => by rw [zup_app, if_neg (by omega), zup_ne (by omega)]⟩ hP.push

set_option maxHeartbeats 4000000 in
set_option maxRecDepth 100000 in
theorem c_m_num18 {m : Int} (hM : isMT ty m) {v : Int} (hv : 0 ≤ v ∧ v ≤ 9999999) : ∀ (n : Nat) (u : Int) (g : zH) (T : List Int), 0 ≤ u → u ≤ 9999999 → u < 10 ^ n → PA g m T → T.length + (dgF n v u).length ≤ 2000 → FrQ m h g → (∀ h', FrQ m h h' → PA h' m (T ++ dgF n v u) → Q none ty sz h') → zX D mX7_putNumber (d + 1) 0 0 18 [(2, iV u), (0, rV m), (1, iV v)] [] ty sz g Q := by
  intro n
  induction n with
  | zero =>
    intro u g T h0 h1 h2 hP hl F hq
    obtain rfl : u = 0 := by
      rw [Int.pow_zero] at h2
      omega
    refine x_iload_n (pc := 18) dX7_putNumber_18 rfl ?_
    refine x_if_le (pc := 19) 43 dX7_putNumber_19 rfl (fun c_19 => ?_) (fun c_19 => absurd (by decide) c_19)
    refine x_ret (pc := 43) ⟨dX7_putNumber_43, rfl⟩ ?_
    exact hq g F (by unfold dgF; rw [List.append_nil]; exact hP)
  | succ n ih =>
    intro u g T h0 h1 h2 hP hl F hq
    have hM0 := hM
    obtain ⟨m9, m0, -⟩ := id hM
    have h10 : (10 : Int) ^ (n + 1) = 10 * 10 ^ n := by rw [Int.pow_succ, Int.mul_comm]
    have hvu : 0 < u → 0 ≤ v / u ∧ v / u ≤ 9999999 := fun hu => ⟨Int.ediv_nonneg hv.1 (by omega), by have := Int.ediv_le_self u hv.1; omega⟩
    refine x_iload_n (pc := 18) dX7_putNumber_18 rfl ?_
    refine x_if_le (pc := 19) 43 dX7_putNumber_19 rfl (fun c_19 => ?_) (fun c_19 => ?_)
    · (try simp (disch := omega) only [zb_e0, zb_n0, w32_id, w64_id, ne_eq, Classical.not_not] at c_19)
      refine x_ret (pc := 43) ⟨dX7_putNumber_43, rfl⟩ ?_
      have hdg : dgF (n + 1) v u = [] := by
        show (if 0 < u then _ else _) = _
        rw [if_neg (by omega)]
      exact hq g F (by rw [hdg, List.append_nil]; exact hP)
    · (try simp (disch := omega) only [zb_e0, zb_n0, w32_id, w64_id, ne_eq, Classical.not_not] at c_19)
      refine x_aload_n (pc := 22) dX7_putNumber_22 rfl ?_
      refine x_bipush (pc := 23) dX7_putNumber_23 (by decide) ?_
      refine x_iload_n (pc := 25) dX7_putNumber_25 rfl ?_
      refine x_iload_n (pc := 26) dX7_putNumber_26 rfl ?_
      refine x_idiv (pc := 27) dX7_putNumber_27 (by rw [w32_id (by omega) (by omega)]; omega) ?_
      rw [w32_id (by omega) (by omega), w32_id (by omega) (by omega), Int.tdiv_eq_ediv_of_nonneg hv.1]
      have hvu := hvu (by omega)
      refine x_bipush (pc := 28) dX7_putNumber_28 (by decide) ?_
      refine x_irem (pc := 30) dX7_putNumber_30 (by decide) ?_
      rw [w32_id (by omega) (by omega), show w32 10 = 10 from w32_id (by decide) (by decide), Int.tmod_eq_emod_of_nonneg hvu.1]
      refine x_iadd (pc := 31) dX7_putNumber_31 ?_
      refine x_callV1 (pc := 32) dX7_putNumber_32 (k_RX7_223 _ rfl) tmv_X7_put (by assumption) rfl rfl rfl ?_
      have hdg : dgF (n + 1) v u = (48 + v / u % 10) :: dgF n v (u / 10) := by
        show (if 0 < u then _ else _) = _
        rw [if_pos (by omega)]
      rw [hdg] at hl hq
      simp only [List.length_cons] at hl
      refine x_room (d' := d) (by omega) (Nat.le_refl _) (Nat.le_refl _) (c_m_put hM0 (by omega) hP (by omega) (fun g1 F1 hP1 => ?_))
      dsimp only [Option.toList, List.cons_append, List.nil_append]
      refine x_iload_n (pc := 35) dX7_putNumber_35 rfl ?_
      refine x_bipush (pc := 36) dX7_putNumber_36 (by decide) ?_
      refine x_idiv (pc := 38) dX7_putNumber_38 (by decide) ?_
      rw [w32_id (by omega) (by omega), show w32 10 = 10 from w32_id (by decide) (by decide), Int.tdiv_eq_ediv_of_nonneg h0]
      refine x_istore_n (pc := 39) dX7_putNumber_39 (by decide) ?_
      refine x_goto (pc := 40) 18 dX7_putNumber_40 rfl ?_
      exact x_loc _ (by exact ⟨rfl, rfl, rfl, trivial⟩) (ih (u / 10) g1 (T ++ [48 + v / u % 10]) (by omega) (by omega) (by omega) hP1 (by simp only [List.length_append, List.length_singleton]; omega) (F.t F1) (fun h' F2 hP2 => hq h' F2 (by rw [List.append_assoc] at hP2; exact hP2)))

set_option maxHeartbeats 4000000 in
set_option maxRecDepth 100000 in
theorem c_m_num2 {m : Int} (hM : isMT ty m) {v : Int} {T : List Int} (hv : 0 ≤ v ∧ v ≤ 9999999) (hP : PA h m T) (hl : T.length + (numT v).length ≤ 2000) (hq : ∀ h', FrQ m h h' → PA h' m (T ++ numT v) → Q none ty sz h') : ∀ (n : Nat) (k : Nat) (u : Int), 1 ≤ u ∧ u ≤ 9999999 → k ≤ 6 ∧ u = 10 ^ (6 - k) → utF k v u = utF 6 v 1 → k < n → zX D mX7_putNumber (d + 1) 0 0 2 [(2, iV u), (0, rV m), (1, iV v)] [] ty sz h Q := by
  intro n
  induction n with
  | zero =>
    intro k u h1 hk hu hm
    exfalso
    omega
  | succ n ih =>
    intro k u h1 hk hu hm
    have hM0 := hM
    have hvu : 0 ≤ v / u ∧ v / u ≤ 9999999 := ⟨Int.ediv_nonneg hv.1 (by omega), by have := Int.ediv_le_self u hv.1; omega⟩
    have hdm := Int.emod_add_mul_ediv v u
    have hd0 := Int.emod_nonneg v (show u ≠ 0 by omega)
    have hd1 := Int.emod_lt_of_pos v (show 0 < u by omega)
    have hcmp : 9 < v / u ↔ 10 * u ≤ v := by
      constructor
      · intro z
        have : u * 10 ≤ u * (v / u) := Int.mul_le_mul_of_nonneg_left (by omega) (by omega)
        omega
      · intro z
        have : 10 ≤ v / u := (Int.le_ediv_iff_mul_le (by omega)).mpr z
        omega
    refine x_iload_n (pc := 2) dX7_putNumber_2 rfl ?_
    refine x_iload_n (pc := 3) dX7_putNumber_3 rfl ?_
    refine x_idiv (pc := 4) dX7_putNumber_4 (by rw [w32_id (by omega) (by omega)]; omega) ?_
    rw [w32_id (by omega) (by omega), w32_id (by omega) (by omega), Int.tdiv_eq_ediv_of_nonneg hv.1]
    refine x_bipush (pc := 5) dX7_putNumber_5 (by decide) ?_
    refine x_icmp_le (pc := 7) 18 dX7_putNumber_7 rfl (fun c_7 => ?_) (fun c_7 => ?_)
    · (try simp (disch := omega) only [zb_e0, zb_n0, w32_id, w64_id, ne_eq, Classical.not_not] at c_7)
      have hut : utF 6 v 1 = u := by
        rw [← hu]
        cases k with
        | zero => rfl
        | succ k =>
          show (if 10 * u ≤ v then _ else u) = u
          rw [if_neg (by omega)]
      unfold numT at hl hq
      rw [hut] at hl hq
      exact x_loc _ (by exact ⟨rfl, rfl, rfl, trivial⟩) (c_m_num18 hM0 hv 8 u h T (by omega) (by omega) (by have : (10 : Int) ^ 8 = 100000000 := by decide
                                                                                                            omega) hP hl (FrQ.rf _ _) hq)
    · (try simp (disch := omega) only [zb_e0, zb_n0, w32_id, w64_id, ne_eq, Classical.not_not] at c_7)
      refine x_bipush (pc := 10) dX7_putNumber_10 (by decide) ?_
      refine x_iload_n (pc := 12) dX7_putNumber_12 rfl ?_
      refine x_imul (pc := 13) dX7_putNumber_13 ?_
      refine x_istore_n (pc := 14) dX7_putNumber_14 (by decide) ?_
      refine x_goto (pc := 15) 2 dX7_putNumber_15 rfl ?_
      cases k with
      | zero =>
        exfalso
        have e6 : u = 1000000 := by rw [hk.2]; decide
        omega
      | succ k =>
        have hp10 : (10 : Int) ^ (6 - k) = 10 * 10 ^ (6 - (k + 1)) := by
          rw [show 6 - k = (6 - (k + 1)) + 1 by omega, Int.pow_succ, Int.mul_comm]
        have hu2 : utF k v (10 * u) = utF 6 v 1 := by
          rw [← hu]
          show _ = (if 10 * u ≤ v then utF k v (10 * u) else u)
          rw [if_pos (by omega)]
        exact x_loc _ (by exact ⟨rfl, rfl, rfl, trivial⟩) (ih k (10 * u) ⟨by omega, by omega⟩ ⟨by omega, by rw [hp10]; omega⟩ hu2 (by omega))

set_option maxHeartbeats 4000000 in
set_option maxRecDepth 100000 in
theorem c_m_putNumber {m : Int} (hM : isMT ty m) {v : Int} {T : List Int} (hv : 0 ≤ v ∧ v ≤ 9999999) (hP : PA h m T) (hl : T.length + (numT v).length ≤ 2000) (hq : ∀ h', FrQ m h h' → PA h' m (T ++ numT v) → Q none ty sz h') : zXM D mX7_putNumber (d + 1) 0 0 [rV m, iV v] ty sz h Q := by
  have hM0 := hM
  refine x_iconst (pc := 0) dX7_putNumber_0 ?_
  refine x_istore_n (pc := 1) dX7_putNumber_1 (by decide) ?_
  exact x_loc _ (by exact ⟨rfl, rfl, rfl, trivial⟩) (c_m_num2 hM0 hv hP hl hq 7 6 1 (by omega) ⟨by omega, by decide⟩ rfl (by omega))

end C40
