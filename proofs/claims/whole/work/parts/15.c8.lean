section C8
variable {D : va_G} {d : Nat} {ty : zT} {sz : Nat} {h : zH} {Q : zQ}
/-- a number's digits, from the greatest unit on -/
def utF : Nat → Int → Int → Int
  | 0, _, u => u
  | n + 1, v, u => if 10 * u ≤ v then utF n v (10 * u) else u
def dgF : Nat → Int → Int → List Int
  | 0, _, _ => []
  | n + 1, v, u => if 0 < u then (48 + v / u % 10) :: dgF n v (u / 10) else []
def numT (v : Int) : List Int := dgF 8 v (utF 6 v 1)
abbrev PR := Int × Int × Int × Int
def rT (r : PR) : List Int := r.1 :: (numT r.2.1 ++ ((if r.2.2.1 = -1 then [] else 32 :: numT r.2.2.1) ++ (if r.2.2.2 = -1 then [] else 32 :: numT r.2.2.2)))
def semT (rs : List PR) : List Int := rs.flatMap (fun r => 59 :: rT r)
theorem semT_app (l m : List PR) : semT (l ++ m) = semT l ++ semT m := List.flatMap_append
theorem semT_1 (r : PR) : semT [r] = 59 :: rT r := by simp [semT]
theorem semT_nil : semT [] = [] := rfl
def PrIs (h : zH) (p : Int) (T : List Int) : Prop := h p 1 = T.length ∧ ∀ (i : Nat) (c : Int), T[i]? = some c → h (p + 1) i = c
theorem PrIs.fr {h h' : zH} {p : Int} {T : List Int} (hP : PrIs h p T) (hf : ∀ q, p ≤ q → q ≤ p + 1 → h' q = h q) : PrIs h' p T := by
  unfold PrIs at *
  rw [hf p (by omega) (by omega), hf (p + 1) (by omega) (by omega)]
  exact hP
theorem PrIs.push {h : zH} {p c : Int} {T : List Int} (hP : PrIs h p T) : PrIs (zup (zup h (p + 1) T.length c) p 1 (T.length + 1)) p (T ++ [c]) := by
  obtain ⟨h1, h2⟩ := hP
  refine ⟨by simp [zup_app, zo1, zo2, zo3], fun i q hi => ?_⟩
  by_cases hl : i < T.length
  · rw [List.getElem?_append_left hl] at hi
    have := h2 i q hi
    have e : ¬ ((i : Int) = T.length) := by omega
    simp [zup_app, zo1, zo2, zo3, e, this]
  · rw [List.getElem?_append_right (by omega)] at hi
    have h0 : i - T.length = 0 := by
      have := (List.getElem?_eq_some_iff.mp hi).1
      simp at this
      omega
    rw [h0] at hi
    cases hi
    have e : i = T.length := by omega
    subst e
    simp [zup_app, zo1, zo2, zo3]
def PrR (h : zH) (p : Int) (rs : List PR) : Prop := PrIs h p (semT rs).tail
/-- f 0 ++ f 1 ++ .. -/
def gL {α : Type} (f : Nat → List α) : Nat → List α
  | 0 => []
  | n + 1 => gL f n ++ f n
theorem gL_le {f : Nat → List PR} (rs : List PR) {n m : Nat} (h : n ≤ m) : (semT (rs ++ gL f n)).length ≤ (semT (rs ++ gL f m)).length := by
  induction m with
  | zero => rw [show n = 0 by omega]; exact Nat.le_refl _
  | succ m ih =>
    by_cases e : n = m + 1
    · rw [e]; exact Nat.le_refl _
    · refine Nat.le_trans (ih (by omega)) ?_
      show _ ≤ (semT (rs ++ (gL f m ++ f m))).length
      rw [← List.append_assoc, semT_app (rs ++ gL f m), List.length_append]
      omega
theorem utF_r : ∀ (n : Nat) (v u : Int), 1 ≤ u → u ≤ 9999999 → v ≤ 9999999 → 1 ≤ utF n v u ∧ utF n v u ≤ 9999999
  | 0, v, u, h1, h2, h3 => ⟨h1, h2⟩
  | n + 1, v, u, h1, h2, h3 => by
    unfold utF
    split
    · exact utF_r n v (10 * u) (by omega) (by omega) h3
    · exact ⟨h1, h2⟩

set_option maxHeartbeats 4000000 in
set_option maxRecDepth 100000 in
theorem c_p_start {p : Int} (hp : isPT ty p) (hq : ∀ h', Fr p (p + 1) h h' → PrR h' p [] → Q none ty sz h') : zXM D mX4_start d 0 0 [rV p] ty sz h Q := by
  obtain ⟨p9, p0, p1⟩ := hp
  refine x_aload_n (pc := 0) dX4_start_0 rfl ?_
  refine x_iconst (pc := 1) dX4_start_1 ?_
  refine y_putI 1 (pc := 2) dX4_start_2 f_RX4_15 (by assumption) rfl (by rfl) (by omega) rfl ?_
  refine x_ret (pc := 5) ⟨dX4_start_5, rfl⟩ ?_
  exact hq _ ((Fr.rf _ _ _).up (by omega) (by omega)) ⟨by simp [zup_app, semT], fun i c hi => by simp [semT] at hi⟩

set_option maxHeartbeats 4000000 in
set_option maxRecDepth 100000 in
theorem c_p_sign {p c : Int} {T : List Int} (hp : isPT ty p) (hc : i32 c) (hP : PrIs h p T) (hn : T.length < 1500) (hq : ∀ h', Fr p (p + 1) h h' → PrIs h' p (T ++ [c]) → Q none ty sz h') : zXM D mX4_addSign (d + 1) 0 0 [rV p, iV c] ty sz h Q := by
  obtain ⟨p9, p0, p1⟩ := hp
  have hl := hP.1
  refine x_aload_n (pc := 0) dX4_addSign_0 rfl ?_
  refine y_getI 1 (pc := 1) dX4_addSign_1 f_RX4_15 (by assumption) rfl (fun b_1 => ?_)
  refine x_sipush (pc := 4) dX4_addSign_4 (by decide) ?_
  refine x_icmp_ge (pc := 7) 32 dX4_addSign_7 rfl (fun c_7 => ?_) (fun c_7 => ?_)
  · (try simp (disch := omega) only [zb_e0, zb_n0, w32_id, w64_id, ne_eq, Classical.not_not] at c_7)
    omega
  · (try simp (disch := omega) only [zb_e0, zb_n0, w32_id, w64_id, ne_eq, Classical.not_not] at c_7)
    refine x_aload_n (pc := 10) dX4_addSign_10 rfl ?_
    refine x_getF (pc := 11) dX4_addSign_11 f_RX4_9 (by assumption) (by rfl) ?_
    refine x_aload_n (pc := 14) dX4_addSign_14 rfl ?_
    refine y_getI 1 (pc := 15) dX4_addSign_15 f_RX4_15 (by assumption) rfl (fun b_15 => ?_)
    refine x_iload_n (pc := 18) dX4_addSign_18 rfl ?_
    refine x_callS3 (pc := 19) dX4_addSign_19 (k_RX4_87 _ rfl) tms_X6_put rfl rfl ?_
    refine c_put (N := 1500) (by omega) (by omega) (by omega) (by assumption) (by decide) (by omega) ?_
    dsimp only [Option.toList, List.cons_append, List.nil_append]
    refine x_aload_n (pc := 22) dX4_addSign_22 rfl ?_
    refine x_dup (pc := 23) dX4_addSign_23 rfl ?_
    refine y_getI 1 (pc := 24) dX4_addSign_24 f_RX4_15 (by assumption) rfl (fun b_24 => ?_)
    rw [zup_ne (by omega)]
    refine x_iconst (pc := 27) dX4_addSign_27 ?_
    refine x_iadd (pc := 28) dX4_addSign_28 ?_
    refine y_putI 1 (pc := 29) dX4_addSign_29 f_RX4_15 (by assumption) rfl (by rfl) (by omega) rfl ?_
    refine x_ret (pc := 32) ⟨dX4_addSign_32, rfl⟩ ?_
    refine hq _ (((Fr.rf _ _ _).up (by omega) (by omega)).up (by omega) (by omega)) ?_
    have := hP.push (c := c)
    rw [hl]
    exact this

set_option maxHeartbeats 4000000 in
set_option maxRecDepth 100000 in
theorem c_p_num29 {p v : Int} (hp : isPT ty p) (hv : 0 ≤ v ∧ v ≤ 9999999) : ∀ (n : Nat) (u : Int) (g : zH) (T : List Int), 0 ≤ u → u ≤ 9999999 → u < 10 ^ n → PrIs g p T → T.length + (dgF n v u).length ≤ 1500 → Fr p (p + 1) h g → (∀ h', Fr p (p + 1) h h' → PrIs h' p (T ++ dgF n v u) → Q none ty sz h') → zX D mX4_addNumber (d + 2) 0 0 29 [(2, iV u), (0, rV p), (1, iV v)] [] ty sz g Q := by
  intro n
  induction n with
  | zero =>
    intro u g T h1 h1b h2 hP hl hF hq
    have e : u = 0 := by simp at h2; omega
    subst e
    refine x_iload_n (pc := 29) dX4_addNumber_29 rfl ?_
    refine x_if_le (pc := 30) 54 dX4_addNumber_30 rfl (fun c => ?_) (fun c => absurd (by decide) c)
    refine x_ret (pc := 54) ⟨dX4_addNumber_54, rfl⟩ ?_
    refine hq g hF ?_
    rw [show dgF 0 v 0 = [] from rfl, List.append_nil]
    exact hP
  | succ n ih =>
    intro u g T h1 h1b h2 hP hl hF hq
    have hp0 := hp
    obtain ⟨p9, p0, p1⟩ := hp
    have hm0 := Int.emod_nonneg (v / u) (show (10 : Int) ≠ 0 by decide)
    have hm1 := Int.emod_lt_of_pos (v / u) (show (0 : Int) < 10 by decide)
    refine x_iload_n (pc := 29) dX4_addNumber_29 rfl ?_
    refine x_if_le (pc := 30) 54 dX4_addNumber_30 rfl (fun c_30 => ?_) (fun c_30 => ?_)
    · (try simp (disch := omega) only [zb_e0, zb_n0, w32_id, w64_id, ne_eq, Classical.not_not] at c_30)
      refine x_ret (pc := 54) ⟨dX4_addNumber_54, rfl⟩ ?_
      refine hq g hF ?_
      have e : dgF (n + 1) v u = [] := if_neg (by omega)
      rw [e, List.append_nil]
      exact hP
    · (try simp (disch := omega) only [zb_e0, zb_n0, w32_id, w64_id, ne_eq, Classical.not_not] at c_30)
      refine x_aload_n (pc := 33) dX4_addNumber_33 rfl ?_
      refine x_bipush (pc := 34) dX4_addNumber_34 (by decide) ?_
      refine x_iload_n (pc := 36) dX4_addNumber_36 rfl ?_
      refine x_iload_n (pc := 37) dX4_addNumber_37 rfl ?_
      refine x_idiv (pc := 38) dX4_addNumber_38 (by rw [w32_id (by omega) (by omega)]; omega) ?_
      rw [w32_id (z := v) (by omega) (by omega), w32_id (z := u) (by omega) (by omega), Int.tdiv_eq_ediv_of_nonneg (by omega)]
      have hd0 : 0 ≤ v / u := Int.ediv_nonneg (by omega) (by omega)
      have hd1 : v / u ≤ v := Int.ediv_le_self _ (by omega)
      refine x_bipush (pc := 39) dX4_addNumber_39 (by decide) ?_
      refine x_irem (pc := 41) dX4_addNumber_41 (by decide) ?_
      rw [w32_id (z := v / u) (by omega) (by omega), show w32 10 = 10 from rfl, Int.tmod_eq_emod_of_nonneg (by omega)]
      refine x_iadd (pc := 42) dX4_addNumber_42 ?_
      refine x_callV1 (pc := 43) dX4_addNumber_43 (k_RX4_80 _ rfl) tmv_X4_addSign (by assumption) rfl rfl rfl ?_
      have e : dgF (n + 1) v u = (48 + v / u % 10) :: dgF n v (u / 10) := if_pos (by omega)
      rw [e] at hl hq
      rw [List.length_cons] at hl
      refine c_p_sign hp0 (by omega) hP (by omega) (fun g2 hF2 hP2 => ?_)
      dsimp only [Option.toList, List.cons_append, List.nil_append]
      refine x_iload_n (pc := 46) dX4_addNumber_46 rfl ?_
      refine x_bipush (pc := 47) dX4_addNumber_47 (by decide) ?_
      refine x_idiv (pc := 49) dX4_addNumber_49 (by decide) ?_
      rw [w32_id (z := u) (by omega) (by omega), show w32 10 = 10 from rfl, Int.tdiv_eq_ediv_of_nonneg (by omega)]
      refine x_istore_n (pc := 50) dX4_addNumber_50 (by decide) ?_
      refine x_goto (pc := 51) 29 dX4_addNumber_51 rfl ?_
      refine x_loc _ (by exact ⟨rfl, rfl, rfl, trivial⟩) (ih (u / 10) g2 (T ++ [48 + v / u % 10]) (by omega) (by omega) ?_ hP2 (by rw [List.length_append, List.length_singleton]; omega) (Fr.tr hF hF2 (by omega) (by omega) (by omega) (by omega)) (fun h' hf hp' => hq h' hf ?_))
      · rw [Int.pow_succ] at h2; omega
      · rw [List.append_assoc] at hp'; exact hp'

set_option maxHeartbeats 4000000 in
set_option maxRecDepth 100000 in
theorem c_p_num4 {p v : Int} {T : List Int} (hp : isPT ty p) (hv : 0 ≤ v ∧ v ≤ 9999999) (hP : PrIs h p T) (hl : T.length + (numT v).length ≤ 1500) (hq : ∀ h', Fr p (p + 1) h h' → PrIs h' p (T ++ numT v) → Q none ty sz h') : ∀ (n : Nat) (u j : Int), 1 ≤ u → u ≤ 9999999 → j = 7 - n → n ≤ 6 → utF n v u = utF 6 v 1 → zX D mX4_addNumber (d + 2) 0 0 4 [(3, iV j), (2, iV u), (0, rV p), (1, iV v)] [] ty sz h Q := by
  have E : ∀ (u j : Int), 1 ≤ u → u ≤ 9999999 → u = utF 6 v 1 → zX D mX4_addNumber (d + 2) 0 0 29 [(3, iV j), (2, iV u), (0, rV p), (1, iV v)] [] ty sz h Q := by
    intro u j h1 h2 h3
    have e : dgF 8 v u = numT v := by rw [h3]; rfl
    exact x_loc _ (by exact ⟨rfl, rfl, rfl, trivial⟩) (c_p_num29 hp hv 8 u h T (by omega) h2 (by omega) hP (by rw [e]; exact hl) (Fr.rf _ _ _) (by rw [e]; exact hq))
  intro n
  induction n with
  | zero =>
    intro u j h1 h2 hj hn hu
    refine x_iload_n (pc := 4) dX4_addNumber_4 rfl ?_
    refine x_bipush (pc := 5) dX4_addNumber_5 (by decide) ?_
    refine x_icmp_ge (pc := 7) 29 dX4_addNumber_7 rfl (fun c => E u j h1 h2 hu) (fun c => ?_)
    simp (disch := omega) only [w32_id] at c
    omega
  | succ n ih =>
    intro u j h1 h2 hj hn hu
    refine x_iload_n (pc := 4) dX4_addNumber_4 rfl ?_
    refine x_bipush (pc := 5) dX4_addNumber_5 (by decide) ?_
    refine x_icmp_ge (pc := 7) 29 dX4_addNumber_7 rfl (fun c_7 => ?_) (fun c_7 => ?_)
    · (try simp (disch := omega) only [zb_e0, zb_n0, w32_id, w64_id, ne_eq, Classical.not_not] at c_7)
      omega
    · (try simp (disch := omega) only [zb_e0, zb_n0, w32_id, w64_id, ne_eq, Classical.not_not] at c_7)
      refine x_iload_n (pc := 10) dX4_addNumber_10 rfl ?_
      refine x_iload_n (pc := 11) dX4_addNumber_11 rfl ?_
      refine x_bipush (pc := 12) dX4_addNumber_12 (by decide) ?_
      refine x_imul (pc := 14) dX4_addNumber_14 ?_
      refine x_icmp_lt (pc := 15) 29 dX4_addNumber_15 rfl (fun c_15 => ?_) (fun c_15 => ?_)
      · (try simp (disch := omega) only [zb_e0, zb_n0, w32_id, w64_id, ne_eq, Classical.not_not] at c_15)
        have e : utF (n + 1) v u = u := if_neg (by omega)
        rw [e] at hu
        exact E u j h1 h2 hu
      · (try simp (disch := omega) only [zb_e0, zb_n0, w32_id, w64_id, ne_eq, Classical.not_not] at c_15)
        refine x_iload_n (pc := 18) dX4_addNumber_18 rfl ?_
        refine x_bipush (pc := 19) dX4_addNumber_19 (by decide) ?_
        refine x_imul (pc := 21) dX4_addNumber_21 ?_
        refine x_istore_n (pc := 22) dX4_addNumber_22 (by decide) ?_
        refine x_iinc (pc := 23) dX4_addNumber_23 rfl (by decide) ?_
        refine x_goto (pc := 26) 4 dX4_addNumber_26 rfl ?_
        have e : utF (n + 1) v u = utF n v (10 * u) := if_pos (by omega)
        rw [e] at hu
        rw [Int.mul_comm u 10]
        exact x_loc _ (by exact ⟨rfl, rfl, rfl, rfl, trivial⟩) (ih (10 * u) (j + 1) (by omega) (by omega) (by omega) (by omega) hu)

set_option maxHeartbeats 4000000 in
set_option maxRecDepth 100000 in
theorem c_p_number {p v : Int} {T : List Int} (hp : isPT ty p) (hv : 0 ≤ v ∧ v ≤ 9999999) (hP : PrIs h p T) (hl : T.length + (numT v).length ≤ 1500) (hq : ∀ h', Fr p (p + 1) h h' → PrIs h' p (T ++ numT v) → Q none ty sz h') : zXM D mX4_addNumber (d + 2) 0 0 [rV p, iV v] ty sz h Q := by
  refine x_iconst (pc := 0) dX4_addNumber_0 ?_
  refine x_istore_n (pc := 1) dX4_addNumber_1 (by decide) ?_
  refine x_iconst (pc := 2) dX4_addNumber_2 ?_
  refine x_istore_n (pc := 3) dX4_addNumber_3 (by decide) ?_
  exact x_loc _ (by exact ⟨rfl, rfl, rfl, rfl, trivial⟩) (c_p_num4 hp hv hP hl hq 6 1 1 (by omega) (by omega) (by omega) (by omega) rfl)

end C8
