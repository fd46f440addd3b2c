section MA2
/-! masks of ten bits; a kind's cells tell its rows -/
theorem zor_nat {a b : Nat} (ha : a < 1024) (hb : b < 1024) : zor a b = ((a ||| b : Nat) : Int) := by
  have hab : a ||| b < 1024 := Nat.or_lt_two_pow (n := 10) ha hb
  have e : Int32.ofInt (a : Int) ||| Int32.ofInt (b : Int) = Int32.ofNat (a ||| b) := by
    rw [Int32.ofInt_eq_ofNat, Int32.ofInt_eq_ofNat]
    apply Int32.toBitVec_inj.mp
    apply BitVec.eq_of_toNat_eq
    rw [Int32.toBitVec_or, BitVec.toNat_or]
    simp [Nat.mod_eq_of_lt (show a < 4294967296 by omega), Nat.mod_eq_of_lt (show b < 4294967296 by omega), Nat.mod_eq_of_lt (show a ||| b < 4294967296 by omega)]
  unfold zor
  rw [e, Int32.toInt_ofNat_of_lt (by omega)]
theorem zand_nat {a b : Nat} (ha : a < 1024) (hb : b < 1024) : zand a b = ((a &&& b : Nat) : Int) := by
  have hab : a &&& b < 1024 := Nat.lt_of_le_of_lt Nat.and_le_left ha
  have e : Int32.ofInt (a : Int) &&& Int32.ofInt (b : Int) = Int32.ofNat (a &&& b) := by
    rw [Int32.ofInt_eq_ofNat, Int32.ofInt_eq_ofNat]
    apply Int32.toBitVec_inj.mp
    apply BitVec.eq_of_toNat_eq
    rw [Int32.toBitVec_and, BitVec.toNat_and]
    simp [Nat.mod_eq_of_lt (show a < 4294967296 by omega), Nat.mod_eq_of_lt (show b < 4294967296 by omega), Nat.mod_eq_of_lt (show a &&& b < 4294967296 by omega)]
  unfold zand
  rw [e, Int32.toInt_ofNat_of_lt (by omega)]
theorem zshl_1 {t : Int} (h0 : 0 ≤ t) (h1 : t ≤ 9) : zshl 1 t = ((2 ^ t.toNat : Nat) : Int) := by
  have : t = 0 ∨ t = 1 ∨ t = 2 ∨ t = 3 ∨ t = 4 ∨ t = 5 ∨ t = 6 ∨ t = 7 ∨ t = 8 ∨ t = 9 := by omega
  rcases this with rfl | rfl | rfl | rfl | rfl | rfl | rfl | rfl | rfl | rfl <;> decide
theorem pow10 {t : Int} (h0 : 0 ≤ t) (h1 : t ≤ 9) : 2 ^ t.toNat < 1024 := Nat.pow_lt_pow_right (a := 2) (by decide) (show t.toNat < 10 by omega)
theorem zbit {m : Nat} {t : Int} (hm : m < 1024) (h0 : 0 ≤ t) (h1 : t ≤ 9) : zand m (zshl 1 t) ≠ 0 ↔ m.testBit t.toNat = true := by
  rw [zshl_1 h0 h1, zand_nat hm (pow10 h0 h1)]
  generalize t.toNat = k
  constructor
  · intro h
    cases hb : m.testBit k with
    | true => rfl
    | false =>
      exfalso
      apply h
      have e : m &&& 2 ^ k = 0 := by
        apply Nat.eq_of_testBit_eq
        intro i
        rw [Nat.testBit_and, Nat.zero_testBit, Nat.testBit_two_pow]
        by_cases hi : k = i
        · subst hi; simp [hb]
        · simp [hi]
      rw [e]
      rfl
  · intro hb h
    have e : m &&& 2 ^ k = 0 := by omega
    have := Nat.testBit_and m (2 ^ k) k
    rw [e, hb, Nat.zero_testBit, Nat.testBit_two_pow_self] at this
    simp at this
theorem zset {m : Nat} {t : Int} (hm : m < 1024) (h0 : 0 ≤ t) (h1 : t ≤ 9) : zor m (zshl 1 t) = ((m ||| 2 ^ t.toNat : Nat) : Int) := by
  rw [zshl_1 h0 h1, zor_nat hm (pow10 h0 h1)]
theorem zmeet {a b : Nat} (ha : a < 1024) (hb : b < 1024) : zand a b = 0 ↔ ∀ t : Nat, t < 10 → ¬ (a.testBit t = true ∧ b.testBit t = true) := by
  rw [zand_nat ha hb]
  constructor
  · intro h t _ ⟨h1, h2⟩
    have e : a &&& b = 0 := by omega
    have := Nat.testBit_and a b t
    rw [e, h1, h2] at this
    simp at this
  · intro h
    have e : a &&& b = 0 := by
      apply Nat.eq_of_testBit_eq
      intro t
      rw [Nat.testBit_and, Nat.zero_testBit]
      by_cases ht : t < 10
      · have := h t ht
        cases h1 : a.testBit t <;> cases h2 : b.testBit t <;> simp_all
      · have : a.testBit t = false := Nat.testBit_lt_two_pow (Nat.lt_of_lt_of_le ha (Nat.pow_le_pow_right (n := 2) (by decide) (show 10 ≤ t by omega)))
        rw [this]
        rfl
    rw [e]
    rfl
theorem exM_lt (s : Int) : ∀ l, (∀ r ∈ l, rowB r) → exM l s < 1024 := by
  refine snoc_ind (fun _ => (by decide : (0 : Nat) < 1024)) ?_
  intro l r ih h
  have i1 := ih (fun q hq => h q (List.mem_append_left _ hq))
  have hb := h r (by simp)
  rw [exM_snoc]
  unfold exS
  split
  · rename_i e
    have h69 := hb.2.2.2.2.2.2.2.1 e
    split
    · exact Nat.or_lt_two_pow (n := 10) i1 (pow10 h69.2.1.1 h69.2.1.2)
    · split
      · exact Nat.or_lt_two_pow (n := 10) i1 (pow10 h69.1.1 h69.1.2)
      · exact i1
  · exact i1
def KindIs (h : zH) (a : Int) (l : List Row) : Prop :=
  h a 0 = (if l = [] then 0 else 1) ∧ h a 1 = nL 83 l ∧ (∀ (i : Nat) (q : Int × Int), (stp l)[i]? = some q → h (a + 1) i = q.1 ∧ h (a + 2) i = q.2) ∧ (∀ z, 0 ≤ z → z < 10 → h (a + 3) z = lk 90 z l ∧ h (a + 4) z = lk 88 z l ∧ h (a + 5) z = exM l z) ∧ h a 7 = nL 69 l ∧ h a 8 = fl 68 (fun r => r.2.1) l ∧ h a 9 = fl 68 (fun r => r.2.2.1) l ∧ h a 10 = fl 68 (fun r => r.2.2.2) l ∧ h a 11 = fl 77 (fun r => r.2.1) l ∧ h a 12 = fl 70 (fun r => r.2.1) l ∧ h a 13 = fl 70 (fun r => r.2.2.1) l ∧ h a 14 = fl 82 (fun r => r.2.1) l
theorem KindIs.fr {h h' : zH} {a : Int} {l : List Row} (hc : KindIs h a l) (ea : ∀ q, a ≤ q → q ≤ a + 5 → h' q = h q) : KindIs h' a l := by
  unfold KindIs at *
  rw [ea a (by omega) (by omega), ea (a + 1) (by omega) (by omega), ea (a + 2) (by omega) (by omega), ea (a + 3) (by omega) (by omega), ea (a + 4) (by omega) (by omega), ea (a + 5) (by omega) (by omega)]
  exact hc
theorem KindIs_0 {h : zH} {a : Int} (hc : kClr h a) : KindIs h a [] := by
  obtain ⟨h1, h2, h3, ⟨h4, h5, h6, h7, h8, h9, h10⟩, h11⟩ := hc
  refine ⟨by simpa using h1, by rw [h2]; rfl, fun i q hi => by simp [stp] at hi, fun z z0 z1 => ?_, by rw [h3]; rfl, h4, h5, h6, h7, h8, h9, h10⟩
  obtain ⟨q1, q2, q3⟩ := h11 z z0 z1
  exact ⟨q1, q2, by rw [q3]; rfl⟩
/-- what taking a row does to its kind's cells -/
def rowAp (h : zH) (a : Int) (r : Row) : zH :=
  if r.1 = 75 then zup h a 0 1
  else if r.1 = 83 then zup (zup (zup h (a + 1) (h a 1) r.2.1) (a + 2) (h a 1) r.2.2.1) a 1 (h a 1 + 1)
  else if r.1 = 90 then zup h (a + 3) r.2.1 r.2.2.1
  else if r.1 = 88 then zup h (a + 4) r.2.1 r.2.2.1
  else if r.1 = 69 then zup (zup (zup h (a + 5) r.2.1 (zor (h (a + 5) r.2.1) (zshl 1 r.2.2.1))) (a + 5) r.2.2.1 (zor (h (a + 5) r.2.2.1) (zshl 1 r.2.1))) a 7 (h a 7 + 1)
  else if r.1 = 68 then zup (zup (zup h a 8 r.2.1) a 9 r.2.2.1) a 10 r.2.2.2
  else if r.1 = 77 then zup h a 11 r.2.1
  else if r.1 = 70 then zup (zup h a 12 r.2.1) a 13 r.2.2.1
  else zup h a 14 r.2.1
theorem rowAp_fr (h : zH) (a : Int) (r : Row) : Fr a (a + 5) h (rowAp h a r) := by
  unfold rowAp
  repeat' split
  all_goals first
    | exact (Fr.rf _ _ _).up (by omega) (by omega)
    | exact ((Fr.rf _ _ _).up (by omega) (by omega)).up (by omega) (by omega)
    | exact (((Fr.rf _ _ _).up (by omega) (by omega)).up (by omega) (by omega)).up (by omega) (by omega)
theorem zoz (a c d : Int) (hcd : c ≠ d) : ¬ a + c = a + d := by omega
theorem KindIs_ap {h : zH} {a : Int} {l : List Row} {r : Row} (hc : KindIs h a l) (hB : rowB r) (hl : ∀ q ∈ l, rowB q) (h75 : r.1 = 75 → l = []) (hne : r.1 ≠ 75 → l ≠ []) : KindIs (rowAp h a r) a (l ++ [r]) := by
  obtain ⟨c0, c1, c2, c3, c7, c8, c9, c10, c11, c12, c13, c14⟩ := hc
  have hn : l ++ [r] ≠ [] := by simp
  have n1 : ¬ a + 1 = a := by omega
  have n2 : ¬ a + 2 = a := by omega
  have n3 : ¬ a + 3 = a := by omega
  have n4 : ¬ a + 4 = a := by omega
  have n5 : ¬ a + 5 = a := by omega
  have m1 : ¬ a = a + 1 := by omega
  have m2 : ¬ a = a + 2 := by omega
  have m3 : ¬ a = a + 3 := by omega
  have m4 : ¬ a = a + 4 := by omega
  have m5 : ¬ a = a + 5 := by omega
  unfold KindIs
  rw [if_neg hn]
  rcases hB.1 with e | e | e | e | e | e | e | e | e
  · have hl0 := h75 e
    subst hl0
    simp only [rowAp, e, if_true, List.nil_append]
    refine ⟨by simp [zup_app], by simp [zup_app, c1, nL, e], fun i q hi => by simp [stp, e] at hi, fun z z0 z1 => ?_, ?_, ?_, ?_, ?_, ?_, ?_, ?_, ?_⟩
    · obtain ⟨q1, q2, q3⟩ := c3 z z0 z1
      refine ⟨?_, ?_, ?_⟩
      · simp [zup_app, n3, q1, lk, lastR, e]
      · simp [zup_app, n4, q2, lk, lastR, e]
      · simp [zup_app, n5, q3, exM, exS, e]
    · simp [zup_app, c7, nL, e]
    all_goals simp [zup_app, c8, c9, c10, c11, c12, c13, c14, fl, lastR, e]
  all_goals
    have hl1 := hne (by omega)
    rw [if_neg hl1] at c0
  · -- S
    simp only [rowAp, e, show ¬ ((83 : Int) = 75) by decide, if_true, if_false]
    refine ⟨by simp [zup_app, m1, m2, c0], by simp [zup_app, m1, m2, c1, nL_snoc, e], fun i q hi => ?_, fun z z0 z1 => ?_, ?_, ?_, ?_, ?_, ?_, ?_, ?_, ?_⟩
    · rw [stp_snoc, if_pos e] at hi
      have hsl := stp_len l
      by_cases hil : i < (stp l).length
      · rw [List.getElem?_append_left hil] at hi
        obtain ⟨q1, q2⟩ := c2 i q hi
        have ne : ¬ (i : Int) = h a 1 := by rw [c1]; omega
        constructor
        · simp [zup_app, n1, n2, zo1, ne, q1]
        · simp [zup_app, n1, n2, zo1, ne, q2]
      · rw [List.getElem?_append_right (by omega)] at hi
        have h0 : i - (stp l).length = 0 := by
          have := (List.getElem?_eq_some_iff.mp hi).1
          simp at this
          omega
        rw [h0] at hi
        cases hi
        have e2 : (i : Int) = h a 1 := by rw [c1]; omega
        constructor
        · simp [zup_app, n1, n2, zo1, e2]
        · simp [zup_app, n1, n2, zo1, e2]
    · obtain ⟨q1, q2, q3⟩ := c3 z z0 z1
      refine ⟨?_, ?_, ?_⟩
      · simp [zup_app, n3, zo1, q1, lk_snoc, e]
      · simp [zup_app, n4, zo1, q2, lk_snoc, e]
      · simp [zup_app, n5, zo1, q3, exM_snoc, exS, e]
    all_goals simp [zup_app, m1, m2, c7, c8, c9, c10, c11, c12, c13, c14, fl_snoc, nL_snoc, e]
  · -- Z
    simp only [rowAp, e, show ¬ ((90 : Int) = 75) by decide, show ¬ ((90 : Int) = 83) by decide, if_true, if_false]
    refine ⟨by simp [zup_app, m3, c0], by simp [zup_app, m3, c1, nL_snoc, e], fun i q hi => ?_, fun z z0 z1 => ?_, ?_, ?_, ?_, ?_, ?_, ?_, ?_, ?_⟩
    · rw [stp_snoc, if_neg (by omega)] at hi
      obtain ⟨q1, q2⟩ := c2 i q hi
      exact ⟨by simp [zup_app, zo1, q1], by simp [zup_app, zo1, q2]⟩
    · obtain ⟨q1, q2, q3⟩ := c3 z z0 z1
      refine ⟨?_, ?_, ?_⟩
      · by_cases hz : z = r.2.1
        · simp [zup_app, lk_snoc, e, hz]
        · simp [zup_app, lk_snoc, e, hz, Ne.symm hz, q1]
      · simp [zup_app, zo1, q2, lk_snoc, e]
      · simp [zup_app, zo1, q3, exM_snoc, exS, e]
    all_goals simp [zup_app, m3, c7, c8, c9, c10, c11, c12, c13, c14, fl_snoc, nL_snoc, e]
  · -- X
    simp only [rowAp, e, show ¬ ((88 : Int) = 75) by decide, show ¬ ((88 : Int) = 83) by decide, show ¬ ((88 : Int) = 90) by decide, if_true, if_false]
    refine ⟨by simp [zup_app, m4, c0], by simp [zup_app, m4, c1, nL_snoc, e], fun i q hi => ?_, fun z z0 z1 => ?_, ?_, ?_, ?_, ?_, ?_, ?_, ?_, ?_⟩
    · rw [stp_snoc, if_neg (by omega)] at hi
      obtain ⟨q1, q2⟩ := c2 i q hi
      exact ⟨by simp [zup_app, zo1, q1], by simp [zup_app, zo1, q2]⟩
    · obtain ⟨q1, q2, q3⟩ := c3 z z0 z1
      refine ⟨?_, ?_, ?_⟩
      · simp [zup_app, zo1, q1, lk_snoc, e]
      · by_cases hz : z = r.2.1
        · simp [zup_app, lk_snoc, e, hz]
        · simp [zup_app, lk_snoc, e, hz, Ne.symm hz, q2]
      · simp [zup_app, zo1, q3, exM_snoc, exS, e]
    all_goals simp [zup_app, m4, c7, c8, c9, c10, c11, c12, c13, c14, fl_snoc, nL_snoc, e]
  · -- E
    obtain ⟨r1, r2, r3⟩ := hB.2.2.2.2.2.2.2.1 e
    simp only [rowAp, e, show ¬ ((69 : Int) = 75) by decide, show ¬ ((69 : Int) = 83) by decide, show ¬ ((69 : Int) = 90) by decide, show ¬ ((69 : Int) = 88) by decide, if_true, if_false]
    refine ⟨by simp [zup_app, m5, c0], by simp [zup_app, m5, c1, nL_snoc, e], fun i q hi => ?_, fun z z0 z1 => ?_, ?_, ?_, ?_, ?_, ?_, ?_, ?_, ?_⟩
    · rw [stp_snoc, if_neg (by omega)] at hi
      obtain ⟨q1, q2⟩ := c2 i q hi
      exact ⟨by simp [zup_app, zo1, n1, q1], by simp [zup_app, zo1, n2, q2]⟩
    · obtain ⟨q1, q2, q3⟩ := c3 z z0 z1
      refine ⟨?_, ?_, ?_⟩
      · simp [zup_app, zo1, n3, q1, lk_snoc, e]
      · simp [zup_app, zo1, n4, q2, lk_snoc, e]
      · rw [exM_snoc]
        unfold exS
        rw [if_pos e]
        by_cases hz : r.2.1 = z
        · have hz2 : ¬ z = r.2.2.1 := by omega
          rw [if_pos hz]
          simp only [zup_app, n5, hz2, false_and, and_false, if_false, true_and, if_pos hz.symm]
          rw [hz, q3, zset (exM_lt z l hl) r2.1 r2.2]
        · rw [if_neg hz]
          by_cases hz2 : r.2.2.1 = z
          · rw [if_pos hz2]
            simp only [zup_app, n5, false_and, if_false, true_and, if_pos hz2.symm]
            rw [hz2, q3, zset (exM_lt z l hl) r1.1 r1.2]
          · rw [if_neg hz2]
            simp [zup_app, n5, Ne.symm hz, Ne.symm hz2, q3]
    all_goals simp [zup_app, m5, c7, c8, c9, c10, c11, c12, c13, c14, fl_snoc, nL_snoc, e]
  all_goals
    simp only [rowAp, e, show ¬ ((68 : Int) = 75) by decide, show ¬ ((68 : Int) = 83) by decide, show ¬ ((68 : Int) = 90) by decide, show ¬ ((68 : Int) = 88) by decide, show ¬ ((68 : Int) = 69) by decide, show ¬ ((77 : Int) = 75) by decide, show ¬ ((77 : Int) = 83) by decide, show ¬ ((77 : Int) = 90) by decide, show ¬ ((77 : Int) = 88) by decide, show ¬ ((77 : Int) = 69) by decide, show ¬ ((77 : Int) = 68) by decide, show ¬ ((70 : Int) = 75) by decide, show ¬ ((70 : Int) = 83) by decide, show ¬ ((70 : Int) = 90) by decide, show ¬ ((70 : Int) = 88) by decide, show ¬ ((70 : Int) = 69) by decide, show ¬ ((70 : Int) = 68) by decide, show ¬ ((70 : Int) = 77) by decide, show ¬ ((82 : Int) = 75) by decide, show ¬ ((82 : Int) = 83) by decide, show ¬ ((82 : Int) = 90) by decide, show ¬ ((82 : Int) = 88) by decide, show ¬ ((82 : Int) = 69) by decide, show ¬ ((82 : Int) = 68) by decide, show ¬ ((82 : Int) = 77) by decide, show ¬ ((82 : Int) = 70) by decide, if_true, if_false]
    refine ⟨by simp [zup_app, c0], by simp [zup_app, c1, nL_snoc, e], fun i q hi => ?_, fun z z0 z1 => ?_, ?_, ?_, ?_, ?_, ?_, ?_, ?_, ?_⟩
    · rw [stp_snoc, if_neg (by omega)] at hi
      obtain ⟨q1, q2⟩ := c2 i q hi
      exact ⟨by simp [zup_app, n1, q1], by simp [zup_app, n2, q2]⟩
    · obtain ⟨q1, q2, q3⟩ := c3 z z0 z1
      exact ⟨by simp [zup_app, n3, q1, lk_snoc, e], by simp [zup_app, n4, q2, lk_snoc, e], by simp [zup_app, n5, q3, exM_snoc, exS, e]⟩
    all_goals simp [zup_app, c7, c8, c9, c10, c11, c12, c13, c14, fl_snoc, nL_snoc, e]
end MA2
