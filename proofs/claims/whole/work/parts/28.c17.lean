section C17
variable {D : va_G} {d : Nat} {ty : zT} {sz : Nat} {h : zH} {Q : zQ}
set_option maxHeartbeats 4000000 in
set_option maxRecDepth 100000 in
theorem C_sign {c : Int} {x lo : Int} {S : CS} (hA : zAbs ty h x lo S) (hc : i32 c) (hq : ∀ h', FrX x lo h h' → zAbs ty h' x lo (S_sign S c) → Q (none) ty sz h') : zXM D mX6_sign (d + 2) 0 0 [rV x, iV c] ty sz h Q := by
  have hA0 := hA
  obtain ⟨hX, hL, hT, hE, hI, hB, hP⟩ := hA
  have hX0 := hX
  obtain ⟨x9, x0, xR, xP, xB, xB2, x14, x15, xE⟩ := hX
  have hE1 := hE.1
  have hE2 := hE.2.1
  have hI1 := hI.1
  have hI2 := hI.2.1
  have hP1 := hP.1.1
  have hP2 := hP.2
  refine x_iload_n (pc := 0) dX6_sign_0 rfl ?_
  refine x_iconst (pc := 1) dX6_sign_1 ?_
  refine x_bipush (pc := 2) dX6_sign_2 (by decide) ?_
  refine x_callS3 (pc := 4) dX6_sign_4 (k_RX6_46 _ rfl) tms_X6_isWithin rfl rfl ?_
  refine c_isWithin (by omega) (by omega) (by omega) ?_
  dsimp only [Option.toList, List.cons_append, List.nil_append]
  refine x_if_eq (pc := 7) 18 dX6_sign_7 rfl (fun c_7 => ?_) (fun c_7 => ?_)
  · (try simp (disch := omega) only [zb_e0, zb_n0, w32_id, w64_id, ne_eq, Classical.not_not] at c_7)
    --
    rw [S_sign, if_neg c_7] at hq
    refine x_ret (pc := 18) ⟨dX6_sign_18, rfl⟩ ?_
    first
    | exact hq h (FrX.rf _ _ _) hA0
    | (refine hq h1 (FrX.of hF1 (by omega) (by omega)) ⟨hX0, hL, ⟨hP9, ?_⟩, (aE.fr hE (by rw [hF1 x (by omega)]) (fun q q0 q1 => hF1 q (by omega))), (aI.fr hI (by rw [hF1 x (by omega)]) (hF1 _ (by omega)) (fun q q0 => hF1 q (by omega)) (fun _ _ z => z)), (aB.fr hB (fun q q0 q1 => hF1 q (by omega))), (aP.fr hP (fun q q0 q1 => hF1 q (by omega)))⟩
       have hT2 := hT.2
       show TxOK (if (cT S).length < 1500 then cT S ++ [c] else cT S)
       by_cases hl : (cT S).length < 1500
       · rw [if_pos hl]
         refine ⟨by simp; omega, fun u hu => ?_⟩
         rcases List.mem_append.mp hu with z | z
         · exact hT2.2 u z
         · rw [List.mem_singleton.mp z]; exact c_7
       · rw [if_neg hl]
         exact hT2)
  · (try simp (disch := omega) only [zb_e0, zb_n0, w32_id, w64_id, ne_eq, Classical.not_not] at c_7)
    --
    rw [S_sign, if_pos c_7] at hq
    refine x_aload_n (pc := 10) dX6_sign_10 rfl ?_
    refine x_getF (pc := 11) dX6_sign_11 f_RX6_12 (by assumption) (by rfl) ?_
    refine x_iload_n (pc := 14) dX6_sign_14 rfl ?_
    refine x_callV1 (pc := 15) dX6_sign_15 (k_RX6_50 _ rfl) tmv_X5_append xR.2.1 rfl rfl rfl ?_
    refine c_r_append xR hc hT.1 hT.2.1 (fun h1 hF1 hP9 => ?_)
    dsimp only [Option.toList, List.cons_append, List.nil_append]
    refine x_ret (pc := 18) ⟨dX6_sign_18, rfl⟩ ?_
    first
    | exact hq h (FrX.rf _ _ _) hA0
    | (refine hq h1 (FrX.of hF1 (by omega) (by omega)) ⟨hX0, hL, ⟨hP9, ?_⟩, (aE.fr hE (by rw [hF1 x (by omega)]) (fun q q0 q1 => hF1 q (by omega))), (aI.fr hI (by rw [hF1 x (by omega)]) (hF1 _ (by omega)) (fun q q0 => hF1 q (by omega)) (fun _ _ z => z)), (aB.fr hB (fun q q0 q1 => hF1 q (by omega))), (aP.fr hP (fun q q0 q1 => hF1 q (by omega)))⟩
       have hT2 := hT.2
       show TxOK (if (cT S).length < 1500 then cT S ++ [c] else cT S)
       by_cases hl : (cT S).length < 1500
       · rw [if_pos hl]
         refine ⟨by simp; omega, fun u hu => ?_⟩
         rcases List.mem_append.mp hu with z | z
         · exact hT2.2 u z
         · rw [List.mem_singleton.mp z]; exact c_7
       · rw [if_neg hl]
         exact hT2)

theorem lookP {x i : Int} {P : List Int} (hP : aP h x P) (h0 : 0 ≤ i) (h1 : i < P.length) : h (x + 5) i = (P[i.toNat]?).getD (-1) := by
  have hl : i.toNat < P.length := by omega
  have := hP.1.2 i.toNat P[i.toNat] (List.getElem?_eq_getElem hl)
  rw [List.getElem?_eq_getElem hl, Option.getD_some, ← this]
  rw [show x + 4 + 1 = x + 5 by omega]
  congr 1
  omega
theorem S_at_out {S : CS} {i : Int} (hn : ¬ (0 ≤ i ∧ i < (cP S).length)) : S_at S i = -1 := by
  unfold S_at
  split
  · rw [List.getElem?_eq_none (by omega)]; rfl
  · rfl
theorem S_at_in {S : CS} {x i : Int} (hP : aP h x (cP S)) (h0 : 0 ≤ i) (h1 : i < (cP S).length) : S_at S i = h (x + 5) i := by
  unfold S_at
  rw [if_pos h0, lookP hP h0 h1]

set_option maxHeartbeats 4000000 in
set_option maxRecDepth 100000 in
theorem C_at {i : Int} {x lo : Int} {S : CS} (hA : zAbs ty h x lo S) (hi : i32 i) (hq : ∀ h', FrX x lo h h' → zAbs ty h' x lo (S) → Q (some (iV (S_at S i))) ty sz h') : zXM D mX6_at (d + 2) 0 0 [rV x, iV i] ty sz h Q := by
  have hA0 := hA
  obtain ⟨hX, hL, hT, hE, hI, hB, hP⟩ := hA
  have hX0 := hX
  obtain ⟨x9, x0, xR, xP, xB, xB2, x14, x15, xE⟩ := hX
  have hE1 := hE.1
  have hE2 := hE.2.1
  have hI1 := hI.1
  have hI2 := hI.2.1
  have hP1 := hP.1.1
  have hP2 := hP.2
  obtain ⟨p9, p0, p1⟩ := xP
  refine x_iload_n (pc := 0) dX6_at_0 rfl ?_
  refine x_aload_n (pc := 1) dX6_at_1 rfl ?_
  refine x_getF (pc := 2) dX6_at_2 f_RX6_19 (by assumption) (by rfl) ?_
  refine y_getI 1 (pc := 5) dX6_at_5 f_RX6_156 (by assumption) rfl (fun b_5 => ?_)
  rw [hP1] at b_5 ⊢
  refine x_icmp_ge (pc := 8) 25 dX6_at_8 rfl (fun c_8 => ?_) (fun c_8 => ?_)
  · (try simp (disch := omega) only [zb_e0, zb_n0, w32_id, w64_id, ne_eq, Classical.not_not] at c_8)
    --
    rw [S_at_out (S := S) (i := i) (by omega)] at hq
    refine x_iconst (pc := 25) dX6_at_25 ?_
    refine x_retv (pc := 26) ⟨dX6_at_26, Or.inl rfl⟩ ?_
    exact hq h (FrX.rf _ _ _) hA0
  · (try simp (disch := omega) only [zb_e0, zb_n0, w32_id, w64_id, ne_eq, Classical.not_not] at c_8)
    refine x_aload_n (pc := 11) dX6_at_11 rfl ?_
    refine x_getF (pc := 12) dX6_at_12 f_RX6_19 (by assumption) (by rfl) ?_
    refine x_getF (pc := 15) dX6_at_15 f_RX6_159 (by assumption) (by rfl) ?_
    refine x_iload_n (pc := 18) dX6_at_18 rfl ?_
    refine x_callS2 (pc := 19) dX6_at_19 (k_RX6_163 _ rfl) tms_X6_cell rfl rfl ?_
    refine c_cell (N := 1500) (by omega) (by assumption) (by decide) (by omega) (fun _ => ?_)
    rw [show zcl h (x + 4 + 1) 1500 i = S_at S i by
      unfold zcl
      by_cases h0 : 0 ≤ i
      · rw [if_pos ⟨h0, by omega⟩, S_at_in hP h0 (by omega)]
        congr 1
        omega
      · rw [if_neg (by omega), S_at_out (by omega)]]
    dsimp only [Option.toList, List.cons_append, List.nil_append]
    refine x_goto (pc := 22) 26 dX6_at_22 rfl ?_
    refine x_retv (pc := 26) ⟨dX6_at_26, Or.inl rfl⟩ ?_
    exact hq h (FrX.rf _ _ _) hA0

theorem tell_S {S : CS} {x i q : Int} (hB : BillIs h (x + 6) (cB S) (cb S)) : (if 0 ≤ i ∧ i < (cB S).length ∧ q = 0 then h (x + 6 + 1) i else if 0 ≤ i ∧ i < (cB S).length ∧ q = 1 then h (x + 6 + 2) i else if 0 ≤ i ∧ i < (cB S).length ∧ q = 2 then h (x + 6 + 3) i else -1) = S_explain S i q := by
  unfold S_explain
  by_cases h0 : 0 ≤ i
  · rw [if_pos h0]
    by_cases h1 : i < (cB S).length
    · have hl : i.toNat < (cB S).length := by omega
      have hg := hB.2.2 _ _ (List.getElem?_eq_getElem hl)
      rw [show ((i.toNat : Nat) : Int) = i by omega] at hg
      rw [List.getElem?_eq_getElem hl]
      simp only [h0, h1, true_and, hg.1, hg.2.1, hg.2.2]
    · rw [List.getElem?_eq_none (by omega)]
      simp only [h1, false_and, and_false, if_false]
  · rw [if_neg h0]
    simp only [h0, false_and, if_false]

set_option maxHeartbeats 4000000 in
set_option maxRecDepth 100000 in
theorem C_explain {i q : Int} {x lo : Int} {S : CS} (hA : zAbs ty h x lo S) (hi : i32 i ∧ i32 q) (hq : ∀ h', FrX x lo h h' → zAbs ty h' x lo (S) → Q (some (iV (S_explain S i q))) ty sz h') : zXM D mX6_explain (d + 2) 0 0 [rV x, iV i, iV q] ty sz h Q := by
  have hA0 := hA
  obtain ⟨hX, hL, hT, hE, hI, hB, hP⟩ := hA
  have hX0 := hX
  obtain ⟨x9, x0, xR, xP, xB, xB2, x14, x15, xE⟩ := hX
  have hE1 := hE.1
  have hE2 := hE.2.1
  have hI1 := hI.1
  have hI2 := hI.2.1
  have hP1 := hP.1.1
  have hP2 := hP.2
  refine x_aload_n (pc := 0) dX6_explain_0 rfl ?_
  refine x_getF (pc := 1) dX6_explain_1 f_RX6_26 (by assumption) (by rfl) ?_
  refine x_iload_n (pc := 4) dX6_explain_4 rfl ?_
  refine x_iload_n (pc := 5) dX6_explain_5 rfl ?_
  refine x_callV2 (pc := 6) dX6_explain_6 (k_RX6_125 _ rfl) tmv_X0_tell xB.2.1 rfl rfl rfl ?_
  refine c_b_tell xB hi hB.1 hB.2 ?_
  rw [tell_S hB.1]
  dsimp only [Option.toList, List.cons_append, List.nil_append]
  refine x_retv (pc := 9) ⟨dX6_explain_9, Or.inl rfl⟩ ?_
  exact hq h (FrX.rf _ _ _) hA0

def IntoOK (h' : zH) (e : Int) (T : List Int) (v : Int) : Prop := (∃ f, parse T = .inl f ∧ (0 ≤ f ∧ f ≤ 1500) ∧ v = -1 - f) ∨ (∃ l, parse T = .inr l ∧ EdIs h' e l ∧ OKE l ∧ (l.length : Int) ≤ 1501 ∧ v = l.length)
theorem IntoOK.fr {g g' : zH} {e v : Int} {T : List Int} (hI : IntoOK g e T v) (ea : ∀ q, e ≤ q → q ≤ e + 61 → g' q = g q) : IntoOK g' e T v := by
  rcases hI with q | ⟨l, h1, h2, h3⟩
  · exact Or.inl q
  · exact Or.inr ⟨l, h1, h2.fr ea, h3⟩
theorem IntoOK.rng {g : zH} {e v : Int} {T : List Int} (hI : IntoOK g e T v) : -1501 ≤ v ∧ v ≤ 1501 := by
  rcases hI with ⟨f, h1, h2, h3⟩ | ⟨l, h1, h2, h3, h4, h5⟩ <;> omega
theorem S_read_f {S : CS} {f : Int} (hp : parse (cT S) = .inl f) : S_read S = (([], S.2), -1 - f) := by unfold S_read; rw [hp]
theorem S_read_r {S : CS} {l : List Row} (hp : parse (cT S) = .inr l) : S_read S = if (cE S).length = 5 then (([], S.2), -1000004) else (([], cE S ++ [l], S.2.2), (l.length : Int)) := by unfold S_read; rw [hp]

set_option maxHeartbeats 4000000 in
set_option maxRecDepth 100000 in
theorem C_read {x lo : Int} {S : CS} (hA : zAbs ty h x lo S) (hpl : ∀ l, parse (cT S) = .inr l → WF l → OKE l ∧ (l.length : Int) ≤ 1501) (hq : ∀ h', FrX x lo h h' → zAbs ty h' x lo ((S_read S).1) → Q (some (iV (S_read S).2)) ty sz h') : zXM D mX6_read (d + 7) 0 0 [rV x] ty sz h Q := by
  have hA0 := hA
  obtain ⟨hX, hL, hT, hE, hI, hB, hP⟩ := hA
  have hX0 := hX
  obtain ⟨x9, x0, xR, xP, xB, xB2, x14, x15, xE⟩ := hX
  have hE1 := hE.1
  have hE2 := hE.2.1
  have hI1 := hI.1
  have hI2 := hI.2.1
  have hP1 := hP.1.1
  have hP2 := hP.2
  have CI : ∀ (r e : Int), isRT ty r → isET ty e → (e + 61 < r ∨ r + 2 < e) → PrIs h r (cT S) → ∀ Q' : zQ, (∀ h' v, Fr2 r e h h' → IntoOK h' e (cT S) v → Q' (some (iV v)) ty sz h') → zXM D mX5_readInto (d + 6) 0 0 [rV r, rV e] ty sz h Q' := by
    intro r e hR hE' hd hP' Q' hq'
    refine c_r_into hR hE' hd hT.2 hP' (fun f h1 h2 g hF => ?_) (fun l h1 g hF h2 h3 => ?_)
    · exact hq' g _ hF (Or.inl ⟨f, h1, h2, rfl⟩)
    · exact hq' g _ hF (Or.inr ⟨l, h1, h2, (hpl l h1 h3).1, (hpl l h1 h3).2, rfl⟩)
  refine x_aload_n (pc := 0) dX6_read_0 rfl ?_
  refine x_aload_n (pc := 1) dX6_read_1 rfl ?_
  refine y_getI 7 (pc := 2) dX6_read_2 f_RX6_54 (by assumption) rfl (fun b_2 => ?_)
  rw [hE1]
  refine x_callV1 (pc := 5) dX6_read_5 (k_RX6_58 _ rfl) tmv_X6_slot (by assumption) rfl rfl rfl ?_
  refine c_slot hX0 (by omega) (fun z => absurd ⟨by omega, by omega⟩ z) (fun _ => ?_)
  dsimp only [Option.toList, List.cons_append, List.nil_append]
  refine x_astore_n (pc := 8) dX6_read_8 (by decide) ?_
  refine x_aload_n (pc := 9) dX6_read_9 rfl ?_
  refine x_ifnonnull (pc := 10) 16 dX6_read_10 rfl (fun c_10 => ?_) (fun c_10 => ?_)
  · (try simp (disch := omega) only [zb_e0, zb_n0, w32_id, w64_id, ne_eq, Classical.not_not] at c_10)
    refine x_aload_n (pc := 16) dX6_read_16 rfl ?_
    refine x_getF (pc := 17) dX6_read_17 f_RX6_12 (by assumption) (by rfl) ?_
    refine x_aload_n (pc := 20) dX6_read_20 rfl ?_
    refine x_callV1 (pc := 21) dX6_read_21 (k_RX6_63 _ rfl) tmv_X5_readInto xR.2.1 rfl rfl rfl ?_
    refine CI _ _ xR (xE _ (by omega) (by omega)) (by omega) hT.1 _ (fun h1 v hF1 hIn => ?_)
    dsimp only [Option.toList, List.cons_append, List.nil_append]
    refine x_istore_n (pc := 24) dX6_read_24 (by decide) ?_
    refine x_aload_n (pc := 25) dX6_read_25 rfl ?_
    refine x_getF (pc := 26) dX6_read_26 f_RX6_12 (by assumption) (by rfl) ?_
    refine x_callV0 (pc := 29) dX6_read_29 (k_RX6_67 _ rfl) tmv_X5_empty xR.2.1 rfl rfl rfl ?_
    refine c_r_empty xR (fun h2 hF2 hP9 => ?_)
    have hvr := hIn.rng
    have h2x : h2 x = h x := by rw [hF2 x (by omega), hF1 x (by omega) (by omega)]
    have hIn2 : IntoOK h2 (x + 16 + 62 * (cE S).length) (cT S) v := hIn.fr (fun q q0 q1 => hF2 q (by omega))
    have hF0 : ∀ a, a = x ∨ (x + 4 ≤ a ∧ a < x + 16 + 62 * (cE S).length) ∨ x + 387 < a → h2 a = h a := fun a ha => by rw [hF2 a (by omega), hF1 a (by omega) (by omega)]
    have hFx : FrX x lo h h2 := fun a a1 a2 => by rw [hF2 a (by omega), hF1 a (by omega) (by omega)]
    have hT0 : aT h2 x [] := ⟨hP9, by simp [TxOK]⟩
    have hE0 : aE h2 x (cE S) := aE.fr hE (by rw [h2x]) (fun q q0 q1 => hF0 q (by omega))
    have hI0 : aI ty h2 x lo (cI S) := aI.fr hI (by rw [h2x]) (hF0 _ (by omega)) (fun q q0 => hF0 q (by omega)) (fun _ _ z => z)
    have hB0 : aB h2 x (cB S) (cb S) := aB.fr hB (fun q q0 q1 => hF0 q (by omega))
    have hP0 : aP h2 x (cP S) := aP.fr hP (fun q q0 q1 => hF0 q (by omega))
    dsimp only [Option.toList, List.cons_append, List.nil_append]
    refine x_iload_n (pc := 32) dX6_read_32 rfl ?_
    refine x_if_ge (pc := 33) 38 dX6_read_33 rfl (fun c_33 => ?_) (fun c_33 => ?_)
    · (try simp (disch := omega) only [zb_e0, zb_n0, w32_id, w64_id, ne_eq, Classical.not_not] at c_33)
      refine x_aload_n (pc := 38) dX6_read_38 rfl ?_
      refine y_getI 7 (pc := 39) dX6_read_39 f_RX6_54 (by assumption) rfl (fun b_39 => ?_)
      rw [h2x, hE1]
      refine x_iconst (pc := 42) dX6_read_42 ?_
      refine x_icmp_lt (pc := 43) 49 dX6_read_43 rfl (fun c_43 => ?_) (fun c_43 => ?_)
      · (try simp (disch := omega) only [zb_e0, zb_n0, w32_id, w64_id, ne_eq, Classical.not_not] at c_43)
        refine x_aload_n (pc := 49) dX6_read_49 rfl ?_
        refine x_dup (pc := 50) dX6_read_50 rfl ?_
        refine y_getI 7 (pc := 51) dX6_read_51 f_RX6_54 (by assumption) rfl (fun b_51 => ?_)
        rw [h2x, hE1]
        refine x_iconst (pc := 54) dX6_read_54 ?_
        refine x_iadd (pc := 55) dX6_read_55 ?_
        refine y_putI 7 (pc := 56) dX6_read_56 f_RX6_54 (by assumption) rfl (by rfl) (by omega) rfl ?_
        refine x_iload_n (pc := 59) dX6_read_59 rfl ?_
        refine x_retv (pc := 60) ⟨dX6_read_60, Or.inl rfl⟩ ?_
        rcases hIn2 with ⟨f, q1, q2, q3⟩ | ⟨l, q1, q2, q3, q4, q5⟩
        · omega
        · rw [S_read_r q1, if_neg (by omega), ← q5] at hq
          have hll : (cE S ++ [l]).length = (cE S).length + 1 := by simp
          have hup : ∀ a, a ≠ x → zup h2 x 7 ((cE S).length + 1) a = h2 a := fun a ha => zup_ne ha
          refine hq _ (fun a a1 a2 => by rw [hup a (by omega)]; exact hFx a a1 a2) ⟨hX0, hL, aT.fr hT0 (fun q q0 q1 => hup q (by omega)), ⟨by show zup h2 x 7 _ x 7 = ((cE S ++ [l]).length : Int); rw [hll]; simp [zup_app], by show (cE S ++ [l]).length ≤ 5; omega, fun j m hj => ?_⟩, aI.fr hI0 (by simp [zup_app]) (hup _ (by omega)) (fun q q0 => hup q (by omega)) (fun _ _ z => z), aB.fr hB0 (fun q q0 q1 => hup q (by omega)), aP.fr hP0 (fun q q0 q1 => hup q (by omega))⟩
          replace hj : (cE S ++ [l])[j]? = some m := hj
          by_cases hjl : j < (cE S).length
          · rw [List.getElem?_append_left hjl] at hj
            have := hE0.2.2 j m hj
            exact ⟨this.1.fr (fun q q0 q1 => hup q (by omega)), this.2⟩
          · rw [List.getElem?_append_right (by omega)] at hj
            have h0 : j - (cE S).length = 0 := by
              have := (List.getElem?_eq_some_iff.mp hj).1
              simp at this
              omega
            rw [h0] at hj
            cases hj
            have ej : j = (cE S).length := by omega
            subst ej
            exact ⟨q2.fr (fun q q0 q1 => hup q (by omega)), q3⟩
      · (try simp (disch := omega) only [zb_e0, zb_n0, w32_id, w64_id, ne_eq, Classical.not_not] at c_43)
        refine x_ldc (pc := 46) dX6_read_46 (-1000004) tc_RX6_62 (by decide) ?_
        refine x_retv (pc := 48) ⟨dX6_read_48, Or.inl rfl⟩ ?_
        rcases hIn2 with ⟨f, q1, q2, q3⟩ | ⟨l, q1, q2, q3, q4, q5⟩
        · omega
        · rw [S_read_r q1, if_pos (by omega)] at hq
          exact hq h2 hFx ⟨hX0, hL, hT0, hE0, hI0, hB0, hP0⟩
    · (try simp (disch := omega) only [zb_e0, zb_n0, w32_id, w64_id, ne_eq, Classical.not_not] at c_33)
      refine x_iload_n (pc := 36) dX6_read_36 rfl ?_
      refine x_retv (pc := 37) ⟨dX6_read_37, Or.inl rfl⟩ ?_
      rcases hIn2 with ⟨f, q1, q2, q3⟩ | ⟨l, q1, q2, q3, q4, q5⟩
      · rw [S_read_f q1, ← q3] at hq
        exact hq h2 hFx ⟨hX0, hL, hT0, hE0, hI0, hB0, hP0⟩
      · omega
  · (try simp (disch := omega) only [zb_e0, zb_n0, w32_id, w64_id, ne_eq, Classical.not_not] at c_10)
    omega

end C17
