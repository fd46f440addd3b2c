section C38
variable {D : va_G} {d : Nat} {ty : zT} {sz : Nat} {h : zH} {Q : zQ}
theorem rBill_n {kr : List Row} {it : IT} {zone day : Int} (h : ¬ kTakes (vH kr it) 0 10 zone day) : rBill kr it zone day = ([], -1) := by
  unfold rBill
  split
  · rfl
  · exact kBill_n (fun q => h q.2.1)
theorem rBill_nil {it : IT} {zone day : Int} : rBill [] it zone day = ([], -1) := if_pos rfl
theorem mB_nil {h : zH} {m : Int} (h0 : h m 19 = 0) : mB h m [] := ⟨h0, by decide, fun i q hi => by simp at hi⟩
/-- an item, as the reference holds it -/
def ItA (h : zH) (m i : Int) (it : IT) : Prop := (0 ≤ i ∧ i < 100) ∧ ItM h m i it ∧ itB it ∧ HasIs h m i it.2.2.2.2.2
theorem mI.get {h : zH} {m i : Int} {S : CS} {it : IT} (hI : mI h m (cI S)) (hs : S_it S i = some it) : ItA h m i it := by
  obtain ⟨i0, hg⟩ := S_it_some hs
  have hl := (List.getElem?_eq_some_iff.mp hg).1
  obtain ⟨v1, v2, v3⟩ := hI.2.2.1 _ _ hg
  have := hI.2.1
  rw [show ((i.toNat : Nat) : Int) = i by omega] at v1 v3
  exact ⟨by omega, v1, v2, v3⟩
theorem ItA.fr {h g : zH} {m i : Int} {it : IT} (hA : ItA h m i it) (F : FrP m h g) : ItA g m i it := by
  obtain ⟨h1, h2, h3, h4⟩ := hA
  refine ⟨h1, ?_, h3, ?_⟩
  · unfold ItM at *
    rw [F.1 (m + 7) (by omega) (by omega), F.1 (m + 8) (by omega) (by omega), F.1 (m + 9) (by omega) (by omega), F.1 (m + 10) (by omega) (by omega), F.1 (m + 11) (by omega) (by omega)]
    exact h2
  · unfold HasIs at *
    rw [F.1 (m + 12) (by omega) (by omega)]
    exact h4
theorem mE.P {h g : zH} {m : Int} {E : List (List Row)} (hE : mE h m E) (F : FrP m h g) : mE g m E := hE.fr (F.2 10 (by decide)) (fun a k a1 a2 _ => by rw [F.1 a (by omega) (by omega)]) (fun k _ => by rw [F.1 _ (by omega) (by omega)])
theorem mAbs_P {h g : zH} {m b : Int} {S : CS} {B : List PT} (hA : mAbs ty h m S) (F : FrP m h g) (hB : mB g m B) : mAbs ty g m (cT S, cE S, cI S, B, b, cP S) := by
  obtain ⟨hM, hT, hE, hI, -, hP⟩ := hA
  exact ⟨hM, ⟨hT.1.fr (F.2 2 (by decide)) (F.1 _ (by omega) (by omega)), hT.2⟩, hE.P F, hI.fr (F.2 12 (by decide)) (fun a a1 a2 => F.1 a (by omega) (by omega)), hB, hP.fr (F.2 23 (by decide)) (F.1 _ (by omega) (by omega))⟩
theorem FrP.M {m : Int} {h g : zH} (F : FrP m h g) : FrM m h g := fun a ha => F.1 a (by omega) (by omega)

theorem kR_le (k : Int) : ∀ l : List Row, (kR k l).length ≤ l.length := by
  refine snoc_ind (Nat.le_refl _) ?_
  intro l r ih
  rw [kR_snoc]
  split <;> simp <;> omega
set_option maxHeartbeats 4000000 in
set_option maxRecDepth 100000 in
theorem c_m_reckon {m : Int} (hM : isMT ty m) {i k zone day : Int} {E : List (List Row)} {l : List Row} {it : IT} (hE : mE h m E) (hl : E[E.length - 1]? = some l) (hne : E ≠ []) (hA : ItA h m i it) (hk : 0 ≤ k ∧ k ≤ 9) (hz : 0 ≤ zone ∧ zone ≤ 9) (hdy : i64 day) (hq : ∀ h', FrP m h h' → mB h' m (rBill (kR k l) it zone day).1 → Q (some (lV (rBill (kR k l) it zone day).2)) ty sz h') : zXM D mX7_reckon (d + 3) 0 0 [rV m, iV i, iV k, iV zone, lV day] ty sz h Q := by
  have hM0 := hM
  obtain ⟨m9, m0, a1, a2, a3, a4, a5, a6, a7, a8, a9, a10, a11, a12, a13, a14, a15, a16, a17, a18, a19, a20, a21⟩ := hM
  have hE1 := hE.1
  have hE2 := hE.2.1
  have hlen := List.length_pos_iff.mpr hne
  have F0 : FrP m h (zup h m 19 0) := ⟨fun q q1 _ => zup_ne q1, fun k hk => by rw [zup_app, if_neg (by omega)]⟩
  have hB0 : mB (zup h m 19 0) m [] := mB_nil (by simp [zup_app])
  obtain ⟨e1, e2, e3, e4⟩ := (hE.P F0).2.2 _ _ hl
  rw [show ((E.length - 1 : Nat) : Int) = E.length - 1 by omega] at e1 e2
  have hA0 := hA.fr F0
  have hA1 := hA0.1
  have z10 : zup h m 19 0 m 10 = E.length := by rw [zup_app, if_neg (by omega)]; exact hE1
  refine x_aload_n (pc := 0) dX7_reckon_0 rfl ?_
  refine x_iconst (pc := 1) dX7_reckon_1 ?_
  refine y_putI 19 (pc := 2) dX7_reckon_2 f_RX7_172 (by assumption) rfl (by rfl) (by omega) rfl ?_
  refine x_aload_n (pc := 5) dX7_reckon_5 rfl ?_
  refine y_getI 10 (pc := 6) dX7_reckon_6 f_RX7_155 (by assumption) rfl (fun b_6 => ?_)
  rw [z10]
  refine x_iconst (pc := 9) dX7_reckon_9 ?_
  refine x_isub (pc := 10) dX7_reckon_10 ?_
  refine x_istore (pc := 11) dX7_reckon_11 (by decide) ?_
  refine x_aload_n (pc := 13) dX7_reckon_13 rfl ?_
  refine x_iload (pc := 14) dX7_reckon_14 rfl ?_
  refine x_iload_n (pc := 16) dX7_reckon_16 rfl ?_
  refine x_callV2 (pc := 17) dX7_reckon_17 (k_RX7_187 _ rfl) tmv_X7_kindRow (by assumption) rfl rfl rfl ?_
  refine x_room (d' := d) (by omega) (Nat.le_refl _) (Nat.le_refl _) (c_m_kindRow hM0 (by omega) (by omega) e1 ⟨e2, e4⟩ e3 (fun res hres => ?_))
  dsimp only [Option.toList, List.cons_append, List.nil_append]
  refine x_istore (pc := 20) dX7_reckon_20 (by decide) ?_
  refine x_iload (pc := 22) dX7_reckon_22 rfl ?_
  refine x_iconst (pc := 24) dX7_reckon_24 ?_
  refine x_icmp_ne (pc := 25) 32 dX7_reckon_25 rfl (fun c_25 => ?_) (fun c_25 => ?_)
  · (try simp (disch := omega) only [zb_e0, zb_n0, w32_id, w64_id, ne_eq, Classical.not_not] at c_25)
    have hrs : -1 ≤ res ∧ res ≤ 4000 := by
      rcases hres with ⟨z, -⟩ | ⟨j, R, z1, z2, -⟩
      · omega
      · have := (List.getElem?_eq_some_iff.mp z2).1
        omega
    try simp (disch := omega) only [w32_id, ne_eq, Classical.not_not] at c_25
    refine x_aload_n (pc := 32) dX7_reckon_32 rfl ?_
    refine x_iload (pc := 33) dX7_reckon_33 rfl ?_
    refine x_iload (pc := 35) dX7_reckon_35 rfl ?_
    refine x_callV2 (pc := 37) dX7_reckon_37 (k_RX7_192 _ rfl) tmv_X7_kindEnd (by assumption) rfl rfl rfl ?_
    rcases hres with ⟨z, -⟩ | ⟨j, R, z1, z2, z3, z4⟩
    · exact absurd z c_25
    have hjl := (List.getElem?_eq_some_iff.mp z2).1
    refine x_room (d' := d) (by omega) (Nat.le_refl _) (Nat.le_refl _) (c_m_kindEnd hM0 z1 z2 z3 z4 (by omega) e1 ⟨e2, e4⟩ e3 (fun hMR => ?_))
    have hkn : kR k l ≠ [] := (kR_ne k l e3).mpr ⟨R, List.mem_of_getElem? z2, z3, z4⟩
    have hkl : (kR k l).length ≤ l.length := kR_le k l
    have hRB : RB (zup h m 19 0) m i res (res + (kR k l).length) (kR k l) it := ⟨hA0.1, hA0.2.1, hA0.2.2.1, hA0.2.2.2, hMR, rfl, by omega, fun r hr => WF_B l e3 r (kR_sub k l r hr), kR_cnt l e3 k⟩
    dsimp only [Option.toList, List.cons_append, List.nil_append]
    refine x_istore (pc := 40) dX7_reckon_40 (by decide) ?_
    refine x_aload_n (pc := 42) dX7_reckon_42 rfl ?_
    refine x_iload_n (pc := 43) dX7_reckon_43 rfl ?_
    refine x_iload (pc := 44) dX7_reckon_44 rfl ?_
    refine x_iload (pc := 46) dX7_reckon_46 rfl ?_
    refine x_iload_n (pc := 48) dX7_reckon_48 rfl ?_
    refine x_lload (pc := 49) dX7_reckon_49 rfl ?_
    refine x_callV5 (pc := 51) dX7_reckon_51 (k_RX7_195 _ rfl) tmv_X7_mayGo (by assumption) rfl rfl rfl ?_
    refine x_room (d' := d + 2) (by omega) (Nat.le_refl _) (Nat.le_refl _) (c_m_mayGo hM0 hRB.2.1 hRB.2.2.1 hz hdy hRB.1 hRB.2.2.2.1 hRB.2.2.2.2.1 rfl hRB.2.2.2.2.2.2.1 hRB.2.2.2.2.2.2.2.1 ?_)
    dsimp only [Option.toList, List.cons_append, List.nil_append]
    refine x_if_ne (pc := 54) 61 dX7_reckon_54 rfl (fun c_54 => ?_) (fun c_54 => ?_)
    · (try simp (disch := omega) only [zb_e0, zb_n0, w32_id, w64_id, ne_eq, Classical.not_not] at c_54)
      exact x_loc _ (by exact ⟨rfl, rfl, rfl, rfl, rfl, trivial⟩) (c_m_rec61 hM0 hRB hB0 hkn hz c_54 (fun g F hB => hq g (F0.t F) hB))
    · (try simp (disch := omega) only [zb_e0, zb_n0, w32_id, w64_id, ne_eq, Classical.not_not] at c_54)
      refine x_ldc2 (pc := 57) dX7_reckon_57 (-1) tc_RX7_190 (by decide) ?_
      refine x_retv (pc := 60) ⟨dX7_reckon_60, rfl⟩ ?_
      rw [rBill_n c_54] at hq
      exact hq _ F0 hB0
  · (try simp (disch := omega) only [zb_e0, zb_n0, w32_id, w64_id, ne_eq, Classical.not_not] at c_25)
    have hrs : -1 ≤ res ∧ res ≤ 4000 := by
      rcases hres with ⟨z, -⟩ | ⟨j, R, z1, z2, -⟩
      · omega
      · have := (List.getElem?_eq_some_iff.mp z2).1
        omega
    try simp (disch := omega) only [w32_id, ne_eq, Classical.not_not] at c_25
    refine x_ldc2 (pc := 28) dX7_reckon_28 (-1) tc_RX7_190 (by decide) ?_
    refine x_retv (pc := 31) ⟨dX7_reckon_31, rfl⟩ ?_
    rcases hres with ⟨-, z⟩ | ⟨j, R, z1, -⟩
    · rw [z, rBill_nil] at hq
      exact hq _ F0 hB0
    · omega

theorem S_it_lt {S : CS} {i : Int} (h : S_it S i ≠ none) : 0 ≤ i ∧ i < (cI S).length := by
  obtain ⟨it, hit⟩ := Option.ne_none_iff_exists'.mp h
  obtain ⟨i0, hg⟩ := S_it_some hit
  have := (List.getElem?_eq_some_iff.mp hg).1
  omega
set_option maxHeartbeats 4000000 in
set_option maxRecDepth 100000 in
theorem C_m_price {i zone day : Int} {m : Int} {S : CS} (hA : mAbs ty h m S) (hi : i32 i ∧ i32 zone ∧ i64 day) (hq : ∀ h', FrM m h h' → mAbs ty h' m ((S_price S i zone day).1) → Q (some (lV (S_price S i zone day).2)) ty sz h') : zXM D mX7_price (d + 4) 0 0 [rV m, iV i, iV zone, lV day] ty sz h Q := by
  have hA0 := hA
  obtain ⟨hM, hT, hE, hI, hB, hP⟩ := hA
  have hM0 := hM
  obtain ⟨m9, m0, a1, a2, a3, a4, a5, a6, a7, a8, a9, a10, a11, a12, a13, a14, a15, a16, a17, a18, a19, a20, a21⟩ := hM
  have hE1 := hE.1
  have hE2 := hE.2.1
  have hI1 := hI.1
  have hI2 := hI.2.1
  have hB1 := hB.1
  have hB2 := hB.2.1
  have hP1 := hP.1
  have hP2 := hP.2.1
  have z10 : zup h m 0 0 m 10 = (cE S).length := by rw [zup_app, if_neg (by omega)]; exact hE1
  have z12 : zup h m 0 0 m 12 = (cI S).length := by rw [zup_app, if_neg (by omega)]; exact hI1
  have z19 : zup h m 0 0 m 19 = (cB S).length := by rw [zup_app, if_neg (by omega)]; exact hB1
  have z23 : zup h m 0 0 m 23 = (cP S).length := by rw [zup_app, if_neg (by omega)]; exact hP1
  have hA1 : mAbs ty (zup h m 0 0) m S := mAbs_0 hA0
  have hF1 : FrM m h (zup h m 0 0) := FrM.up h ⟨by omega, by omega⟩
  have hrr := S_refuse_rng S zone day
  obtain ⟨-, hT9, hE9, hI9, hB9, hP9⟩ := id hA1
  refine x_aload_n (pc := 0) dX7_price_0 rfl ?_
  refine x_iconst (pc := 1) dX7_price_1 ?_
  refine y_putI 0 (pc := 2) dX7_price_2 f_RX7_75 (by assumption) rfl (by rfl) (by omega) rfl ?_
  refine x_aload_n (pc := 5) dX7_price_5 rfl ?_
  refine x_iload_n (pc := 6) dX7_price_6 rfl ?_
  refine x_iload_n (pc := 7) dX7_price_7 rfl ?_
  refine x_lload_n (pc := 8) dX7_price_8 rfl ?_
  refine x_callV3 (pc := 9) dX7_price_9 (k_RX7_208 _ rfl) tmv_X7_refusal (by assumption) rfl rfl rfl ?_
  refine x_room (d' := d + 1) (by omega) (Nat.le_refl _) (Nat.le_refl _) (c_m_refusal hA1 hi ?_)
  generalize hv : (if S_it S i = none then -1000001 else S_refuse S zone day) = v
  have hvr : -1000003 ≤ v ∧ v ≤ 0 := by rw [← hv]; split <;> omega
  dsimp only [Option.toList, List.cons_append, List.nil_append]
  refine x_istore (pc := 12) dX7_price_12 (by decide) ?_
  refine x_iload (pc := 14) dX7_price_14 rfl ?_
  refine x_if_eq (pc := 16) 25 dX7_price_16 rfl (fun c_16 => ?_) (fun c_16 => ?_)
  · (try simp (disch := omega) only [zb_e0, zb_n0, w32_id, w64_id, ne_eq, Classical.not_not] at c_16)
    try simp (disch := omega) only [w32_id, ne_eq, Classical.not_not] at c_16
    refine x_aload_n (pc := 25) dX7_price_25 rfl ?_
    refine x_iload_n (pc := 26) dX7_price_26 rfl ?_
    refine x_aload_n (pc := 27) dX7_price_27 rfl ?_
    refine x_getF (pc := 28) dX7_price_28 f_RX7_28 (by assumption) (by rfl) ?_
    refine x_iload_n (pc := 31) dX7_price_31 rfl ?_
    refine x_iald (pc := 32) dX7_price_32 (by assumption) (by first | (have := (S_it_lt (S := S) (i := i) (by intro z; rw [if_pos z] at hv; omega)); omega)) (by first | (have := (S_it_lt (S := S) (i := i) (by intro z; rw [if_pos z] at hv; omega)); omega)) (fun b_32 => ?_)
    refine x_iload_n (pc := 33) dX7_price_33 rfl ?_
    refine x_lload_n (pc := 34) dX7_price_34 rfl ?_
    refine x_callV4 (pc := 35) dX7_price_35 (k_RX7_212 _ rfl) tmv_X7_reckon (by assumption) rfl rfl rfl ?_
    have hsn : S_it S i ≠ none := fun z => by rw [if_pos z] at hv; omega
    obtain ⟨it, hit⟩ := Option.ne_none_iff_exists'.mp hsn
    rw [if_neg hsn] at hv
    have hr0 : S_refuse S zone day = 0 := by omega
    obtain ⟨r1, r2, r3⟩ := S_refuse_0 hr0
    have hIA := hI9.get hit
    have hk1 : zup h m 0 0 (m + 7) i = it.1 := hIA.2.1.1
    have hk2 := hIA.2.2.1.1
    rw [hk1]
    rw [S_price_in hit hr0] at hq
    refine c_m_reckon hM0 hE9 (S_last_get r3) r3 hIA hk2 r1 hi.2.2 (fun g F hB3 => ?_)
    dsimp only [Option.toList, List.cons_append, List.nil_append]
    refine x_retv (pc := 38) ⟨dX7_price_38, rfl⟩ ?_
    exact hq g (hF1.t F.M) (mAbs_P hA1 F hB3)
  · (try simp (disch := omega) only [zb_e0, zb_n0, w32_id, w64_id, ne_eq, Classical.not_not] at c_16)
    try simp (disch := omega) only [w32_id, ne_eq, Classical.not_not] at c_16
    refine x_iload (pc := 19) dX7_price_19 rfl ?_
    refine x_i2l (pc := 21) dX7_price_21 ?_
    refine x_goto (pc := 22) 38 dX7_price_22 rfl ?_
    refine x_retv (pc := 38) ⟨dX7_price_38, rfl⟩ ?_
    rw [w32_id (by omega) (by omega)]
    by_cases hsn : S_it S i = none
    · rw [if_pos hsn] at hv
      rw [S_price_none hsn, hv] at hq
      exact hq _ hF1 hA1
    · obtain ⟨it, hit⟩ := Option.ne_none_iff_exists'.mp hsn
      rw [if_neg hsn] at hv
      rw [S_price_ref hit (by omega)] at hq
      rw [← hv]
      exact hq _ hF1 hA1

end C38
