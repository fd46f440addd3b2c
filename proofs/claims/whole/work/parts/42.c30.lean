section C30
variable {D : va_G} {d : Nat} {ty : zT} {sz : Nat} {h : zH} {Q : zQ}
theorem mAbs_up {m k v : Int} {S : CS} (hk : k ≠ 2 ∧ k ≠ 10 ∧ k ≠ 12 ∧ k ≠ 19 ∧ k ≠ 23) (hA : mAbs ty h m S) : mAbs ty (zup h m k v) m S := by
  obtain ⟨hM, hT, hE, hI, hB, hP⟩ := hA
  have e : ∀ j, j ≠ k → zup h m k v m j = h m j := fun j hj => by rw [zup_app, if_neg (by omega)]
  exact ⟨hM, ⟨hT.1.fr (e 2 (by omega)) (zup_ne (by omega)), hT.2⟩, hE.fr (e 10 (by omega)) (fun a k a1 a2 _ => by rw [zup_ne (by omega)]) (fun k _ => by rw [zup_ne (by omega)]), hI.fr (e 12 (by omega)) (fun a a1 a2 => zup_ne (by omega)), hB.fr (e 19 (by omega)) (fun a a1 a2 => zup_ne (by omega)), hP.fr (e 23 (by omega)) (zup_ne (by omega))⟩
theorem mAbs_0 {m v : Int} {S : CS} (hA : mAbs ty h m S) : mAbs ty (zup h m 0 v) m S := mAbs_up ⟨by decide, by decide, by decide, by decide, by decide⟩ hA

set_option maxHeartbeats 4000000 in
set_option maxRecDepth 100000 in
theorem c_m_in {a lo hi : Int} (ha : i64 a ∧ i64 lo ∧ i64 hi) (hq : Q (some (iV (zb (lo ≤ a ∧ a ≤ hi)))) ty sz h) : zXM D mX7_in d 0 0 [lV a, lV lo, lV hi] ty sz h Q := by
  refine x_lload_n (pc := 0) dX7_in_0 rfl ?_
  refine x_lload_n (pc := 1) dX7_in_1 rfl ?_
  refine x_lcmp_lt (pc := 2) 17 dX7_in_2 dX7_in_3 rfl (fun c_2 => ?_) (fun c_2 => ?_)
  · (try simp (disch := omega) only [zb_e0, zb_n0, w32_id, w64_id, ne_eq, Classical.not_not] at c_2)
    refine x_iconst (pc := 17) dX7_in_17 ?_
    refine x_retv (pc := 18) ⟨dX7_in_18, Or.inr ⟨rfl, (by decide)⟩⟩ ?_
    first
    | (rw [zb_t (p := lo ≤ a ∧ a ≤ hi) (by omega)] at hq
       exact hq)
    | (rw [zb_f (p := lo ≤ a ∧ a ≤ hi) (by omega)] at hq
       exact hq)
  · (try simp (disch := omega) only [zb_e0, zb_n0, w32_id, w64_id, ne_eq, Classical.not_not] at c_2)
    refine x_lload_n (pc := 6) dX7_in_6 rfl ?_
    refine x_lload (pc := 7) dX7_in_7 rfl ?_
    refine x_lcmp_gt (pc := 9) 17 dX7_in_9 dX7_in_10 rfl (fun c_9 => ?_) (fun c_9 => ?_)
    · (try simp (disch := omega) only [zb_e0, zb_n0, w32_id, w64_id, ne_eq, Classical.not_not] at c_9)
      refine x_iconst (pc := 17) dX7_in_17 ?_
      refine x_retv (pc := 18) ⟨dX7_in_18, Or.inr ⟨rfl, (by decide)⟩⟩ ?_
      first
      | (rw [zb_t (p := lo ≤ a ∧ a ≤ hi) (by omega)] at hq
         exact hq)
      | (rw [zb_f (p := lo ≤ a ∧ a ≤ hi) (by omega)] at hq
         exact hq)
    · (try simp (disch := omega) only [zb_e0, zb_n0, w32_id, w64_id, ne_eq, Classical.not_not] at c_9)
      refine x_iconst (pc := 13) dX7_in_13 ?_
      refine x_goto (pc := 14) 18 dX7_in_14 rfl ?_
      refine x_retv (pc := 18) ⟨dX7_in_18, Or.inr ⟨rfl, (by decide)⟩⟩ ?_
      first
      | (rw [zb_t (p := lo ≤ a ∧ a ≤ hi) (by omega)] at hq
         exact hq)
      | (rw [zb_f (p := lo ≤ a ∧ a ≤ hi) (by omega)] at hq
         exact hq)

set_option maxHeartbeats 4000000 in
set_option maxRecDepth 100000 in
theorem C_m_at {i : Int} {m : Int} {S : CS} (hA : mAbs ty h m S) (hi : i32 i) (hq : ∀ h', FrM m h h' → mAbs ty h' m (S) → Q (some (iV (S_at S i))) ty sz h') : zXM D mX7_at d 0 0 [rV m, iV i] ty sz h Q := by
  have hA0 := hA
  obtain ⟨hM, hT, hE, hI, hB, hP⟩ := hA
  have hM0 := hM
  obtain ⟨m9, m0, a1, a2, a3, a4, a5, a6, a7, a8, a9, a10, a11, a12, a13, a14, a15, a16, a17, a18, a19, a20, a21⟩ := hM
  have hE1 := hE.1
  have hE2 := hE.2.1
  have hI1 := hI.1
  have hI2 := hI.2.1
  have hB1 := hB.1
  have hB2 := hB.2.1
  have hP1 := hP.1
  have hP2 := hP.2.1
  have z10 : zup h m 0 0 m 10 = (cE S).length := by rw [zup_app, if_neg (by omega)]; exact hE1
  have z12 : zup h m 0 0 m 12 = (cI S).length := by rw [zup_app, if_neg (by omega)]; exact hI1
  have z19 : zup h m 0 0 m 19 = (cB S).length := by rw [zup_app, if_neg (by omega)]; exact hB1
  have z23 : zup h m 0 0 m 23 = (cP S).length := by rw [zup_app, if_neg (by omega)]; exact hP1
  have hA1 : mAbs ty (zup h m 0 0) m S := mAbs_0 hA0
  have hF1 : FrM m h (zup h m 0 0) := FrM.up h ⟨by omega, by omega⟩
  refine x_aload_n (pc := 0) dX7_at_0 rfl ?_
  refine x_iconst (pc := 1) dX7_at_1 ?_
  refine y_putI 0 (pc := 2) dX7_at_2 f_RX7_75 (by assumption) rfl (by rfl) (by omega) rfl ?_
  refine x_iload_n (pc := 5) dX7_at_5 rfl ?_
  refine x_if_lt (pc := 6) 26 dX7_at_6 rfl (fun c_6 => ?_) (fun c_6 => ?_)
  · (try simp (disch := omega) only [zb_e0, zb_n0, w32_id, w64_id, ne_eq, Classical.not_not] at c_6)
    --
    rw [S_at_out (S := S) (i := i) (by omega)] at hq
    refine x_iconst (pc := 26) dX7_at_26 ?_
    refine x_retv (pc := 27) ⟨dX7_at_27, Or.inl rfl⟩ ?_
    exact hq _ hF1 hA1
  · (try simp (disch := omega) only [zb_e0, zb_n0, w32_id, w64_id, ne_eq, Classical.not_not] at c_6)
    refine x_iload_n (pc := 9) dX7_at_9 rfl ?_
    refine x_aload_n (pc := 10) dX7_at_10 rfl ?_
    refine y_getI 23 (pc := 11) dX7_at_11 f_RX7_243 (by assumption) rfl (fun b_11 => ?_)
    rw [z23]
    refine x_icmp_ge (pc := 14) 26 dX7_at_14 rfl (fun c_14 => ?_) (fun c_14 => ?_)
    · (try simp (disch := omega) only [zb_e0, zb_n0, w32_id, w64_id, ne_eq, Classical.not_not] at c_14)
      --
      rw [S_at_out (S := S) (i := i) (by omega)] at hq
      refine x_iconst (pc := 26) dX7_at_26 ?_
      refine x_retv (pc := 27) ⟨dX7_at_27, Or.inl rfl⟩ ?_
      exact hq _ hF1 hA1
    · (try simp (disch := omega) only [zb_e0, zb_n0, w32_id, w64_id, ne_eq, Classical.not_not] at c_14)
      refine x_aload_n (pc := 17) dX7_at_17 rfl ?_
      refine x_getF (pc := 18) dX7_at_18 f_RX7_57 (by assumption) (by rfl) ?_
      refine x_iload_n (pc := 21) dX7_at_21 rfl ?_
      refine x_iald (pc := 22) dX7_at_22 (by assumption) (by omega) (by omega) (fun b_22 => ?_)
      rw [show zup h m 0 0 (m + 16) i = S_at S i by
        rw [zup_ne (by omega)]
        have hl : i.toNat < (cP S).length := by omega
        have := hP.2.2 i.toNat (cP S)[i.toNat] (List.getElem?_eq_getElem hl)
        unfold S_at
        rw [if_pos (by omega), List.getElem?_eq_getElem hl, Option.getD_some, ← this]
        congr 1
        omega]
      refine x_goto (pc := 23) 27 dX7_at_23 rfl ?_
      refine x_retv (pc := 27) ⟨dX7_at_27, Or.inl rfl⟩ ?_
      exact hq _ hF1 hA1

set_option maxHeartbeats 4000000 in
set_option maxRecDepth 100000 in
theorem C_m_thrown {m : Int} (hM : isMT ty m) (hq : i32 (h m 0) → Q (some (iV (h m 0))) ty sz h) : zXM D mX7_thrown d 0 0 [rV m] ty sz h Q := by
  have hM0 := hM
  obtain ⟨m9, m0, a1, a2, a3, a4, a5, a6, a7, a8, a9, a10, a11, a12, a13, a14, a15, a16, a17, a18, a19, a20, a21⟩ := hM
  refine x_aload_n (pc := 0) dX7_thrown_0 rfl ?_
  refine y_getI 0 (pc := 1) dX7_thrown_1 f_RX7_75 (by assumption) rfl (fun b_1 => ?_)
  refine x_retv (pc := 4) ⟨dX7_thrown_4, Or.inl rfl⟩ ?_
  exact hq b_1

set_option maxHeartbeats 4000000 in
set_option maxRecDepth 100000 in
theorem C_m_sign {c : Int} {m : Int} {S : CS} (hA : mAbs ty h m S) (hc : i32 c) (hq : ∀ h', FrM m h h' → mAbs ty h' m (S_sign S c) → Q (none) ty sz h') : zXM D mX7_sign d 0 0 [rV m, iV c] ty sz h Q := by
  have hA0 := hA
  obtain ⟨hM, hT, hE, hI, hB, hP⟩ := hA
  have hM0 := hM
  obtain ⟨m9, m0, a1, a2, a3, a4, a5, a6, a7, a8, a9, a10, a11, a12, a13, a14, a15, a16, a17, a18, a19, a20, a21⟩ := hM
  have hE1 := hE.1
  have hE2 := hE.2.1
  have hI1 := hI.1
  have hI2 := hI.2.1
  have hB1 := hB.1
  have hB2 := hB.2.1
  have hP1 := hP.1
  have hP2 := hP.2.1
  have z10 : zup h m 0 0 m 10 = (cE S).length := by rw [zup_app, if_neg (by omega)]; exact hE1
  have z12 : zup h m 0 0 m 12 = (cI S).length := by rw [zup_app, if_neg (by omega)]; exact hI1
  have z19 : zup h m 0 0 m 19 = (cB S).length := by rw [zup_app, if_neg (by omega)]; exact hB1
  have z23 : zup h m 0 0 m 23 = (cP S).length := by rw [zup_app, if_neg (by omega)]; exact hP1
  have hA1 : mAbs ty (zup h m 0 0) m S := mAbs_0 hA0
  have hF1 : FrM m h (zup h m 0 0) := FrM.up h ⟨by omega, by omega⟩
  have z2 : zup h m 0 0 m 2 = (cT S).length := by rw [zup_app, if_neg (by omega)]; exact hT.1.1
  have hT1 := hT.2.1
  refine x_aload_n (pc := 0) dX7_sign_0 rfl ?_
  refine x_iconst (pc := 1) dX7_sign_1 ?_
  refine y_putI 0 (pc := 2) dX7_sign_2 f_RX7_75 (by assumption) rfl (by rfl) (by omega) rfl ?_
  refine x_aload_n (pc := 5) dX7_sign_5 rfl ?_
  refine y_getI 2 (pc := 6) dX7_sign_6 f_RX7_79 (by assumption) rfl (fun b_6 => ?_)
  rw [z2]
  refine x_sipush (pc := 9) dX7_sign_9 (by decide) ?_
  refine x_icmp_ge (pc := 12) 45 dX7_sign_12 rfl (fun c_12 => ?_) (fun c_12 => ?_)
  · (try simp (disch := omega) only [zb_e0, zb_n0, w32_id, w64_id, ne_eq, Classical.not_not] at c_12)
    refine x_ret (pc := 45) ⟨dX7_sign_45, rfl⟩ ?_
    first
    | (have hs : S_sign S c = S := by
         unfold S_sign
         by_cases hc2 : 0 ≤ c ∧ c ≤ 126
         · rw [if_pos hc2, if_neg (by omega)]
         · rw [if_neg hc2]
       rw [hs] at hq
       exact hq _ hF1 hA1)
    | (have hs : S_sign S c = (cT S ++ [c], S.2) := by
         unfold S_sign
         rw [if_pos (by omega), if_pos (by omega)]
       rw [hs] at hq
       obtain ⟨-, -, hE9, hI9, hB9, hP9⟩ := hA1
       have e : ∀ a, a ≠ m → a ≠ m + 1 → zup (zup (zup h m 0 0) (m + 1) ((cT S).length : Int) c) m 2 ((cT S).length + 1) a = zup h m 0 0 a := fun a a1 a2 => by rw [zup_ne a1, zup_ne a2]
       have em : ∀ k, k ≠ 2 → zup (zup (zup h m 0 0) (m + 1) ((cT S).length : Int) c) m 2 ((cT S).length + 1) m k = zup h m 0 0 m k := fun k hk => by rw [zup_app, if_neg (by omega), zup_ne (by omega)]
       refine hq _ (hF1.t (fun a ha => e a (by omega) (by omega))) ⟨hM0, ⟨⟨?_, fun i q hi => ?_⟩, ?_⟩, (show mE _ m (cE S) from hE9.fr (em 10 (by decide)) (fun a k a1 a2 _ => by rw [e a (by omega) (by omega)]) (fun k _ => by rw [e _ (by omega) (by omega)])), (show mI _ m (cI S) from hI9.fr (em 12 (by decide)) (fun a a1 a2 => e a (by omega) (by omega))), (show mB _ m (cB S) from hB9.fr (em 19 (by decide)) (fun a a1 a2 => e a (by omega) (by omega))), (show mP _ m (cP S) from hP9.fr (em 23 (by decide)) (e _ (by omega) (by omega)))⟩
       · rw [zup_app, if_pos ⟨rfl, rfl⟩]
         show _ = ((cT S ++ [c]).length : Int)
         simp
       · replace hi : (cT S ++ [c])[i]? = some q := hi
         rw [zup_ne (by omega), zup_app]
         by_cases hil : i < (cT S).length
         · rw [List.getElem?_append_left hil] at hi
           rw [if_neg (by omega), zup_ne (by omega)]
           exact hT.1.2 i q hi
         · rw [List.getElem?_append_right (by omega)] at hi
           have h0 : i - (cT S).length = 0 := by
             have := (List.getElem?_eq_some_iff.mp hi).1
             simp at this
             omega
           rw [h0] at hi
           cases hi
           rw [if_pos ⟨rfl, by omega⟩]
       · refine ⟨by show (cT S ++ [c]).length ≤ 1500; simp; omega, fun u hu => ?_⟩
         replace hu : u ∈ cT S ++ [c] := hu
         rcases List.mem_append.mp hu with z | z
         · exact hT.2.2 u z
         · rw [List.mem_singleton.mp z]; omega)
  · (try simp (disch := omega) only [zb_e0, zb_n0, w32_id, w64_id, ne_eq, Classical.not_not] at c_12)
    refine x_iload_n (pc := 15) dX7_sign_15 rfl ?_
    refine x_if_lt (pc := 16) 45 dX7_sign_16 rfl (fun c_16 => ?_) (fun c_16 => ?_)
    · (try simp (disch := omega) only [zb_e0, zb_n0, w32_id, w64_id, ne_eq, Classical.not_not] at c_16)
      refine x_ret (pc := 45) ⟨dX7_sign_45, rfl⟩ ?_
      first
      | (have hs : S_sign S c = S := by
           unfold S_sign
           by_cases hc2 : 0 ≤ c ∧ c ≤ 126
           · rw [if_pos hc2, if_neg (by omega)]
           · rw [if_neg hc2]
         rw [hs] at hq
         exact hq _ hF1 hA1)
      | (have hs : S_sign S c = (cT S ++ [c], S.2) := by
           unfold S_sign
           rw [if_pos (by omega), if_pos (by omega)]
         rw [hs] at hq
         obtain ⟨-, -, hE9, hI9, hB9, hP9⟩ := hA1
         have e : ∀ a, a ≠ m → a ≠ m + 1 → zup (zup (zup h m 0 0) (m + 1) ((cT S).length : Int) c) m 2 ((cT S).length + 1) a = zup h m 0 0 a := fun a a1 a2 => by rw [zup_ne a1, zup_ne a2]
         have em : ∀ k, k ≠ 2 → zup (zup (zup h m 0 0) (m + 1) ((cT S).length : Int) c) m 2 ((cT S).length + 1) m k = zup h m 0 0 m k := fun k hk => by rw [zup_app, if_neg (by omega), zup_ne (by omega)]
         refine hq _ (hF1.t (fun a ha => e a (by omega) (by omega))) ⟨hM0, ⟨⟨?_, fun i q hi => ?_⟩, ?_⟩, (show mE _ m (cE S) from hE9.fr (em 10 (by decide)) (fun a k a1 a2 _ => by rw [e a (by omega) (by omega)]) (fun k _ => by rw [e _ (by omega) (by omega)])), (show mI _ m (cI S) from hI9.fr (em 12 (by decide)) (fun a a1 a2 => e a (by omega) (by omega))), (show mB _ m (cB S) from hB9.fr (em 19 (by decide)) (fun a a1 a2 => e a (by omega) (by omega))), (show mP _ m (cP S) from hP9.fr (em 23 (by decide)) (e _ (by omega) (by omega)))⟩
         · rw [zup_app, if_pos ⟨rfl, rfl⟩]
           show _ = ((cT S ++ [c]).length : Int)
           simp
         · replace hi : (cT S ++ [c])[i]? = some q := hi
           rw [zup_ne (by omega), zup_app]
           by_cases hil : i < (cT S).length
           · rw [List.getElem?_append_left hil] at hi
             rw [if_neg (by omega), zup_ne (by omega)]
             exact hT.1.2 i q hi
           · rw [List.getElem?_append_right (by omega)] at hi
             have h0 : i - (cT S).length = 0 := by
               have := (List.getElem?_eq_some_iff.mp hi).1
               simp at this
               omega
             rw [h0] at hi
             cases hi
             rw [if_pos ⟨rfl, by omega⟩]
         · refine ⟨by show (cT S ++ [c]).length ≤ 1500; simp; omega, fun u hu => ?_⟩
           replace hu : u ∈ cT S ++ [c] := hu
           rcases List.mem_append.mp hu with z | z
           · exact hT.2.2 u z
           · rw [List.mem_singleton.mp z]; omega)
    · (try simp (disch := omega) only [zb_e0, zb_n0, w32_id, w64_id, ne_eq, Classical.not_not] at c_16)
      refine x_iload_n (pc := 19) dX7_sign_19 rfl ?_
      refine x_bipush (pc := 20) dX7_sign_20 (by decide) ?_
      refine x_icmp_ge (pc := 22) 45 dX7_sign_22 rfl (fun c_22 => ?_) (fun c_22 => ?_)
      · (try simp (disch := omega) only [zb_e0, zb_n0, w32_id, w64_id, ne_eq, Classical.not_not] at c_22)
        refine x_ret (pc := 45) ⟨dX7_sign_45, rfl⟩ ?_
        first
        | (have hs : S_sign S c = S := by
             unfold S_sign
             by_cases hc2 : 0 ≤ c ∧ c ≤ 126
             · rw [if_pos hc2, if_neg (by omega)]
             · rw [if_neg hc2]
           rw [hs] at hq
           exact hq _ hF1 hA1)
        | (have hs : S_sign S c = (cT S ++ [c], S.2) := by
             unfold S_sign
             rw [if_pos (by omega), if_pos (by omega)]
           rw [hs] at hq
           obtain ⟨-, -, hE9, hI9, hB9, hP9⟩ := hA1
           have e : ∀ a, a ≠ m → a ≠ m + 1 → zup (zup (zup h m 0 0) (m + 1) ((cT S).length : Int) c) m 2 ((cT S).length + 1) a = zup h m 0 0 a := fun a a1 a2 => by rw [zup_ne a1, zup_ne a2]
           have em : ∀ k, k ≠ 2 → zup (zup (zup h m 0 0) (m + 1) ((cT S).length : Int) c) m 2 ((cT S).length + 1) m k = zup h m 0 0 m k := fun k hk => by rw [zup_app, if_neg (by omega), zup_ne (by omega)]
           refine hq _ (hF1.t (fun a ha => e a (by omega) (by omega))) ⟨hM0, ⟨⟨?_, fun i q hi => ?_⟩, ?_⟩, (show mE _ m (cE S) from hE9.fr (em 10 (by decide)) (fun a k a1 a2 _ => by rw [e a (by omega) (by omega)]) (fun k _ => by rw [e _ (by omega) (by omega)])), (show mI _ m (cI S) from hI9.fr (em 12 (by decide)) (fun a a1 a2 => e a (by omega) (by omega))), (show mB _ m (cB S) from hB9.fr (em 19 (by decide)) (fun a a1 a2 => e a (by omega) (by omega))), (show mP _ m (cP S) from hP9.fr (em 23 (by decide)) (e _ (by omega) (by omega)))⟩
           · rw [zup_app, if_pos ⟨rfl, rfl⟩]
             show _ = ((cT S ++ [c]).length : Int)
             simp
           · replace hi : (cT S ++ [c])[i]? = some q := hi
             rw [zup_ne (by omega), zup_app]
             by_cases hil : i < (cT S).length
             · rw [List.getElem?_append_left hil] at hi
               rw [if_neg (by omega), zup_ne (by omega)]
               exact hT.1.2 i q hi
             · rw [List.getElem?_append_right (by omega)] at hi
               have h0 : i - (cT S).length = 0 := by
                 have := (List.getElem?_eq_some_iff.mp hi).1
                 simp at this
                 omega
               rw [h0] at hi
               cases hi
               rw [if_pos ⟨rfl, by omega⟩]
           · refine ⟨by show (cT S ++ [c]).length ≤ 1500; simp; omega, fun u hu => ?_⟩
             replace hu : u ∈ cT S ++ [c] := hu
             rcases List.mem_append.mp hu with z | z
             · exact hT.2.2 u z
             · rw [List.mem_singleton.mp z]; omega)
      · (try simp (disch := omega) only [zb_e0, zb_n0, w32_id, w64_id, ne_eq, Classical.not_not] at c_22)
        refine x_aload_n (pc := 25) dX7_sign_25 rfl ?_
        refine x_getF (pc := 26) dX7_sign_26 f_RX7_7 (by assumption) (by rfl) ?_
        refine x_aload_n (pc := 29) dX7_sign_29 rfl ?_
        refine y_getI 2 (pc := 30) dX7_sign_30 f_RX7_79 (by assumption) rfl (fun b_30 => ?_)
        rw [z2]
        refine x_iload_n (pc := 33) dX7_sign_33 rfl ?_
        refine x_iast (pc := 34) dX7_sign_34 (by assumption) (by omega) (by omega) (by rfl) (by omega) ?_
        refine x_aload_n (pc := 35) dX7_sign_35 rfl ?_
        refine x_dup (pc := 36) dX7_sign_36 rfl ?_
        refine y_getI 2 (pc := 37) dX7_sign_37 f_RX7_79 (by assumption) rfl (fun b_37 => ?_)
        rw [show zup (zup h m 0 0) (m + 1) ((cT S).length : Int) c m 2 = (cT S).length by rw [zup_ne (by omega)]; exact z2]
        refine x_iconst (pc := 40) dX7_sign_40 ?_
        refine x_iadd (pc := 41) dX7_sign_41 ?_
        refine y_putI 2 (pc := 42) dX7_sign_42 f_RX7_79 (by assumption) rfl (by rfl) (by omega) rfl ?_
        refine x_ret (pc := 45) ⟨dX7_sign_45, rfl⟩ ?_
        first
        | (have hs : S_sign S c = S := by
             unfold S_sign
             by_cases hc2 : 0 ≤ c ∧ c ≤ 126
             · rw [if_pos hc2, if_neg (by omega)]
             · rw [if_neg hc2]
           rw [hs] at hq
           exact hq _ hF1 hA1)
        | (have hs : S_sign S c = (cT S ++ [c], S.2) := by
             unfold S_sign
             rw [if_pos (by omega), if_pos (by omega)]
           rw [hs] at hq
           obtain ⟨-, -, hE9, hI9, hB9, hP9⟩ := hA1
           have e : ∀ a, a ≠ m → a ≠ m + 1 → zup (zup (zup h m 0 0) (m + 1) ((cT S).length : Int) c) m 2 ((cT S).length + 1) a = zup h m 0 0 a := fun a a1 a2 => by rw [zup_ne a1, zup_ne a2]
           have em : ∀ k, k ≠ 2 → zup (zup (zup h m 0 0) (m + 1) ((cT S).length : Int) c) m 2 ((cT S).length + 1) m k = zup h m 0 0 m k := fun k hk => by rw [zup_app, if_neg (by omega), zup_ne (by omega)]
           refine hq _ (hF1.t (fun a ha => e a (by omega) (by omega))) ⟨hM0, ⟨⟨?_, fun i q hi => ?_⟩, ?_⟩, (show mE _ m (cE S) from hE9.fr (em 10 (by decide)) (fun a k a1 a2 _ => by rw [e a (by omega) (by omega)]) (fun k _ => by rw [e _ (by omega) (by omega)])), (show mI _ m (cI S) from hI9.fr (em 12 (by decide)) (fun a a1 a2 => e a (by omega) (by omega))), (show mB _ m (cB S) from hB9.fr (em 19 (by decide)) (fun a a1 a2 => e a (by omega) (by omega))), (show mP _ m (cP S) from hP9.fr (em 23 (by decide)) (e _ (by omega) (by omega)))⟩
           · rw [zup_app, if_pos ⟨rfl, rfl⟩]
             show _ = ((cT S ++ [c]).length : Int)
             simp
           · replace hi : (cT S ++ [c])[i]? = some q := hi
             rw [zup_ne (by omega), zup_app]
             by_cases hil : i < (cT S).length
             · rw [List.getElem?_append_left hil] at hi
               rw [if_neg (by omega), zup_ne (by omega)]
               exact hT.1.2 i q hi
             · rw [List.getElem?_append_right (by omega)] at hi
               have h0 : i - (cT S).length = 0 := by
                 have := (List.getElem?_eq_some_iff.mp hi).1
                 simp at this
                 omega
               rw [h0] at hi
               cases hi
               rw [if_pos ⟨rfl, by omega⟩]
           · refine ⟨by show (cT S ++ [c]).length ≤ 1500; simp; omega, fun u hu => ?_⟩
             replace hu : u ∈ cT S ++ [c] := hu
             rcases List.mem_append.mp hu with z | z
             · exact hT.2.2 u z
             · rw [List.mem_singleton.mp z]; omega)

theorem S_explain_out {S : CS} {i q : Int} (hn : ¬ ((0 ≤ i ∧ i < (cB S).length) ∧ 0 ≤ q ∧ q ≤ 2)) : S_explain S i q = -1 := by
  unfold S_explain
  by_cases h0 : 0 ≤ i
  · rw [if_pos h0]
    by_cases h1 : i < (cB S).length
    · rw [List.getElem?_eq_getElem (by omega)]
      simp only
      rw [if_neg (by omega), if_neg (by omega), if_neg (by omega)]
    · rw [List.getElem?_eq_none (by omega)]
  · rw [if_neg h0]
theorem S_explain_in {S : CS} {i q : Int} {t : PT} (h0 : 0 ≤ i) (ht : (cB S)[i.toNat]? = some t) : S_explain S i q = if q = 0 then t.1 else if q = 1 then t.2.1 else if q = 2 then t.2.2 else -1 := by
  unfold S_explain
  rw [if_pos h0, ht]

set_option maxHeartbeats 4000000 in
set_option maxRecDepth 100000 in
theorem C_m_explain {i q : Int} {m : Int} {S : CS} (hA : mAbs ty h m S) (hi : i32 i ∧ i32 q) (hb : ∀ t ∈ cB S, i32 t.2.1) (hq : ∀ h', FrM m h h' → mAbs ty h' m (S) → Q (some (iV (S_explain S i q))) ty sz h') : zXM D mX7_explain d 0 0 [rV m, iV i, iV q] ty sz h Q := by
  have hA0 := hA
  obtain ⟨hM, hT, hE, hI, hB, hP⟩ := hA
  have hM0 := hM
  obtain ⟨m9, m0, a1, a2, a3, a4, a5, a6, a7, a8, a9, a10, a11, a12, a13, a14, a15, a16, a17, a18, a19, a20, a21⟩ := hM
  have hE1 := hE.1
  have hE2 := hE.2.1
  have hI1 := hI.1
  have hI2 := hI.2.1
  have hB1 := hB.1
  have hB2 := hB.2.1
  have hP1 := hP.1
  have hP2 := hP.2.1
  have z10 : zup h m 0 0 m 10 = (cE S).length := by rw [zup_app, if_neg (by omega)]; exact hE1
  have z12 : zup h m 0 0 m 12 = (cI S).length := by rw [zup_app, if_neg (by omega)]; exact hI1
  have z19 : zup h m 0 0 m 19 = (cB S).length := by rw [zup_app, if_neg (by omega)]; exact hB1
  have z23 : zup h m 0 0 m 23 = (cP S).length := by rw [zup_app, if_neg (by omega)]; exact hP1
  have hA1 : mAbs ty (zup h m 0 0) m S := mAbs_0 hA0
  have hF1 : FrM m h (zup h m 0 0) := FrM.up h ⟨by omega, by omega⟩
  refine x_aload_n (pc := 0) dX7_explain_0 rfl ?_
  refine x_iconst (pc := 1) dX7_explain_1 ?_
  refine y_putI 0 (pc := 2) dX7_explain_2 f_RX7_75 (by assumption) rfl (by rfl) (by omega) rfl ?_
  refine x_iload_n (pc := 5) dX7_explain_5 rfl ?_
  refine x_if_lt (pc := 6) 26 dX7_explain_6 rfl (fun c_6 => ?_) (fun c_6 => ?_)
  · (try simp (disch := omega) only [zb_e0, zb_n0, w32_id, w64_id, ne_eq, Classical.not_not] at c_6)
    refine x_iconst (pc := 26) dX7_explain_26 ?_
    refine x_retv (pc := 27) ⟨dX7_explain_27, Or.inl rfl⟩ ?_
    rw [S_explain_out (by omega)] at hq
    exact hq _ hF1 hA1
  · (try simp (disch := omega) only [zb_e0, zb_n0, w32_id, w64_id, ne_eq, Classical.not_not] at c_6)
    refine x_iload_n (pc := 9) dX7_explain_9 rfl ?_
    refine x_aload_n (pc := 10) dX7_explain_10 rfl ?_
    refine y_getI 19 (pc := 11) dX7_explain_11 f_RX7_172 (by assumption) rfl (fun b_11 => ?_)
    rw [z19]
    refine x_icmp_ge (pc := 14) 26 dX7_explain_14 rfl (fun c_14 => ?_) (fun c_14 => ?_)
    · (try simp (disch := omega) only [zb_e0, zb_n0, w32_id, w64_id, ne_eq, Classical.not_not] at c_14)
      refine x_iconst (pc := 26) dX7_explain_26 ?_
      refine x_retv (pc := 27) ⟨dX7_explain_27, Or.inl rfl⟩ ?_
      rw [S_explain_out (by omega)] at hq
      exact hq _ hF1 hA1
    · (try simp (disch := omega) only [zb_e0, zb_n0, w32_id, w64_id, ne_eq, Classical.not_not] at c_14)
      refine x_iload_n (pc := 17) dX7_explain_17 rfl ?_
      refine x_if_lt (pc := 18) 26 dX7_explain_18 rfl (fun c_18 => ?_) (fun c_18 => ?_)
      · (try simp (disch := omega) only [zb_e0, zb_n0, w32_id, w64_id, ne_eq, Classical.not_not] at c_18)
        refine x_iconst (pc := 26) dX7_explain_26 ?_
        refine x_retv (pc := 27) ⟨dX7_explain_27, Or.inl rfl⟩ ?_
        rw [S_explain_out (by omega)] at hq
        exact hq _ hF1 hA1
      · (try simp (disch := omega) only [zb_e0, zb_n0, w32_id, w64_id, ne_eq, Classical.not_not] at c_18)
        refine x_iload_n (pc := 21) dX7_explain_21 rfl ?_
        refine x_iconst (pc := 22) dX7_explain_22 ?_
        refine x_icmp_le (pc := 23) 28 dX7_explain_23 rfl (fun c_23 => ?_) (fun c_23 => ?_)
        · (try simp (disch := omega) only [zb_e0, zb_n0, w32_id, w64_id, ne_eq, Classical.not_not] at c_23)
          have hl : i.toNat < (cB S).length := by omega
          have hg := hB.2.2 _ _ (List.getElem?_eq_getElem hl)
          have hti := hb _ (List.getElem_mem hl)
          rw [show ((i.toNat : Nat) : Int) = i by omega] at hg
          have t1 : zup h m 0 0 (m + 13) i = ((cB S)[i.toNat]).1 := by rw [zup_ne (by omega)]; exact hg.1
          have t2 : zup h m 0 0 (m + 14) i = ((cB S)[i.toNat]).2.1 := by rw [zup_ne (by omega)]; exact hg.2.1
          have t3 : zup h m 0 0 (m + 15) i = ((cB S)[i.toNat]).2.2 := by rw [zup_ne (by omega)]; exact hg.2.2
          rw [S_explain_in (by omega) (List.getElem?_eq_getElem hl)] at hq
          refine x_iload_n (pc := 28) dX7_explain_28 rfl ?_
          refine x_if_ne (pc := 29) 41 dX7_explain_29 rfl (fun c_29 => ?_) (fun c_29 => ?_)
          · (try simp (disch := omega) only [zb_e0, zb_n0, w32_id, w64_id, ne_eq, Classical.not_not] at c_29)
            refine x_iload_n (pc := 41) dX7_explain_41 rfl ?_
            refine x_iconst (pc := 42) dX7_explain_42 ?_
            refine x_icmp_ne (pc := 43) 56 dX7_explain_43 rfl (fun c_43 => ?_) (fun c_43 => ?_)
            · (try simp (disch := omega) only [zb_e0, zb_n0, w32_id, w64_id, ne_eq, Classical.not_not] at c_43)
              refine x_aload_n (pc := 56) dX7_explain_56 rfl ?_
              refine x_getF (pc := 57) dX7_explain_57 f_RX7_54 (by assumption) (by rfl) ?_
              refine x_iload_n (pc := 60) dX7_explain_60 rfl ?_
              refine x_iald (pc := 61) dX7_explain_61 (by assumption) (by omega) (by omega) (fun b_61 => ?_)
              rw [t3]
              refine x_retv (pc := 62) ⟨dX7_explain_62, Or.inl rfl⟩ ?_
              first
              | (rw [if_pos (by omega)] at hq
                 exact hq _ hF1 hA1)
              | (rw [if_neg (by omega), if_pos (by omega)] at hq
                 exact hq _ hF1 hA1)
              | (rw [if_neg (by omega), if_neg (by omega), if_pos (by omega)] at hq
                 exact hq _ hF1 hA1)
            · (try simp (disch := omega) only [zb_e0, zb_n0, w32_id, w64_id, ne_eq, Classical.not_not] at c_43)
              refine x_aload_n (pc := 46) dX7_explain_46 rfl ?_
              refine x_getF (pc := 47) dX7_explain_47 f_RX7_50 (by assumption) (by rfl) ?_
              refine x_iload_n (pc := 50) dX7_explain_50 rfl ?_
              refine x_lald (pc := 51) dX7_explain_51 (by assumption) (by omega) (by omega) (fun b_51 => ?_)
              rw [t2]
              refine x_l2i (pc := 52) dX7_explain_52 ?_
              refine x_goto (pc := 53) 62 dX7_explain_53 rfl ?_
              refine x_retv (pc := 62) ⟨dX7_explain_62, Or.inl rfl⟩ ?_
              first
              | (rw [if_pos (by omega)] at hq
                 exact hq _ hF1 hA1)
              | (rw [if_neg (by omega), if_pos (by omega)] at hq
                 exact hq _ hF1 hA1)
              | (rw [if_neg (by omega), if_neg (by omega), if_pos (by omega)] at hq
                 exact hq _ hF1 hA1)
          · (try simp (disch := omega) only [zb_e0, zb_n0, w32_id, w64_id, ne_eq, Classical.not_not] at c_29)
            refine x_aload_n (pc := 32) dX7_explain_32 rfl ?_
            refine x_getF (pc := 33) dX7_explain_33 f_RX7_47 (by assumption) (by rfl) ?_
            refine x_iload_n (pc := 36) dX7_explain_36 rfl ?_
            refine x_iald (pc := 37) dX7_explain_37 (by assumption) (by omega) (by omega) (fun b_37 => ?_)
            rw [t1]
            refine x_goto (pc := 38) 62 dX7_explain_38 rfl ?_
            refine x_retv (pc := 62) ⟨dX7_explain_62, Or.inl rfl⟩ ?_
            first
            | (rw [if_pos (by omega)] at hq
               exact hq _ hF1 hA1)
            | (rw [if_neg (by omega), if_pos (by omega)] at hq
               exact hq _ hF1 hA1)
            | (rw [if_neg (by omega), if_neg (by omega), if_pos (by omega)] at hq
               exact hq _ hF1 hA1)
        · (try simp (disch := omega) only [zb_e0, zb_n0, w32_id, w64_id, ne_eq, Classical.not_not] at c_23)
          refine x_iconst (pc := 26) dX7_explain_26 ?_
          refine x_retv (pc := 27) ⟨dX7_explain_27, Or.inl rfl⟩ ?_
          rw [S_explain_out (by omega)] at hq
          exact hq _ hF1 hA1

theorem S_it_ex {S : CS} {i : Int} (h0 : 0 ≤ i) (h1 : i < (cI S).length) : ∃ it, S_it S i = some it := by
  unfold S_it
  rw [if_pos h0]
  exact ⟨_, List.getElem?_eq_getElem (by omega)⟩
set_option maxHeartbeats 4000000 in
set_option maxRecDepth 100000 in
theorem c_m_refusal {i zone day : Int} {m : Int} {S : CS} (hA : mAbs ty h m S) (hi : i32 i ∧ i32 zone ∧ i64 day) (hq : Q (some (iV (if S_it S i = none then -1000001 else S_refuse S zone day))) ty sz h) : zXM D mX7_refusal (d + 1) 0 0 [rV m, iV i, iV zone, lV day] ty sz h Q := by
  have hA0 := hA
  obtain ⟨hM, hT, hE, hI, hB, hP⟩ := hA
  have hM0 := hM
  obtain ⟨m9, m0, a1, a2, a3, a4, a5, a6, a7, a8, a9, a10, a11, a12, a13, a14, a15, a16, a17, a18, a19, a20, a21⟩ := hM
  have hE1 := hE.1
  have hE2 := hE.2.1
  have hI1 := hI.1
  have hI2 := hI.2.1
  have hB1 := hB.1
  have hB2 := hB.2.1
  have hP1 := hP.1
  have hP2 := hP.2.1
  have z10 : zup h m 0 0 m 10 = (cE S).length := by rw [zup_app, if_neg (by omega)]; exact hE1
  have z12 : zup h m 0 0 m 12 = (cI S).length := by rw [zup_app, if_neg (by omega)]; exact hI1
  have z19 : zup h m 0 0 m 19 = (cB S).length := by rw [zup_app, if_neg (by omega)]; exact hB1
  have z23 : zup h m 0 0 m 23 = (cP S).length := by rw [zup_app, if_neg (by omega)]; exact hP1
  have hA1 : mAbs ty (zup h m 0 0) m S := mAbs_0 hA0
  have hF1 : FrM m h (zup h m 0 0) := FrM.up h ⟨by omega, by omega⟩
  refine x_iload_n (pc := 0) dX7_refusal_0 rfl ?_
  refine x_if_lt (pc := 1) 12 dX7_refusal_1 rfl (fun c_1 => ?_) (fun c_1 => ?_)
  · (try simp (disch := omega) only [zb_e0, zb_n0, w32_id, w64_id, ne_eq, Classical.not_not] at c_1)
    refine x_ldc (pc := 12) dX7_refusal_12 (-1000001) tc_RX7_171 (by decide) ?_
    refine x_retv (pc := 14) ⟨dX7_refusal_14, Or.inl rfl⟩ ?_
    rw [if_pos (S_it_none (by omega))] at hq
    exact hq
  · (try simp (disch := omega) only [zb_e0, zb_n0, w32_id, w64_id, ne_eq, Classical.not_not] at c_1)
    refine x_iload_n (pc := 4) dX7_refusal_4 rfl ?_
    refine x_aload_n (pc := 5) dX7_refusal_5 rfl ?_
    refine y_getI 12 (pc := 6) dX7_refusal_6 f_RX7_168 (by assumption) rfl (fun b_6 => ?_)
    rw [hI1]
    refine x_icmp_lt (pc := 9) 15 dX7_refusal_9 rfl (fun c_9 => ?_) (fun c_9 => ?_)
    · (try simp (disch := omega) only [zb_e0, zb_n0, w32_id, w64_id, ne_eq, Classical.not_not] at c_9)
      refine x_iload_n (pc := 15) dX7_refusal_15 rfl ?_
      refine x_i2l (pc := 16) dX7_refusal_16 ?_
      rw [w32_id (by omega) (by omega)]
      refine x_lconst (pc := 17) dX7_refusal_17 0 (by decide) ?_
      refine x_ldc2 (pc := 18) dX7_refusal_18 (9) tc_RX7_159 (by decide) ?_
      refine x_callS3 (pc := 21) dX7_refusal_21 (k_RX7_161 _ rfl) tms_X7_in rfl rfl ?_
      refine c_m_in (by omega) ?_
      dsimp only [Option.toList, List.cons_append, List.nil_append]
      refine x_if_eq (pc := 24) 38 dX7_refusal_24 rfl (fun c_24 => ?_) (fun c_24 => ?_)
      · (try simp (disch := omega) only [zb_e0, zb_n0, w32_id, w64_id, ne_eq, Classical.not_not] at c_24)
        refine x_ldc (pc := 38) dX7_refusal_38 (-1000002) tc_RX7_167 (by decide) ?_
        refine x_retv (pc := 40) ⟨dX7_refusal_40, Or.inl rfl⟩ ?_
        rw [if_neg (by
          obtain ⟨it, h1⟩ := S_it_ex (S := S) (i := i) (by omega) (by omega)
          rw [h1]
          exact fun z => by cases z)] at hq
        unfold S_refuse at hq
        rw [if_pos (by omega)] at hq
        exact hq
      · (try simp (disch := omega) only [zb_e0, zb_n0, w32_id, w64_id, ne_eq, Classical.not_not] at c_24)
        refine x_lload_n (pc := 27) dX7_refusal_27 rfl ?_
        refine x_lconst (pc := 28) dX7_refusal_28 0 (by decide) ?_
        refine x_ldc2 (pc := 29) dX7_refusal_29 (9999999) tc_RX7_205 (by decide) ?_
        refine x_callS3 (pc := 32) dX7_refusal_32 (k_RX7_161 _ rfl) tms_X7_in rfl rfl ?_
        refine c_m_in (by omega) ?_
        dsimp only [Option.toList, List.cons_append, List.nil_append]
        refine x_if_ne (pc := 35) 41 dX7_refusal_35 rfl (fun c_35 => ?_) (fun c_35 => ?_)
        · (try simp (disch := omega) only [zb_e0, zb_n0, w32_id, w64_id, ne_eq, Classical.not_not] at c_35)
          refine x_aload_n (pc := 41) dX7_refusal_41 rfl ?_
          refine y_getI 10 (pc := 42) dX7_refusal_42 f_RX7_155 (by assumption) rfl (fun b_42 => ?_)
          rw [hE1]
          refine x_if_ne (pc := 45) 53 dX7_refusal_45 rfl (fun c_45 => ?_) (fun c_45 => ?_)
          · (try simp (disch := omega) only [zb_e0, zb_n0, w32_id, w64_id, ne_eq, Classical.not_not] at c_45)
            refine x_iconst (pc := 53) dX7_refusal_53 ?_
            refine x_retv (pc := 54) ⟨dX7_refusal_54, Or.inl rfl⟩ ?_
            rw [if_neg (by
              obtain ⟨it, h1⟩ := S_it_ex (S := S) (i := i) (by omega) (by omega)
              rw [h1]
              exact fun z => by cases z)] at hq
            unfold S_refuse at hq
            rw [if_neg (by omega)] at hq
            first
            | (rw [if_pos (List.length_eq_zero_iff.mp (by omega))] at hq
               exact hq)
            | (rw [if_neg (fun z => by rw [z] at c_45; simp at c_45)] at hq
               exact hq)
          · (try simp (disch := omega) only [zb_e0, zb_n0, w32_id, w64_id, ne_eq, Classical.not_not] at c_45)
            refine x_ldc (pc := 48) dX7_refusal_48 (-1000003) tc_RX7_207 (by decide) ?_
            refine x_goto (pc := 50) 54 dX7_refusal_50 rfl ?_
            refine x_retv (pc := 54) ⟨dX7_refusal_54, Or.inl rfl⟩ ?_
            rw [if_neg (by
              obtain ⟨it, h1⟩ := S_it_ex (S := S) (i := i) (by omega) (by omega)
              rw [h1]
              exact fun z => by cases z)] at hq
            unfold S_refuse at hq
            rw [if_neg (by omega)] at hq
            first
            | (rw [if_pos (List.length_eq_zero_iff.mp (by omega))] at hq
               exact hq)
            | (rw [if_neg (fun z => by rw [z] at c_45; simp at c_45)] at hq
               exact hq)
        · (try simp (disch := omega) only [zb_e0, zb_n0, w32_id, w64_id, ne_eq, Classical.not_not] at c_35)
          refine x_ldc (pc := 38) dX7_refusal_38 (-1000002) tc_RX7_167 (by decide) ?_
          refine x_retv (pc := 40) ⟨dX7_refusal_40, Or.inl rfl⟩ ?_
          rw [if_neg (by
            obtain ⟨it, h1⟩ := S_it_ex (S := S) (i := i) (by omega) (by omega)
            rw [h1]
            exact fun z => by cases z)] at hq
          unfold S_refuse at hq
          rw [if_pos (by omega)] at hq
          exact hq
    · (try simp (disch := omega) only [zb_e0, zb_n0, w32_id, w64_id, ne_eq, Classical.not_not] at c_9)
      refine x_ldc (pc := 12) dX7_refusal_12 (-1000001) tc_RX7_171 (by decide) ?_
      refine x_retv (pc := 14) ⟨dX7_refusal_14, Or.inl rfl⟩ ?_
      rw [if_pos (S_it_none (by omega))] at hq
      exact hq

set_option maxHeartbeats 4000000 in
set_option maxRecDepth 100000 in
theorem C_m_item {a b c e f : Int} {m : Int} {S : CS} (hA : mAbs ty h m S) (hi : i32 a ∧ i32 b ∧ i32 c ∧ i32 e ∧ i32 f) (hq : ∀ h', FrM m h h' → mAbs ty h' m ((S_item S a b c e f).1) → Q (some (iV (S_item S a b c e f).2)) ty sz h') : zXM D mX7_item (d + 1) 0 0 [rV m, iV a, iV b, iV c, iV e, iV f] ty sz h Q := by
  have hA0 := hA
  obtain ⟨hM, hT, hE, hI, hB, hP⟩ := hA
  have hM0 := hM
  obtain ⟨m9, m0, a1, a2, a3, a4, a5, a6, a7, a8, a9, a10, a11, a12, a13, a14, a15, a16, a17, a18, a19, a20, a21⟩ := hM
  have hE1 := hE.1
  have hE2 := hE.2.1
  have hI1 := hI.1
  have hI2 := hI.2.1
  have hB1 := hB.1
  have hB2 := hB.2.1
  have hP1 := hP.1
  have hP2 := hP.2.1
  have z10 : zup h m 0 0 m 10 = (cE S).length := by rw [zup_app, if_neg (by omega)]; exact hE1
  have z12 : zup h m 0 0 m 12 = (cI S).length := by rw [zup_app, if_neg (by omega)]; exact hI1
  have z19 : zup h m 0 0 m 19 = (cB S).length := by rw [zup_app, if_neg (by omega)]; exact hB1
  have z23 : zup h m 0 0 m 23 = (cP S).length := by rw [zup_app, if_neg (by omega)]; exact hP1
  have hA1 : mAbs ty (zup h m 0 0) m S := mAbs_0 hA0
  have hF1 : FrM m h (zup h m 0 0) := FrM.up h ⟨by omega, by omega⟩
  have hk0 : ∀ (g : zH) (q : Int), g m = zup h m 0 0 m → g m 12 = (cI S).length := fun g _ hg => by rw [hg]; exact z12
  generalize hN : ((cI S).length : Int) = N at *
  refine x_aload_n (pc := 0) dX7_item_0 rfl ?_
  refine x_iconst (pc := 1) dX7_item_1 ?_
  refine y_putI 0 (pc := 2) dX7_item_2 f_RX7_75 (by assumption) rfl (by rfl) (by omega) rfl ?_
  refine x_iload_n (pc := 5) dX7_item_5 rfl ?_
  refine x_i2l (pc := 6) dX7_item_6 ?_
  rw [w32_id (by omega) (by omega)]
  refine x_lconst (pc := 7) dX7_item_7 0 (by decide) ?_
  refine x_ldc2 (pc := 8) dX7_item_8 (9) tc_RX7_159 (by decide) ?_
  refine x_callS3 (pc := 11) dX7_item_11 (k_RX7_161 _ rfl) tms_X7_in rfl rfl ?_
  refine c_m_in (by omega) ?_
  dsimp only [Option.toList, List.cons_append, List.nil_append]
  refine x_if_eq (pc := 14) 67 dX7_item_14 rfl (fun c_14 => ?_) (fun c_14 => ?_)
  · (try simp (disch := omega) only [zb_e0, zb_n0, w32_id, w64_id, ne_eq, Classical.not_not] at c_14)
    refine x_ldc (pc := 67) dX7_item_67 (-1000002) tc_RX7_167 (by decide) ?_
    refine x_retv (pc := 69) ⟨dX7_item_69, Or.inl rfl⟩ ?_
    rw [S_item_out (S := S) (a := a) (b := b) (c := c) (e := e) (f := f) (by unfold itArg; omega)] at hq
    exact hq _ hF1 hA1
  · (try simp (disch := omega) only [zb_e0, zb_n0, w32_id, w64_id, ne_eq, Classical.not_not] at c_14)
    refine x_iload_n (pc := 17) dX7_item_17 rfl ?_
    refine x_i2l (pc := 18) dX7_item_18 ?_
    rw [w32_id (by omega) (by omega)]
    refine x_lconst (pc := 19) dX7_item_19 1 (by decide) ?_
    refine x_ldc2 (pc := 20) dX7_item_20 (100000) tc_RX7_165 (by decide) ?_
    refine x_callS3 (pc := 23) dX7_item_23 (k_RX7_161 _ rfl) tms_X7_in rfl rfl ?_
    refine c_m_in (by omega) ?_
    dsimp only [Option.toList, List.cons_append, List.nil_append]
    refine x_if_eq (pc := 26) 67 dX7_item_26 rfl (fun c_26 => ?_) (fun c_26 => ?_)
    · (try simp (disch := omega) only [zb_e0, zb_n0, w32_id, w64_id, ne_eq, Classical.not_not] at c_26)
      refine x_ldc (pc := 67) dX7_item_67 (-1000002) tc_RX7_167 (by decide) ?_
      refine x_retv (pc := 69) ⟨dX7_item_69, Or.inl rfl⟩ ?_
      rw [S_item_out (S := S) (a := a) (b := b) (c := c) (e := e) (f := f) (by unfold itArg; omega)] at hq
      exact hq _ hF1 hA1
    · (try simp (disch := omega) only [zb_e0, zb_n0, w32_id, w64_id, ne_eq, Classical.not_not] at c_26)
      refine x_iload_n (pc := 29) dX7_item_29 rfl ?_
      refine x_i2l (pc := 30) dX7_item_30 ?_
      rw [w32_id (by omega) (by omega)]
      refine x_lconst (pc := 31) dX7_item_31 1 (by decide) ?_
      refine x_ldc2 (pc := 32) dX7_item_32 (100000) tc_RX7_165 (by decide) ?_
      refine x_callS3 (pc := 35) dX7_item_35 (k_RX7_161 _ rfl) tms_X7_in rfl rfl ?_
      refine c_m_in (by omega) ?_
      dsimp only [Option.toList, List.cons_append, List.nil_append]
      refine x_if_eq (pc := 38) 67 dX7_item_38 rfl (fun c_38 => ?_) (fun c_38 => ?_)
      · (try simp (disch := omega) only [zb_e0, zb_n0, w32_id, w64_id, ne_eq, Classical.not_not] at c_38)
        refine x_ldc (pc := 67) dX7_item_67 (-1000002) tc_RX7_167 (by decide) ?_
        refine x_retv (pc := 69) ⟨dX7_item_69, Or.inl rfl⟩ ?_
        rw [S_item_out (S := S) (a := a) (b := b) (c := c) (e := e) (f := f) (by unfold itArg; omega)] at hq
        exact hq _ hF1 hA1
      · (try simp (disch := omega) only [zb_e0, zb_n0, w32_id, w64_id, ne_eq, Classical.not_not] at c_38)
        refine x_iload (pc := 41) dX7_item_41 rfl ?_
        refine x_i2l (pc := 43) dX7_item_43 ?_
        rw [w32_id (by omega) (by omega)]
        refine x_lconst (pc := 44) dX7_item_44 1 (by decide) ?_
        refine x_ldc2 (pc := 45) dX7_item_45 (100000) tc_RX7_165 (by decide) ?_
        refine x_callS3 (pc := 48) dX7_item_48 (k_RX7_161 _ rfl) tms_X7_in rfl rfl ?_
        refine c_m_in (by omega) ?_
        dsimp only [Option.toList, List.cons_append, List.nil_append]
        refine x_if_eq (pc := 51) 67 dX7_item_51 rfl (fun c_51 => ?_) (fun c_51 => ?_)
        · (try simp (disch := omega) only [zb_e0, zb_n0, w32_id, w64_id, ne_eq, Classical.not_not] at c_51)
          refine x_ldc (pc := 67) dX7_item_67 (-1000002) tc_RX7_167 (by decide) ?_
          refine x_retv (pc := 69) ⟨dX7_item_69, Or.inl rfl⟩ ?_
          rw [S_item_out (S := S) (a := a) (b := b) (c := c) (e := e) (f := f) (by unfold itArg; omega)] at hq
          exact hq _ hF1 hA1
        · (try simp (disch := omega) only [zb_e0, zb_n0, w32_id, w64_id, ne_eq, Classical.not_not] at c_51)
          refine x_iload (pc := 54) dX7_item_54 rfl ?_
          refine x_i2l (pc := 56) dX7_item_56 ?_
          rw [w32_id (by omega) (by omega)]
          refine x_lconst (pc := 57) dX7_item_57 1 (by decide) ?_
          refine x_ldc2 (pc := 58) dX7_item_58 (100000) tc_RX7_165 (by decide) ?_
          refine x_callS3 (pc := 61) dX7_item_61 (k_RX7_161 _ rfl) tms_X7_in rfl rfl ?_
          refine c_m_in (by omega) ?_
          dsimp only [Option.toList, List.cons_append, List.nil_append]
          refine x_if_ne (pc := 64) 70 dX7_item_64 rfl (fun c_64 => ?_) (fun c_64 => ?_)
          · (try simp (disch := omega) only [zb_e0, zb_n0, w32_id, w64_id, ne_eq, Classical.not_not] at c_64)
            refine x_aload_n (pc := 70) dX7_item_70 rfl ?_
            refine y_getI 12 (pc := 71) dX7_item_71 f_RX7_168 (by assumption) rfl (fun b_71 => ?_)
            rw [z12]
            refine x_bipush (pc := 74) dX7_item_74 (by decide) ?_
            refine x_icmp_ne (pc := 76) 82 dX7_item_76 rfl (fun c_76 => ?_) (fun c_76 => ?_)
            · (try simp (disch := omega) only [zb_e0, zb_n0, w32_id, w64_id, ne_eq, Classical.not_not] at c_76)
              refine x_aload_n (pc := 82) dX7_item_82 rfl ?_
              refine x_getF (pc := 83) dX7_item_83 f_RX7_28 (by assumption) (by rfl) ?_
              refine x_aload_n (pc := 86) dX7_item_86 rfl ?_
              refine y_getI 12 (pc := 87) dX7_item_87 f_RX7_168 (by assumption) rfl (fun b_87 => ?_)
              rw [z12]
              refine x_iload_n (pc := 90) dX7_item_90 rfl ?_
              refine x_iast (pc := 91) dX7_item_91 (by assumption) (by omega) (by omega) (by rfl) (by omega) ?_
              refine x_aload_n (pc := 92) dX7_item_92 rfl ?_
              refine x_getF (pc := 93) dX7_item_93 f_RX7_31 (by assumption) (by rfl) ?_
              refine x_aload_n (pc := 96) dX7_item_96 rfl ?_
              refine y_getI 12 (pc := 97) dX7_item_97 f_RX7_168 (by assumption) rfl (fun b_97 => ?_)
              rw [show zup (zup h m 0 0) (m + 7) N a m 12 = N by rw [zup_ne (by omega)]; exact z12]
              refine x_iload_n (pc := 100) dX7_item_100 rfl ?_
              refine x_iast (pc := 101) dX7_item_101 (by assumption) (by omega) (by omega) (by rfl) (by omega) ?_
              refine x_aload_n (pc := 102) dX7_item_102 rfl ?_
              refine x_getF (pc := 103) dX7_item_103 f_RX7_34 (by assumption) (by rfl) ?_
              refine x_aload_n (pc := 106) dX7_item_106 rfl ?_
              refine y_getI 12 (pc := 107) dX7_item_107 f_RX7_168 (by assumption) rfl (fun b_107 => ?_)
              rw [show zup (zup (zup h m 0 0) (m + 7) N a) (m + 8) N b m 12 = N by rw [zup_ne (by omega), zup_ne (by omega)]; exact z12]
              refine x_iload_n (pc := 110) dX7_item_110 rfl ?_
              refine x_iast (pc := 111) dX7_item_111 (by assumption) (by omega) (by omega) (by rfl) (by omega) ?_
              refine x_aload_n (pc := 112) dX7_item_112 rfl ?_
              refine x_getF (pc := 113) dX7_item_113 f_RX7_37 (by assumption) (by rfl) ?_
              refine x_aload_n (pc := 116) dX7_item_116 rfl ?_
              refine y_getI 12 (pc := 117) dX7_item_117 f_RX7_168 (by assumption) rfl (fun b_117 => ?_)
              rw [show zup (zup (zup (zup h m 0 0) (m + 7) N a) (m + 8) N b) (m + 9) N c m 12 = N by rw [zup_ne (by omega), zup_ne (by omega), zup_ne (by omega)]; exact z12]
              refine x_iload (pc := 120) dX7_item_120 rfl ?_
              refine x_iast (pc := 122) dX7_item_122 (by assumption) (by omega) (by omega) (by rfl) (by omega) ?_
              refine x_aload_n (pc := 123) dX7_item_123 rfl ?_
              refine x_getF (pc := 124) dX7_item_124 f_RX7_40 (by assumption) (by rfl) ?_
              refine x_aload_n (pc := 127) dX7_item_127 rfl ?_
              refine y_getI 12 (pc := 128) dX7_item_128 f_RX7_168 (by assumption) rfl (fun b_128 => ?_)
              rw [show zup (zup (zup (zup (zup h m 0 0) (m + 7) N a) (m + 8) N b) (m + 9) N c) (m + 10) N e m 12 = N by rw [zup_ne (by omega), zup_ne (by omega), zup_ne (by omega), zup_ne (by omega)]; exact z12]
              refine x_iload (pc := 131) dX7_item_131 rfl ?_
              refine x_iast (pc := 133) dX7_item_133 (by assumption) (by omega) (by omega) (by rfl) (by omega) ?_
              refine x_aload_n (pc := 134) dX7_item_134 rfl ?_
              refine x_dup (pc := 135) dX7_item_135 rfl ?_
              refine y_getI 12 (pc := 136) dX7_item_136 f_RX7_168 (by assumption) rfl (fun b_136 => ?_)
              generalize hG : zup (zup (zup (zup (zup (zup h m 0 0) (m + 7) N a) (m + 8) N b) (m + 9) N c) (m + 10) N e) (m + 11) N f = G at *
              have gm : G m = zup h m 0 0 m := by rw [← hG, zup_ne (by omega), zup_ne (by omega), zup_ne (by omega), zup_ne (by omega), zup_ne (by omega)]
              rw [show G m 12 = N by rw [gm]; exact z12]
              refine x_iconst (pc := 139) dX7_item_139 ?_
              refine x_iadd (pc := 140) dX7_item_140 ?_
              refine y_putI 12 (pc := 141) dX7_item_141 f_RX7_168 (by assumption) rfl (by rfl) (by omega) rfl ?_
              refine x_aload_n (pc := 144) dX7_item_144 rfl ?_
              refine y_getI 12 (pc := 145) dX7_item_145 f_RX7_168 (by assumption) rfl (fun b_145 => ?_)
              rw [show zup G m 12 (N + 1) m 12 = N + 1 by simp [zup_app]]
              refine x_iconst (pc := 148) dX7_item_148 ?_
              refine x_isub (pc := 149) dX7_item_149 ?_
              refine x_retv (pc := 150) ⟨dX7_item_150, Or.inl rfl⟩ ?_
              rw [S_item_in (S := S) (a := a) (b := b) (c := c) (e := e) (f := f) (by unfold itArg; omega) (by omega)] at hq
              rw [show N + 1 - 1 = ((cI S).length : Int) by omega]
              obtain ⟨-, hT9, hE9, -, hB9, hP9⟩ := hA1
              have ee : ∀ q, q ≠ m → (q < m + 7 ∨ m + 11 < q) → zup G m 12 (N + 1) q = zup h m 0 0 q := fun q q1 q2 => by
                rw [zup_ne q1, ← hG, zup_ne (by omega), zup_ne (by omega), zup_ne (by omega), zup_ne (by omega), zup_ne (by omega)]
              have em : ∀ k, k ≠ 12 → zup G m 12 (N + 1) m k = zup h m 0 0 m k := fun k hk => by rw [zup_app, if_neg (by omega), gm]
              have hll : (cI S ++ [(a, b, c, e, f, 0)]).length = (cI S).length + 1 := by simp
              have ar : ∀ (k : Int), (zup G m 12 (N + 1) (m + 7) k = if k = N then a else h (m + 7) k) ∧ (zup G m 12 (N + 1) (m + 8) k = if k = N then b else h (m + 8) k) ∧ (zup G m 12 (N + 1) (m + 9) k = if k = N then c else h (m + 9) k) ∧ (zup G m 12 (N + 1) (m + 10) k = if k = N then e else h (m + 10) k) ∧ (zup G m 12 (N + 1) (m + 11) k = if k = N then f else h (m + 11) k) := fun k => by
                rw [zup_ne (by omega), zup_ne (by omega), zup_ne (by omega), zup_ne (by omega), zup_ne (by omega), ← hG]
                simp [zup_app, zo1, show ¬ (m + 7 = m) by omega, show ¬ (m + 8 = m) by omega, show ¬ (m + 9 = m) by omega, show ¬ (m + 10 = m) by omega, show ¬ (m + 11 = m) by omega]
              refine hq _ (hF1.t (fun q hq1 => by rw [ee q (by omega) (by omega)])) ⟨hM0, ⟨hT9.1.fr (em 2 (by decide)) (ee _ (by omega) (by omega)), hT9.2⟩, (show mE _ m (cE S) from hE9.fr (em 10 (by decide)) (fun q k a1 a2 _ => by rw [ee q (by omega) (by omega)]) (fun k _ => by rw [ee _ (by omega) (by omega)])), ⟨?_, by show (cI S ++ [(a, b, c, e, f, 0)]).length ≤ 100; omega, fun j it hj => ?_, fun k k0 k1 => ?_⟩, (show mB _ m (cB S) from hB9.fr (em 19 (by decide)) (fun q a1 a2 => ee q (by omega) (by omega))), (show mP _ m (cP S) from hP9.fr (em 23 (by decide)) (ee _ (by omega) (by omega)))⟩
              · rw [zup_app, if_pos ⟨rfl, rfl⟩]
                show _ = ((cI S ++ [(a, b, c, e, f, 0)]).length : Int)
                omega
              · replace hj : (cI S ++ [(a, b, c, e, f, 0)])[j]? = some it := hj
                obtain ⟨w1, w2, w3, w4, w5⟩ := ar j
                rw [w1, w2, w3, w4, w5]
                by_cases hjl : j < (cI S).length
                · rw [List.getElem?_append_left hjl] at hj
                  rw [if_neg (by omega), if_neg (by omega), if_neg (by omega), if_neg (by omega), if_neg (by omega)]
                  obtain ⟨q1, q2, q3⟩ := hI.2.2.1 j it hj
                  refine ⟨q1, q2, fun s hs => ?_⟩
                  rw [ee _ (by omega) (by omega), zup_ne (by omega)]
                  exact q3 s hs
                · rw [List.getElem?_append_right (by omega)] at hj
                  have h0 : j - (cI S).length = 0 := by
                    have := (List.getElem?_eq_some_iff.mp hj).1
                    simp at this
                    omega
                  rw [h0] at hj
                  cases hj
                  rw [if_pos (by omega), if_pos (by omega), if_pos (by omega), if_pos (by omega), if_pos (by omega)]
                  refine ⟨⟨rfl, rfl, rfl, rfl, rfl⟩, ⟨by omega, by omega, by omega, by omega, by omega, (by show (0 : Nat) < 1024; decide)⟩, fun s hs => ?_⟩
                  rw [ee _ (by omega) (by omega), zup_ne (by omega), hI.2.2.2 _ (by omega) (by omega)]
                  show (0 : Int) = if (0 : Nat).testBit s = true then 1 else 0
                  simp
              · replace k0 : 10 * (((cI S ++ [(a, b, c, e, f, 0)]).length : Nat) : Int) ≤ k := k0
                rw [ee _ (by omega) (by omega), zup_ne (by omega)]
                exact hI.2.2.2 k (by omega) k1
            · (try simp (disch := omega) only [zb_e0, zb_n0, w32_id, w64_id, ne_eq, Classical.not_not] at c_76)
              refine x_ldc (pc := 79) dX7_item_79 (-1000004) tc_RX7_158 (by decide) ?_
              refine x_retv (pc := 81) ⟨dX7_item_81, Or.inl rfl⟩ ?_
              rw [S_item_room (S := S) (a := a) (b := b) (c := c) (e := e) (f := f) (by unfold itArg; omega) (by omega)] at hq
              exact hq _ hF1 hA1
          · (try simp (disch := omega) only [zb_e0, zb_n0, w32_id, w64_id, ne_eq, Classical.not_not] at c_64)
            refine x_ldc (pc := 67) dX7_item_67 (-1000002) tc_RX7_167 (by decide) ?_
            refine x_retv (pc := 69) ⟨dX7_item_69, Or.inl rfl⟩ ?_
            rw [S_item_out (S := S) (a := a) (b := b) (c := c) (e := e) (f := f) (by unfold itArg; omega)] at hq
            exact hq _ hF1 hA1

end C30
