section C19
variable {D : va_G} {d : Nat} {ty : zT} {sz : Nat} {h : zH} {Q : zQ}
theorem aE.get {x : Int} {S : CS} (hX : isXT ty x) (hE : aE h x (cE S)) {i : Int} (h0 : 0 ≤ i) (h1 : i < (cE S).length) : ∃ l, (cE S)[i.toNat]? = some l ∧ isET ty (x + 16 + 62 * i) ∧ EdIs h (x + 16 + 62 * i) l ∧ OKE l := by
  have hl : i.toNat < (cE S).length := by omega
  have hg := hE.2.2 _ _ (List.getElem?_eq_getElem hl)
  rw [show ((i.toNat : Nat) : Int) = i by omega] at hg
  have := hE.2.1
  exact ⟨_, List.getElem?_eq_getElem hl, hX.2.2.2.2.2.2.2.2 _ (by omega) (by omega), hg.1, hg.2⟩
theorem S_compare_out {S : CS} {e : Int} (hn : ¬ (0 ≤ e ∧ e < (cE S).length)) : S_compare S e = -1000001 := by
  unfold S_compare
  split
  · rw [List.getElem?_eq_none (by omega)]
  · rfl
theorem S_compare_in {S : CS} {e : Int} {l : List Row} (h0 : 0 ≤ e) (h1 : (cE S)[e.toNat]? = some l) : S_compare S e = cmpS l (S_last S) 10 := by
  unfold S_compare
  rw [if_pos h0, h1]
theorem S_print_no {S : CS} (h0 : cE S = []) : S_print S = (S, -1000003) := if_pos h0
theorem S_print_in {S : CS} (h0 : cE S ≠ []) : S_print S = ((cT S, cE S, cI S, cB S, cb S, (semT (edPR (S_last S))).tail), ((semT (edPR (S_last S))).tail.length : Int)) := if_neg h0

set_option maxHeartbeats 4000000 in
set_option maxRecDepth 100000 in
theorem C_compare32 {i e c : Int} {l : List Row} {x lo : Int} {S : CS} (hA : zAbs ty h x lo S) (c4 : isET ty c) (c5 : EdIs h c l) (c6 : OKE l) (e4 : isET ty e) (e5 : EdIs h e (S_last S)) (e6 : OKE (S_last S)) (hq : Q (some (iV (cmpS l (S_last S) 10))) ty sz h) : ∀ (n : Nat) (k : Nat), k ≤ 10 → 10 - k < n → zX D mX6_compare (d + 3) 0 0 32 [(5, iV (k : Int)), (4, iV (cmpS l (S_last S) k)), (3, rV e), (2, rV c), (0, rV x), (1, iV i)] [] ty sz h Q := by
  intro n
  induction n with
  | zero =>
    intro k h1 hm
    exfalso
    omega
  | succ n ih =>
    intro k h1 hm
    have hcr := cmpS_rng (l1 := l) (l2 := S_last S) k
    refine x_iload (pc := 32) dX6_compare_32 rfl ?_
    refine x_bipush (pc := 34) dX6_compare_34 (by decide) ?_
    refine x_icmp_ge (pc := 36) 66 dX6_compare_36 rfl (fun c_36 => ?_) (fun c_36 => ?_)
    · (try simp (disch := omega) only [zb_e0, zb_n0, w32_id, w64_id, ne_eq, Classical.not_not] at c_36)
      refine x_iload (pc := 66) dX6_compare_66 rfl ?_
      refine x_retv (pc := 68) ⟨dX6_compare_68, Or.inl rfl⟩ ?_
      rw [show k = 10 by omega]
      exact hq
    · (try simp (disch := omega) only [zb_e0, zb_n0, w32_id, w64_id, ne_eq, Classical.not_not] at c_36)
      refine x_aload_n (pc := 39) dX6_compare_39 rfl ?_
      refine x_iload (pc := 40) dX6_compare_40 rfl ?_
      refine x_callS2 (pc := 42) dX6_compare_42 (k_RX6_111 _ rfl) tms_X6_kindOf rfl rfl ?_
      refine x_room (d' := d + 1) (by omega) (Nat.le_refl _) (Nat.le_refl _) (c_kindOf1 c4 (by omega) c5 (fun a ha => ?_))
      dsimp only [Option.toList, List.cons_append, List.nil_append]
      refine x_aload_n (pc := 45) dX6_compare_45 rfl ?_
      refine x_iload (pc := 46) dX6_compare_46 rfl ?_
      refine x_callS2 (pc := 48) dX6_compare_48 (k_RX6_111 _ rfl) tms_X6_kindOf rfl rfl ?_
      refine x_room (d' := d + 1) (by omega) (Nat.le_refl _) (Nat.le_refl _) (c_kindOf1 e4 (by omega) e5 (fun b hb => ?_))
      dsimp only [Option.toList, List.cons_append, List.nil_append]
      refine x_callS2 (pc := 51) dX6_compare_51 (k_RX6_144 _ rfl) tms_X6_arePrintedAlike rfl rfl ?_
      refine c_alike (by
        rcases ha with ⟨-, q⟩ | ⟨-, -, -, q, q2⟩
        · exact Or.inl q
        · exact Or.inr ⟨q, (KI_Good q2 (OKE_K c6 k).1 (OKE_K c6 k).2).1⟩) (by
        rcases hb with ⟨-, q⟩ | ⟨-, -, -, q, q2⟩
        · exact Or.inl q
        · exact Or.inr q) ?_
      have hal := alike_at ha hb
      dsimp only [Option.toList, List.cons_append, List.nil_append]
      refine x_if_ne (pc := 54) 60 dX6_compare_54 rfl (fun c_54 => ?_) (fun c_54 => ?_)
      · (try simp (disch := omega) only [zb_e0, zb_n0, w32_id, w64_id, ne_eq, Classical.not_not] at c_54)
        refine x_iinc (pc := 60) dX6_compare_60 rfl (by decide) ?_
        refine x_goto (pc := 63) 32 dX6_compare_63 rfl ?_
        first
        | (have hy := cmpS_y (l1 := l) (l2 := S_last S) (n := k) (hal.mp c_54)
           exact x_loc _ (by rw [← hy]; exact ⟨rfl, rfl, rfl, rfl, rfl, rfl, trivial⟩) (ih (k + 1) (by omega) (by omega)))
        | (have hy := cmpS_n (l1 := l) (l2 := S_last S) (n := k) (fun z => c_54 (hal.mpr z))
           exact x_loc _ (by rw [← hy]; exact ⟨rfl, rfl, rfl, rfl, rfl, rfl, trivial⟩) (ih (k + 1) (by omega) (by omega)))
      · (try simp (disch := omega) only [zb_e0, zb_n0, w32_id, w64_id, ne_eq, Classical.not_not] at c_54)
        refine x_iinc (pc := 57) dX6_compare_57 rfl (by decide) ?_
        refine x_iinc (pc := 60) dX6_compare_60 rfl (by decide) ?_
        refine x_goto (pc := 63) 32 dX6_compare_63 rfl ?_
        first
        | (have hy := cmpS_y (l1 := l) (l2 := S_last S) (n := k) (hal.mp c_54)
           exact x_loc _ (by rw [← hy]; exact ⟨rfl, rfl, rfl, rfl, rfl, rfl, trivial⟩) (ih (k + 1) (by omega) (by omega)))
        | (have hy := cmpS_n (l1 := l) (l2 := S_last S) (n := k) (fun z => c_54 (hal.mpr z))
           exact x_loc _ (by rw [← hy]; exact ⟨rfl, rfl, rfl, rfl, rfl, rfl, trivial⟩) (ih (k + 1) (by omega) (by omega)))

set_option maxHeartbeats 4000000 in
set_option maxRecDepth 100000 in
theorem C_compare {i : Int} {x lo : Int} {S : CS} (hA : zAbs ty h x lo S) (hi : i32 i) (hq : ∀ h', FrX x lo h h' → zAbs ty h' x lo (S) → Q (some (iV (S_compare S i))) ty sz h') : zXM D mX6_compare (d + 3) 0 0 [rV x, iV i] ty sz h Q := by
  have hA0 := hA
  obtain ⟨hX, hL, hT, hE, hI, hB, hP⟩ := hA
  have hX0 := hX
  obtain ⟨x9, x0, xR, xP, xB, xB2, x14, x15, xE⟩ := hX
  have hE1 := hE.1
  have hE2 := hE.2.1
  have hI1 := hI.1
  have hI2 := hI.2.1
  have hP1 := hP.1.1
  have hP2 := hP.2
  refine x_iload_n (pc := 0) dX6_compare_0 rfl ?_
  refine x_if_lt (pc := 1) 12 dX6_compare_1 rfl (fun c_1 => ?_) (fun c_1 => ?_)
  · (try simp (disch := omega) only [zb_e0, zb_n0, w32_id, w64_id, ne_eq, Classical.not_not] at c_1)
    rw [S_compare_out (S := S) (e := i) (by omega)] at hq
    refine x_ldc (pc := 12) dX6_compare_12 (-1000001) tc_RX6_88 (by decide) ?_
    refine x_retv (pc := 14) ⟨dX6_compare_14, Or.inl rfl⟩ ?_
    exact hq h (FrX.rf _ _ _) hA0
  · (try simp (disch := omega) only [zb_e0, zb_n0, w32_id, w64_id, ne_eq, Classical.not_not] at c_1)
    refine x_iload_n (pc := 4) dX6_compare_4 rfl ?_
    refine x_aload_n (pc := 5) dX6_compare_5 rfl ?_
    refine y_getI 7 (pc := 6) dX6_compare_6 f_RX6_54 (by assumption) rfl (fun b_6 => ?_)
    rw [hE1] at b_6 ⊢
    refine x_icmp_lt (pc := 9) 15 dX6_compare_9 rfl (fun c_9 => ?_) (fun c_9 => ?_)
    · (try simp (disch := omega) only [zb_e0, zb_n0, w32_id, w64_id, ne_eq, Classical.not_not] at c_9)
      refine x_aload_n (pc := 15) dX6_compare_15 rfl ?_
      refine x_iload_n (pc := 16) dX6_compare_16 rfl ?_
      refine x_callV1 (pc := 17) dX6_compare_17 (k_RX6_58 _ rfl) tmv_X6_slot (by assumption) rfl rfl rfl ?_
      refine c_slot hX0 (by omega) (fun z => absurd ⟨by omega, by omega⟩ z) (fun _ => ?_)
      dsimp only [Option.toList, List.cons_append, List.nil_append]
      refine x_astore_n (pc := 20) dX6_compare_20 (by decide) ?_
      refine x_aload_n (pc := 21) dX6_compare_21 rfl ?_
      refine x_callV0 (pc := 22) dX6_compare_22 (k_RX6_104 _ rfl) tmv_X6_latest (by assumption) rfl rfl rfl ?_
      refine x_room (d' := d + 1) (by omega) (Nat.le_refl _) (Nat.le_refl _) (c_latest1 (S := S) hX0 hE (fun e he => ?_))
      dsimp only [Option.toList, List.cons_append, List.nil_append]
      refine x_astore_n (pc := 25) dX6_compare_25 (by decide) ?_
      refine x_iconst (pc := 26) dX6_compare_26 ?_
      refine x_istore (pc := 27) dX6_compare_27 (by decide) ?_
      refine x_iconst (pc := 29) dX6_compare_29 ?_
      refine x_istore (pc := 30) dX6_compare_30 (by decide) ?_
      obtain ⟨l, l1, l2, l3, l4⟩ := aE.get hX0 hE (i := i) (by omega) (by omega)
      rw [S_compare_in (by omega) l1] at hq
      rcases he with ⟨e1, -⟩ | ⟨e1, e2, e3, e4, e5, e6⟩
      · rw [e1] at l1
        simp at l1
      exact x_loc _ (by exact ⟨rfl, rfl, rfl, rfl, rfl, rfl, trivial⟩) (C_compare32 (i := i) hA0 l2 l3 l4 e4 e5 e6 (hq h (FrX.rf _ _ _) hA0) 11 0 (by omega) (by omega))
    · (try simp (disch := omega) only [zb_e0, zb_n0, w32_id, w64_id, ne_eq, Classical.not_not] at c_9)
      rw [S_compare_out (S := S) (e := i) (by omega)] at hq
      refine x_ldc (pc := 12) dX6_compare_12 (-1000001) tc_RX6_88 (by decide) ?_
      refine x_retv (pc := 14) ⟨dX6_compare_14, Or.inl rfl⟩ ?_
      exact hq h (FrX.rf _ _ _) hA0

set_option maxHeartbeats 4000000 in
set_option maxRecDepth 100000 in
theorem c_p_kindN {p k : Int} (hq : Q none ty sz h) : zXM D mX4_addKind d 0 0 [rV p, iV k, rV (-1)] ty sz h Q := by
  refine x_aload_n (pc := 0) dX4_addKind_0 rfl ?_
  refine x_ifnonnull (pc := 1) 5 dX4_addKind_1 rfl (fun c_1 => ?_) (fun c_1 => ?_)
  · (try simp (disch := omega) only [zb_e0, zb_n0, w32_id, w64_id, ne_eq, Classical.not_not] at c_1)
    omega
  · (try simp (disch := omega) only [zb_e0, zb_n0, w32_id, w64_id, ne_eq, Classical.not_not] at c_1)
    refine x_ret (pc := 4) ⟨dX4_addKind_4, rfl⟩ ?_
    exact hq

theorem krPR_KI {h : zH} {a : Int} {kr : List Row} (hk : KindIs h a kr) (k : Int) : kPR h a k = krPR k kr := kPR_KI hk (vH_K kr (0, 0, 0, 0, 0, 0)) k
theorem edPR_s (l : List Row) (n : Nat) : gL (fun k => if kR k l = [] then [] else krPR k (kR k l)) (n + 1) = gL (fun k => if kR k l = [] then [] else krPR k (kR k l)) n ++ (if kR n l = [] then [] else krPR n (kR n l)) := rfl
theorem c_p_kind1 {p e : Int} {k : Nat} {a : Int} {l : List Row} (hp : isPT ty p) (hd : a + 5 < p ∨ p + 1 < a ∨ a = -1) (hk : k < 10) (hO : OKE l) (ha : (kR k l = [] ∧ a = -1) ∨ (kR k l ≠ [] ∧ a = e + 2 + 6 * k ∧ 0 ≤ a ∧ isKT ty a ∧ KindIs h a (kR k l))) (hP : PrR h p (gL (fun k => if kR k l = [] then [] else krPR k (kR k l)) k)) (hq : ∀ h', Fr p (p + 1) h h' → PrR h' p (gL (fun k => if kR k l = [] then [] else krPR k (kR k l)) (k + 1)) → Q none ty sz h') : zXM D mX4_addKind (d + 5) 0 0 [rV p, iV (k : Int), rV a] ty sz h Q := by
  rw [edPR_s] at hq
  rcases ha with ⟨h1, rfl⟩ | ⟨h1, -, h2, h3, h4⟩
  · refine c_p_kindN ?_
    rw [if_pos h1, List.append_nil] at hq
    exact hq h (Fr.rf _ _ _) hP
  · rw [if_neg h1, ← krPR_KI h4] at hq
    refine c_p_kind hp h3 (by omega) ⟨by omega, by omega⟩ (KI_Pr h4 (OKE_K hO k).1 (OKE_K hO k).2) hP ?_ hq
    have hl := gL_le (f := fun k => if kR k l = [] then [] else krPR k (kR k l)) [] (n := k + 1) (m := 10) (by omega)
    rw [edPR_s, if_neg h1, ← krPR_KI h4] at hl
    have := hO.2
    unfold edPR at this
    simp only [List.nil_append] at hl
    omega

set_option maxHeartbeats 4000000 in
set_option maxRecDepth 100000 in
theorem C_print21 {e : Int} {x lo : Int} {S : CS} (hA : zAbs ty h x lo S) (e4 : isET ty e) (e5 : EdIs h e (S_last S)) (e6 : OKE (S_last S)) (e7 : x + 16 ≤ e) (hq : ∀ h', Fr (x + 4) (x + 5) h h' → PrR h' (x + 4) (edPR (S_last S)) → Q (some (iV ((semT (edPR (S_last S))).tail.length : Int))) ty sz h') : ∀ (n : Nat) (k : Nat) (g : zH), k ≤ 10 → Fr (x + 4) (x + 5) h g → PrR g (x + 4) (gL (fun k => if kR k (S_last S) = [] then [] else krPR k (kR k (S_last S))) k) → 10 - k < n → zX D mX6_print (d + 6) 0 0 21 [(2, iV (k : Int)), (1, rV e), (0, rV x)] [] ty sz g Q := by
  intro n
  induction n with
  | zero =>
    intro k g h1 hF hPg hm
    exfalso
    omega
  | succ n ih =>
    intro k g h1 hF hPg hm
    have hA0 := hA
    obtain ⟨hX, hL, hT, hE, hI, hB, hP⟩ := hA
    have hX0 := hX
    obtain ⟨x9, x0, xR, xP, xB, xB2, x14, x15, xE⟩ := hX
    have hE1 := hE.1
    have hE2 := hE.2.1
    have hI1 := hI.1
    have hI2 := hI.2.1
    have hP1 := hP.1.1
    have hP2 := hP.2
    refine x_iload_n (pc := 21) dX6_print_21 rfl ?_
    refine x_bipush (pc := 22) dX6_print_22 (by decide) ?_
    refine x_icmp_ge (pc := 24) 46 dX6_print_24 rfl (fun c_24 => ?_) (fun c_24 => ?_)
    · (try simp (disch := omega) only [zb_e0, zb_n0, w32_id, w64_id, ne_eq, Classical.not_not] at c_24)
      refine x_aload_n (pc := 46) dX6_print_46 rfl ?_
      refine x_getF (pc := 47) dX6_print_47 f_RX6_19 (by assumption) (by rfl) ?_
      refine y_getI 1 (pc := 50) dX6_print_50 f_RX6_156 xP.2.1 rfl (fun b_50 => ?_)
      rw [hPg.1]
      refine x_retv (pc := 53) ⟨dX6_print_53, Or.inl rfl⟩ ?_
      have ek : k = 10 := by omega
      subst ek
      exact hq g hF hPg
    · (try simp (disch := omega) only [zb_e0, zb_n0, w32_id, w64_id, ne_eq, Classical.not_not] at c_24)
      refine x_aload_n (pc := 27) dX6_print_27 rfl ?_
      refine x_getF (pc := 28) dX6_print_28 f_RX6_19 (by assumption) (by rfl) ?_
      refine x_iload_n (pc := 31) dX6_print_31 rfl ?_
      refine x_aload_n (pc := 32) dX6_print_32 rfl ?_
      refine x_iload_n (pc := 33) dX6_print_33 rfl ?_
      refine x_callS2 (pc := 34) dX6_print_34 (k_RX6_111 _ rfl) tms_X6_kindOf rfl rfl ?_
      refine x_room (d' := d + 1) (by omega) (Nat.le_refl _) (Nat.le_refl _) (c_kindOf1 e4 (by omega) (e5.fr (fun q q0 q1 => hF q (by omega))) (fun a ha => ?_))
      dsimp only [Option.toList, List.cons_append, List.nil_append]
      refine x_callV2 (pc := 37) dX6_print_37 (k_RX6_152 _ rfl) tmv_X4_addKind xP.2.1 rfl rfl rfl ?_
      refine c_p_kind1 (l := S_last S) xP (by rcases ha with ⟨-, q⟩ | ⟨-, q, -⟩ <;> omega) (by omega) e6 ha hPg (fun g1 hF1 hP9 => ?_)
      have hF2 : Fr (x + 4) (x + 5) h g1 := hF.t (fun q hq1 => hF1 q (by omega))
      dsimp only [Option.toList, List.cons_append, List.nil_append]
      refine x_iinc (pc := 40) dX6_print_40 rfl (by decide) ?_
      refine x_goto (pc := 43) 21 dX6_print_43 rfl ?_
      exact x_loc _ (by exact ⟨rfl, rfl, rfl, trivial⟩) (ih (k + 1) g1 (by omega) hF2 hP9 (by omega))

set_option maxHeartbeats 4000000 in
set_option maxRecDepth 100000 in
theorem C_print {x lo : Int} {S : CS} (hA : zAbs ty h x lo S) (hq : ∀ h', FrX x lo h h' → zAbs ty h' x lo ((S_print S).1) → Q (some (iV (S_print S).2)) ty sz h') : zXM D mX6_print (d + 6) 0 0 [rV x] ty sz h Q := by
  have hA0 := hA
  obtain ⟨hX, hL, hT, hE, hI, hB, hP⟩ := hA
  have hX0 := hX
  obtain ⟨x9, x0, xR, xP, xB, xB2, x14, x15, xE⟩ := hX
  have hE1 := hE.1
  have hE2 := hE.2.1
  have hI1 := hI.1
  have hI2 := hI.2.1
  have hP1 := hP.1.1
  have hP2 := hP.2
  refine x_aload_n (pc := 0) dX6_print_0 rfl ?_
  refine x_callV0 (pc := 1) dX6_print_1 (k_RX6_104 _ rfl) tmv_X6_latest (by assumption) rfl rfl rfl ?_
  refine x_room (d' := d + 1) (by omega) (Nat.le_refl _) (Nat.le_refl _) (c_latest1 (S := S) hX0 hE (fun e he => ?_))
  dsimp only [Option.toList, List.cons_append, List.nil_append]
  refine x_astore_n (pc := 4) dX6_print_4 (by decide) ?_
  refine x_aload_n (pc := 5) dX6_print_5 rfl ?_
  refine x_ifnonnull (pc := 6) 12 dX6_print_6 rfl (fun c_6 => ?_) (fun c_6 => ?_)
  · (try simp (disch := omega) only [zb_e0, zb_n0, w32_id, w64_id, ne_eq, Classical.not_not] at c_6)
    --
    rcases he with ⟨e1, e2⟩ | ⟨e1, e2, e3, e4, e5, e6⟩
    · omega
    refine x_aload_n (pc := 12) dX6_print_12 rfl ?_
    refine x_getF (pc := 13) dX6_print_13 f_RX6_19 (by assumption) (by rfl) ?_
    refine x_callV0 (pc := 16) dX6_print_16 (k_RX6_149 _ rfl) tmv_X4_start xP.2.1 rfl rfl rfl ?_
    refine c_p_start xP (fun h1 hF1 hP9 => ?_)
    dsimp only [Option.toList, List.cons_append, List.nil_append]
    refine x_iconst (pc := 19) dX6_print_19 ?_
    refine x_istore_n (pc := 20) dX6_print_20 (by decide) ?_
    rw [S_print_in e1] at hq
    have hF9 : Fr (x + 4) (x + 5) h h1 := fun q hq1 => hF1 q (by omega)
    have hA1 : zAbs ty h1 x lo (cT S, cE S, cI S, cB S, cb S, []) := ⟨hX0, hL, (aT.fr hT (fun q q0 q1 => hF9 q (by omega))), (show aE h1 x (cE S) from (aE.fr hE (by rw [hF9 x (by omega)]) (fun q q0 q1 => hF9 q (by omega)))), (aI.fr hI (by rw [hF9 x (by omega)]) (hF9 _ (by omega)) (fun q q0 => hF9 q (by omega)) (fun _ _ z => z)), (aB.fr hB (fun q q0 q1 => hF9 q (by omega))), ⟨hP9, by show (0 : Nat) ≤ 1500; decide⟩⟩
    refine x_loc _ (by exact ⟨rfl, rfl, rfl, trivial⟩) (C_print21 (S := (cT S, cE S, cI S, cB S, cb S, [])) (e := e) hA1 e4 (e5.fr (fun q q0 q1 => hF1 q (by omega))) e6 (by omega) (fun h2 hF2 hP8 => ?_) 11 0 h1 (by omega) (Fr.rf _ _ _) hP9 (by omega))
    have hF3 : Fr (x + 4) (x + 5) h h2 := hF9.t hF2
    have hlen : (semT (edPR (S_last S))).tail.length ≤ 1500 := by
      have := e6.2
      rw [List.length_tail]
      omega
    exact hq h2 (FrX.of hF3 (by omega) (by omega)) ⟨hX0, hL, (aT.fr hT (fun q q0 q1 => hF3 q (by omega))), (show aE h2 x (cE S) from (aE.fr hE (by rw [hF3 x (by omega)]) (fun q q0 q1 => hF3 q (by omega)))), (aI.fr hI (by rw [hF3 x (by omega)]) (hF3 _ (by omega)) (fun q q0 => hF3 q (by omega)) (fun _ _ z => z)), (aB.fr hB (fun q q0 q1 => hF3 q (by omega))), ⟨hP8, hlen⟩⟩
  · (try simp (disch := omega) only [zb_e0, zb_n0, w32_id, w64_id, ne_eq, Classical.not_not] at c_6)
    rcases he with ⟨e1, e2⟩ | ⟨e1, e2, e3, e4, e5, e6⟩
    · rw [S_print_no e1] at hq
      refine x_ldc (pc := 9) dX6_print_9 (-1000003) tc_RX6_148 (by decide) ?_
      refine x_retv (pc := 11) ⟨dX6_print_11, Or.inl rfl⟩ ?_
      exact hq h (FrX.rf _ _ _) hA0
    · omega

end C19
