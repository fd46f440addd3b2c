section C23
variable {D : va_G} {d : Nat} {ty : zT} {sz : Nat} {h : zH} {Q : zQ}
/-- what the reading of a row leaves as it was -/
def FrR (m : Int) (h h' : zH) : Prop := (∀ a, a ≠ m → (a < m + 2 ∨ m + 6 < a) → h' a = h a) ∧ (∀ a k, m + 2 ≤ a → a ≤ m + 5 → k < 2600 → h' a k = h a k) ∧ (∀ k, k ≠ 5 → h' (m + 6) k = h (m + 6) k) ∧ (∀ k, k ≠ 3 → k ≠ 4 → k ≠ 11 → h' m k = h m k)
theorem FrR.rf (m : Int) (h : zH) : FrR m h h := ⟨fun _ _ _ => rfl, fun _ _ _ _ _ => rfl, fun _ _ => rfl, fun _ _ _ _ => rfl⟩
theorem FrR.t {m : Int} {h h' h2 : zH} (a : FrR m h h') (b : FrR m h' h2) : FrR m h h2 := ⟨fun q q1 q2 => (b.1 q q1 q2).trans (a.1 q q1 q2), fun q k q1 q2 q3 => (b.2.1 q k q1 q2 q3).trans (a.2.1 q k q1 q2 q3), fun k hk => (b.2.2.1 k hk).trans (a.2.2.1 k hk), fun k k1 k2 k3 => (b.2.2.2 k k1 k2 k3).trans (a.2.2.2 k k1 k2 k3)⟩
theorem FrR.m {m k v : Int} (h : zH) (hk : k = 3 ∨ k = 4 ∨ k = 11) : FrR m h (zup h m k v) := ⟨fun a a1 _ => zup_ne a1, fun a k a1 a2 _ => by rw [zup_ne (by omega)], fun k _ => by rw [zup_ne (by omega)], fun j j1 j2 j3 => by rw [zup_app, if_neg (by omega)]⟩
theorem FrR.c {m a k v : Int} (h : zH) (ha : m + 2 ≤ a ∧ a ≤ m + 5) (hk : 2600 ≤ k) : FrR m h (zup h a k v) := ⟨fun q q1 q2 => zup_ne (by omega), fun q j q1 q2 q3 => by rw [zup_app, if_neg (by omega)], fun k _ => by rw [zup_ne (by omega)], fun j j1 j2 j3 => by rw [zup_ne (by omega)]⟩
theorem FrR.n {m v : Int} (h : zH) : FrR m h (zup h (m + 6) 5 v) := ⟨fun q q1 q2 => zup_ne (by omega), fun q j q1 q2 q3 => by rw [zup_ne (by omega)], fun k hk => by rw [zup_app, if_neg (by omega)], fun j j1 j2 j3 => by rw [zup_ne (by omega)]⟩
theorem FrR.T {m : Int} {h h' : zH} {T : List Int} (a : FrR m h h') (hP : MTx h m T) : MTx h' m T := hP.fr (a.2.2.2 2 (by decide) (by decide) (by decide)) (a.1 _ (by omega) (by omega))
/-- a text is read up to p, and these are its rows -/
def RS (h : zH) (m p : Int) (l : List Row) : Prop := h m 3 = p ∧ h m 4 = -1 ∧ h (m + 6) 5 = l.length ∧ MR h m 2600 l ∧ h m 11 = (if l = [] then -1 else 2600 + ((l.length - (curK l).length : Nat) : Int)) ∧ WF l
theorem MR.drop {h : zH} {m b : Int} {l : List Row} (hR : MR h m b l) (k : Nat) : MR h m (b + k) (l.drop k) := by
  intro i r hi
  rw [List.getElem?_drop] at hi
  have := hR (k + i) r hi
  rw [show b + ((k + i : Nat) : Int) = b + k + i by omega] at this
  exact this
theorem RS.cur {m p : Int} {l : List Row} (hS : RS h m p l) (hl : l ≠ []) (hn : l.length ≤ 510) : ∃ b, CurIs h m b (curK l) := by
  obtain ⟨h3, h4, h5, h6, h7, h8⟩ := hS
  obtain ⟨c1, c2⟩ := curK_drop l h8
  refine ⟨2600 + ((l.length - (curK l).length : Nat) : Int), ?_, ?_, ?_, ?_, ?_⟩
  · have := h6.drop (l.length - (curK l).length)
    rwa [c1] at this
  · rw [h7, if_neg hl]
  · omega
  · omega
  · omega
/-- only the place and the fault may differ -/
theorem CurIs.up {m b k v : Int} {kr : List Row} (hC : CurIs h m b kr) (hk : k = 3 ∨ k = 4) : CurIs (zup h m k v) m b kr := by
  obtain ⟨h1, h2, h3, h4, h5⟩ := hC
  refine ⟨h1.fr (fun q q1 q2 => zup_ne (by omega)), ?_, h3, h4, ?_⟩
  · rw [zup_app, if_neg (by omega)]; exact h2
  · rw [zup_ne (by omega)]; exact h5
theorem RS_add {m p p2 : Int} {l : List Row} {c a e f : Int} {g : zH} (hS : RS h m p l) (hn : l.length ≤ 510) (ho : okRow l (c, a, e, f)) (hF : FrR m h g) (hg : ∀ q, m + 2 ≤ q → q ≤ m + 6 → g q = h q) (g3 : g m 3 = p2) (g4 : g m 4 = -1) (g11 : g m 11 = if c = 75 then 2600 + (l.length : Int) else h m 11) : FrR m h (zup (zup (zup (zup (zup g (m + 2) (2600 + l.length) c) (m + 3) (2600 + l.length) a) (m + 4) (2600 + l.length) e) (m + 5) (2600 + l.length) f) (m + 6) 5 (l.length + 1)) ∧ RS (zup (zup (zup (zup (zup g (m + 2) (2600 + l.length) c) (m + 3) (2600 + l.length) a) (m + 4) (2600 + l.length) e) (m + 5) (2600 + l.length) f) (m + 6) 5 (l.length + 1)) m p2 (l ++ [(c, a, e, f)]) := by
  obtain ⟨h3, h4, h5, h6, h7, h8⟩ := hS
  refine ⟨(((((hF.t (FrR.c _ (by omega) (by omega))).t (FrR.c _ (by omega) (by omega))).t (FrR.c _ (by omega) (by omega))).t (FrR.c _ (by omega) (by omega))).t (FrR.n _)), ?_, ?_, ?_, ?_, ?_, WF_snoc.mpr ⟨h8, ho⟩⟩
  · rw [zup_ne (by omega), zup_ne (by omega), zup_ne (by omega), zup_ne (by omega), zup_ne (by omega)]; exact g3
  · rw [zup_ne (by omega), zup_ne (by omega), zup_ne (by omega), zup_ne (by omega), zup_ne (by omega)]; exact g4
  · rw [zup_app, if_pos ⟨rfl, rfl⟩]; simp
  · intro i r hi
    by_cases hil : i < l.length
    · rw [List.getElem?_append_left hil] at hi
      obtain ⟨q1, q2, q3, q4⟩ := h6 i r hi
      have ne : ¬ (2600 : Int) + i = 2600 + l.length := by omega
      simp only [zup_app, zo1, ne, and_false, if_false]
      rw [hg (m + 2) (by omega) (by omega), hg (m + 3) (by omega) (by omega), hg (m + 4) (by omega) (by omega), hg (m + 5) (by omega) (by omega)]
      simp [q1, q2, q3, q4]
    · rw [List.getElem?_append_right (by omega)] at hi
      have h0 : i - l.length = 0 := by
        have := (List.getElem?_eq_some_iff.mp hi).1
        simp at this
        omega
      rw [h0] at hi
      cases hi
      have ei : i = l.length := by omega
      subst ei
      simp [zup_app, zo1]
  · rw [zup_ne (by omega), zup_ne (by omega), zup_ne (by omega), zup_ne (by omega), zup_ne (by omega), g11]
    rw [if_neg (show ¬ (l ++ [(c, a, e, f)] = []) by simp)]
    by_cases ec : c = 75
    · rw [if_pos ec, curK_75 ho ec]
      simp
    · rw [if_neg ec, curK_o ec, h7]
      have hl : l ≠ [] := by
        intro z
        have := ho.1
        unfold mayB at this
        simp [z] at this
        exact ec this
      rw [if_neg hl]
      simp

theorem lastW_rng {l : List Row} (h : WF l) : 0 ≤ lastW (curK l) ∧ lastW (curK l) ≤ 9999999 := by
  unfold lastW
  cases hq : (stp (curK l)).getLast? with
  | none => exact ⟨by decide, by decide⟩
  | some q =>
    obtain ⟨r, hr, e, eq⟩ := stp_val (List.mem_of_getLast? hq)
    subst eq
    exact (WF_B l h r (kR_sub _ l r hr)).2.1

theorem nL_le (c : Int) (l : List Row) : nL c l ≤ l.length := by
  unfold nL
  exact List.length_filter_le _ _
theorem CurIs.len {m b : Int} {kr : List Row} (hC : CurIs h m b kr) : kr.length ≤ 520 := by
  obtain ⟨h1, h2, h3, h4, h5⟩ := hC
  omega

set_option maxHeartbeats 4000000 in
set_option maxRecDepth 100000 in
theorem c_m_stepF {m : Int} (hM : isMT ty m) {v a b : Int} (h4 : h m 4 ≠ -1) (hq : Q none ty sz h) : zX D mX7_readStep (d + 4) 0 0 57 [(2, iV a), (0, rV m), (1, iV b)] [iV v] ty sz h Q := by
  have hM0 := hM
  obtain ⟨m9, m0, a1, a2, a3, a4, a5, a6, a7, a8, a9, a10, a11, a12, a13, a14, a15, a16, a17, a18, a19, a20, a21⟩ := hM
  refine x_istore_n (pc := 57) dX7_readStep_57 (by decide) ?_
  refine x_aload_n (pc := 58) dX7_readStep_58 rfl ?_
  refine x_bipush (pc := 59) dX7_readStep_59 (by decide) ?_
  refine x_iload_n (pc := 61) dX7_readStep_61 rfl ?_
  refine x_iload_n (pc := 62) dX7_readStep_62 rfl ?_
  refine x_iconst (pc := 63) dX7_readStep_63 ?_
  refine x_callV4 (pc := 64) dX7_readStep_64 (k_RX7_117 _ rfl) tmv_X7_add (by assumption) rfl rfl rfl ?_
  refine x_room (d' := d + 2) (by omega) (Nat.le_refl _) (Nat.le_refl _) (c_m_addF hM0 h4 ?_)
  dsimp only [Option.toList, List.cons_append, List.nil_append]
  refine x_ret (pc := 67) ⟨dX7_readStep_67, rfl⟩ ?_
  exact hq

set_option maxHeartbeats 4000000 in
set_option maxRecDepth 100000 in
theorem c_m_step53 {m : Int} (hM : isMT ty m) {v a b : Int} (h4 : h m 4 ≠ -1) (hq : Q none ty sz h) : zX D mX7_readStep (d + 4) 0 0 53 [(2, iV a), (0, rV m), (1, iV b)] [iV v] ty sz h Q := by
  have hM0 := hM
  obtain ⟨m9, m0, a1, a2, a3, a4, a5, a6, a7, a8, a9, a10, a11, a12, a13, a14, a15, a16, a17, a18, a19, a20, a21⟩ := hM
  refine x_goto (pc := 53) 57 dX7_readStep_53 rfl ?_
  exact c_m_stepF hM0 h4 hq

set_option maxHeartbeats 4000000 in
set_option maxRecDepth 100000 in
theorem c_m_step37 {m : Int} (hM : isMT ty m) {v b : Int} (h4 : h m 4 ≠ -1) (hq : Q none ty sz h) : zX D mX7_readStep (d + 4) 0 0 37 [(0, rV m), (1, iV b)] [iV v] ty sz h Q := by
  have hM0 := hM
  obtain ⟨m9, m0, a1, a2, a3, a4, a5, a6, a7, a8, a9, a10, a11, a12, a13, a14, a15, a16, a17, a18, a19, a20, a21⟩ := hM
  refine x_istore_n (pc := 37) dX7_readStep_37 (by decide) ?_
  refine x_aload_n (pc := 38) dX7_readStep_38 rfl ?_
  refine y_getI 4 (pc := 39) dX7_readStep_39 f_RX7_85 (by assumption) rfl (fun b_39 => ?_)
  refine x_iconst (pc := 42) dX7_readStep_42 ?_
  refine x_icmp_ne (pc := 43) 56 dX7_readStep_43 rfl (fun c_43 => ?_) (fun c_43 => ?_)
  · (try simp (disch := omega) only [zb_e0, zb_n0, w32_id, w64_id, ne_eq, Classical.not_not] at c_43)
    refine x_iconst (pc := 56) dX7_readStep_56 ?_
    exact x_loc _ (by exact ⟨rfl, rfl, rfl, trivial⟩) (c_m_stepF hM0 h4 hq)
  · (try simp (disch := omega) only [zb_e0, zb_n0, w32_id, w64_id, ne_eq, Classical.not_not] at c_43)
    omega

set_option maxHeartbeats 4000000 in
set_option maxRecDepth 100000 in
theorem c_m_readStep {m : Int} (hM : isMT ty m) {p : Int} {l : List Row} {T : List Int} (hP : MTx h m T) (hT : TxOK T) (hS : RS h m (p + 1) l) (hn : l.length ≤ 510) (hp : 0 ≤ p ∧ p + 1 ≤ T.length) (hl : l ≠ []) (hc : lookT T p = 83) (hqF : ∀ f, rowS T p l = .inl f → 0 ≤ f → ∀ h', FrR m h h' → h' m 4 = f → Q none ty sz h') (hqK : ∀ p' R, rowS T p l = .inr (p', R) → ∀ h', FrR m h h' → RS h' m p' (l ++ [R]) → Q none ty sz h') : zXM D mX7_readStep (d + 4) 0 0 [rV m, iV p] ty sz h Q := by
  have hM0 := hM
  obtain ⟨m9, m0, a1, a2, a3, a4, a5, a6, a7, a8, a9, a10, a11, a12, a13, a14, a15, a16, a17, a18, a19, a20, a21⟩ := hM
  have hT1 := hT.1
  have hS0 := hS
  obtain ⟨s3, s4, s5, s6, s7, s8⟩ := hS
  have hnr := numR_r T (p := p + 1) (by omega) hp.2
  obtain ⟨b, hC⟩ := hS0.cur hl hn
  have hnl := hC.len
  have hn83 := nL_le 83 (curK l)
  have hn69 := nL_le 69 (curK l)
  have hlw : lwL (curK l) = lastW (curK l) := lw_lw _
  have hlr := lastW_rng s8
  refine x_aload_n (pc := 0) dX7_readStep_0 rfl ?_
  refine x_aload_n (pc := 1) dX7_readStep_1 rfl ?_
  refine x_bipush (pc := 2) dX7_readStep_2 (by decide) ?_
  refine x_callV1 (pc := 4) dX7_readStep_4 (k_RX7_113 _ rfl) tmv_X7_count (by assumption) rfl rfl rfl ?_
  refine x_room (d' := d + 2) (by omega) (Nat.le_refl _) (Nat.le_refl _) (c_m_count hM0 (by omega) hC ?_)
  dsimp only [Option.toList, List.cons_append, List.nil_append]
  refine x_bipush (pc := 7) dX7_readStep_7 (by decide) ?_
  refine x_icmp_ge (pc := 9) 16 dX7_readStep_9 rfl (fun c_9 => ?_) (fun c_9 => ?_)
  · (try simp (disch := omega) only [zb_e0, zb_n0, w32_id, w64_id, ne_eq, Classical.not_not] at c_9)
    refine x_iconst (pc := 16) dX7_readStep_16 ?_
    first
    | rw [show (0 : Int) = zb ((nL 83 (curK l) : Int) < 10) from (zb_f (by omega)).symm]
    | rw [show (1 : Int) = zb ((nL 83 (curK l) : Int) < 10) from (zb_t (by omega)).symm]
    refine x_iload_n (pc := 17) dX7_readStep_17 rfl ?_
    refine x_callV2 (pc := 18) dX7_readStep_18 (k_RX7_96 _ rfl) tmv_X7_must (by assumption) rfl rfl rfl ?_
    refine x_room (d' := d) (by omega) (Nat.le_refl _) (Nat.le_refl _) (c_m_must hM0 (P := (nL 83 (curK l) : Int) < 10) (by omega) s4 (by omega) ?_)
    dsimp only [Option.toList, List.cons_append, List.nil_append]
    refine x_if_ne (pc := 21) 25 dX7_readStep_21 rfl (fun c_21 => ?_) (fun c_21 => ?_)
    · (try simp (disch := omega) only [zb_e0, zb_n0, w32_id, w64_id, ne_eq, Classical.not_not] at c_21)
      exfalso
      omega
    · (try simp (disch := omega) only [zb_e0, zb_n0, w32_id, w64_id, ne_eq, Classical.not_not] at c_21)
      --
      rw [mF_n c_21]
      refine x_ret (pc := 24) ⟨dX7_readStep_24, rfl⟩ ?_
      refine hqF p (rowS_n ?_) (by omega) _ (FrR.m h (Or.inr (Or.inl rfl))) (by simp [zup_app])
      rw [hc]
      unfold mayB
      omega
  · (try simp (disch := omega) only [zb_e0, zb_n0, w32_id, w64_id, ne_eq, Classical.not_not] at c_9)
    refine x_iconst (pc := 12) dX7_readStep_12 ?_
    refine x_goto (pc := 13) 17 dX7_readStep_13 rfl ?_
    first
    | rw [show (0 : Int) = zb ((nL 83 (curK l) : Int) < 10) from (zb_f (by omega)).symm]
    | rw [show (1 : Int) = zb ((nL 83 (curK l) : Int) < 10) from (zb_t (by omega)).symm]
    refine x_iload_n (pc := 17) dX7_readStep_17 rfl ?_
    refine x_callV2 (pc := 18) dX7_readStep_18 (k_RX7_96 _ rfl) tmv_X7_must (by assumption) rfl rfl rfl ?_
    refine x_room (d' := d) (by omega) (Nat.le_refl _) (Nat.le_refl _) (c_m_must hM0 (P := (nL 83 (curK l) : Int) < 10) (by omega) s4 (by omega) ?_)
    dsimp only [Option.toList, List.cons_append, List.nil_append]
    refine x_if_ne (pc := 21) 25 dX7_readStep_21 rfl (fun c_21 => ?_) (fun c_21 => ?_)
    · (try simp (disch := omega) only [zb_e0, zb_n0, w32_id, w64_id, ne_eq, Classical.not_not] at c_21)
      --
      rw [mF_t c_21]
      have hmb : mayB l 83 := Or.inr ⟨hl, Or.inl ⟨rfl, by omega⟩⟩
      refine x_aload_n (pc := 25) dX7_readStep_25 rfl ?_
      refine x_aload_n (pc := 26) dX7_readStep_26 rfl ?_
      refine x_callV0 (pc := 27) dX7_readStep_27 (k_RX7_121 _ rfl) tmv_X7_lastWeight (by assumption) rfl rfl rfl ?_
      refine x_room (d' := d + 2) (by omega) (Nat.le_refl _) (Nat.le_refl _) (c_m_lastWeight hM0 hC ?_)
      rw [hlw]
      dsimp only [Option.toList, List.cons_append, List.nil_append]
      refine x_iconst (pc := 30) dX7_readStep_30 ?_
      refine x_iadd (pc := 31) dX7_readStep_31 ?_
      refine x_ldc (pc := 32) dX7_readStep_32 (9999999) tc_RX7_124 (by decide) ?_
      refine x_callV2 (pc := 34) dX7_readStep_34 (k_RX7_100 _ rfl) tmv_X7_number (by assumption) rfl rfl rfl ?_
      refine x_room (d' := d + 2) (by omega) (Nat.le_refl _) (Nat.le_refl _) (c_m_number hM0 hP hT s3 (by omega) s4 (by omega) ?_)
      by_cases hb : ¬ ((numR T (p + 1)).2 ≠ p + 1 ∧ lastW (curK l) + 1 ≤ (numR T (p + 1)).1 ∧ (numR T (p + 1)).1 ≤ 9999999)
      · rw [mF_n hb]
        dsimp only [Option.toList, List.cons_append, List.nil_append]
        have hr := rs_b1 hc hmb (by unfold okN; omega)
        exact x_loc _ (by exact ⟨rfl, rfl, trivial⟩) (c_m_step37 hM0 (by simp [zup_app]; omega) (hqF _ hr (by omega) _ ((FrR.m h (Or.inl rfl)).t (FrR.m _ (Or.inr (Or.inl rfl)))) (by simp [zup_app])))
      replace hb := Classical.not_not.mp hb
      rw [mF_t hb]
      have hb1 : ¬ ((numR T (p + 1)).2 = p + 1 ∨ ¬ okN l 83 0 (numR T (p + 1)).1 0) := by unfold okN; omega
      have hP1 : MTx (zup h m 3 (numR T (p + 1)).2) m T := MTx_up hP (by decide)
      have e3 : zup h m 3 (numR T (p + 1)).2 m 3 = (numR T (p + 1)).2 := by simp [zup_app]
      have e4 : zup h m 3 (numR T (p + 1)).2 m 4 = -1 := by simp [zup_app, s4]
      dsimp only [Option.toList, List.cons_append, List.nil_append]
      refine x_istore_n (pc := 37) dX7_readStep_37 (by decide) ?_
      refine x_aload_n (pc := 38) dX7_readStep_38 rfl ?_
      refine y_getI 4 (pc := 39) dX7_readStep_39 f_RX7_85 (by assumption) rfl (fun b_39 => ?_)
      refine x_iconst (pc := 42) dX7_readStep_42 ?_
      refine x_icmp_ne (pc := 43) 56 dX7_readStep_43 rfl (fun c_43 => ?_) (fun c_43 => ?_)
      · (try simp (disch := omega) only [zb_e0, zb_n0, w32_id, w64_id, ne_eq, Classical.not_not] at c_43)
        exact absurd e4 c_43
      · (try simp (disch := omega) only [zb_e0, zb_n0, w32_id, w64_id, ne_eq, Classical.not_not] at c_43)
        refine x_aload_n (pc := 46) dX7_readStep_46 rfl ?_
        refine x_iconst (pc := 47) dX7_readStep_47 ?_
        refine x_ldc (pc := 48) dX7_readStep_48 (9999999) tc_RX7_124 (by decide) ?_
        refine x_callV2 (pc := 50) dX7_readStep_50 (k_RX7_125 _ rfl) tmv_X7_next (by assumption) rfl rfl rfl ?_
        refine x_room (d' := d + 3) (by omega) (Nat.le_refl _) (Nat.le_refl _) (c_m_next hM0 hP1 hT e3 (by omega) e4 (by omega) (fun hs2 => ?_) (fun hs2 hp2 => ?_))
        · dsimp only [Option.toList, List.cons_append, List.nil_append]
          have hr := rs_s2 hc hmb (by decide) hb1 hs2
          exact x_loc _ (by exact ⟨rfl, rfl, rfl, trivial⟩) (c_m_step53 hM0 (by simp [zup_app]; omega) (hqF _ hr (by omega) _ ((FrR.m h (Or.inl rfl)).t (FrR.m _ (Or.inr (Or.inl rfl)))) (by simp [zup_app])))
        have hnr2 := numR_r T (p := (numR T (p + 1)).2 + 1) (by omega) hp2
        rw [zup_zup, zup_zup]
        by_cases hb2 : ¬ ((numR T ((numR T (p + 1)).2 + 1)).2 ≠ (numR T (p + 1)).2 + 1 ∧ 0 ≤ (numR T ((numR T (p + 1)).2 + 1)).1 ∧ (numR T ((numR T (p + 1)).2 + 1)).1 ≤ 9999999)
        · rw [mF_n hb2]
          dsimp only [Option.toList, List.cons_append, List.nil_append]
          have hr := rs_b2 hc hmb (by decide) hb1 hs2 (by unfold okN; omega)
          exact x_loc _ (by exact ⟨rfl, rfl, rfl, trivial⟩) (c_m_step53 hM0 (by simp [zup_app]; omega) (hqF _ hr (by omega) _ ((FrR.m h (Or.inl rfl)).t (FrR.m _ (Or.inr (Or.inl rfl)))) (by simp [zup_app])))
        replace hb2 := Classical.not_not.mp hb2
        rw [mF_t hb2]
        have hr := rs_k2 hc hmb (by decide) hb1 hs2 (by unfold okN; omega)
        dsimp only [Option.toList, List.cons_append, List.nil_append]
        refine x_goto (pc := 53) 57 dX7_readStep_53 rfl ?_
        refine x_istore_n (pc := 57) dX7_readStep_57 (by decide) ?_
        refine x_aload_n (pc := 58) dX7_readStep_58 rfl ?_
        refine x_bipush (pc := 59) dX7_readStep_59 (by decide) ?_
        refine x_iload_n (pc := 61) dX7_readStep_61 rfl ?_
        refine x_iload_n (pc := 62) dX7_readStep_62 rfl ?_
        refine x_iconst (pc := 63) dX7_readStep_63 ?_
        refine x_callV4 (pc := 64) dX7_readStep_64 (k_RX7_117 _ rfl) tmv_X7_add (by assumption) rfl rfl rfl ?_
        have hg : ∀ x, m + 2 ≤ x → x ≤ m + 6 → zup h m 3 (numR T ((numR T (p + 1)).2 + 1)).2 x = h x := fun x x1 x2 => zup_ne (by omega)
        have hgo := rowS_good hp.1 hr
        refine x_room (d' := d + 2) (by omega) (Nat.le_refl _) (Nat.le_refl _) (c_m_add hM0 (N := (l.length : Int)) (by omega) (by simp [zup_app, s4]) (by rw [hg (m + 6) (by omega) (by omega)]; exact s5) (by omega) ?_)
        have hRA := RS_add (p2 := (numR T ((numR T (p + 1)).2 + 1)).2) (g := zup h m 3 (numR T ((numR T (p + 1)).2 + 1)).2) hS0 hn hgo.1 (FrR.m h (Or.inl rfl)) hg (by simp [zup_app]) (by simp [zup_app, s4]) (by rw [zup_app, if_neg (by omega), if_neg (by decide)])
        dsimp only [Option.toList, List.cons_append, List.nil_append]
        refine x_ret (pc := 67) ⟨dX7_readStep_67, rfl⟩ ?_
        exact hqK _ _ hr _ hRA.1 hRA.2
    · (try simp (disch := omega) only [zb_e0, zb_n0, w32_id, w64_id, ne_eq, Classical.not_not] at c_21)
      exfalso
      omega

theorem x_topc {M : zM} {k n pc : Nat} {L : List (Nat × zV)} {st : List zV} {a b : Int} (e : a = b) (kk : zX D M d k n pc L (iV b :: st) ty sz h Q) : zX D M d k n pc L (iV a :: st) ty sz h Q := by
  rw [e]
  exact kk

set_option maxHeartbeats 4000000 in
set_option maxRecDepth 100000 in
theorem c_m_each57 {m : Int} (hM : isMT ty m) {v u a c e : Int} (h4 : h m 4 ≠ -1) (hq : Q none ty sz h) : zX D mX7_readOnceEach (d + 4) 0 0 57 [(4, iV u), (3, iV a), (0, rV m), (1, iV c), (2, iV e)] [iV v] ty sz h Q := by
  have hM0 := hM
  obtain ⟨m9, m0, a1, a2, a3, a4, a5, a6, a7, a8, a9, a10, a11, a12, a13, a14, a15, a16, a17, a18, a19, a20, a21⟩ := hM
  refine x_goto (pc := 57) 61 dX7_readOnceEach_57 rfl ?_
  refine x_istore (pc := 61) dX7_readOnceEach_61 (by decide) ?_
  refine x_aload_n (pc := 63) dX7_readOnceEach_63 rfl ?_
  refine x_iload_n (pc := 64) dX7_readOnceEach_64 rfl ?_
  refine x_iload (pc := 65) dX7_readOnceEach_65 rfl ?_
  refine x_iload (pc := 67) dX7_readOnceEach_67 rfl ?_
  refine x_iconst (pc := 69) dX7_readOnceEach_69 ?_
  refine x_callV4 (pc := 70) dX7_readOnceEach_70 (k_RX7_117 _ rfl) tmv_X7_add (by assumption) rfl rfl rfl ?_
  refine x_room (d' := d + 2) (by omega) (Nat.le_refl _) (Nat.le_refl _) (c_m_addF hM0 h4 ?_)
  dsimp only [Option.toList, List.cons_append, List.nil_append]
  refine x_ret (pc := 73) ⟨dX7_readOnceEach_73, rfl⟩ ?_
  exact hq

set_option maxHeartbeats 4000000 in
set_option maxRecDepth 100000 in
theorem c_m_each43 {m : Int} (hM : isMT ty m) {u a c e : Int} (h4 : h m 4 ≠ -1) (hq : Q none ty sz h) : zX D mX7_readOnceEach (d + 4) 0 0 43 [(4, iV u), (3, iV a), (0, rV m), (1, iV c), (2, iV e)] [] ty sz h Q := by
  have hM0 := hM
  obtain ⟨m9, m0, a1, a2, a3, a4, a5, a6, a7, a8, a9, a10, a11, a12, a13, a14, a15, a16, a17, a18, a19, a20, a21⟩ := hM
  refine x_aload_n (pc := 43) dX7_readOnceEach_43 rfl ?_
  refine y_getI 4 (pc := 44) dX7_readOnceEach_44 f_RX7_85 (by assumption) rfl (fun b_44 => ?_)
  refine x_iconst (pc := 47) dX7_readOnceEach_47 ?_
  refine x_icmp_ne (pc := 48) 60 dX7_readOnceEach_48 rfl (fun c_48 => ?_) (fun c_48 => ?_)
  · (try simp (disch := omega) only [zb_e0, zb_n0, w32_id, w64_id, ne_eq, Classical.not_not] at c_48)
    refine x_iconst (pc := 60) dX7_readOnceEach_60 ?_
    refine x_istore (pc := 61) dX7_readOnceEach_61 (by decide) ?_
    refine x_aload_n (pc := 63) dX7_readOnceEach_63 rfl ?_
    refine x_iload_n (pc := 64) dX7_readOnceEach_64 rfl ?_
    refine x_iload (pc := 65) dX7_readOnceEach_65 rfl ?_
    refine x_iload (pc := 67) dX7_readOnceEach_67 rfl ?_
    refine x_iconst (pc := 69) dX7_readOnceEach_69 ?_
    refine x_callV4 (pc := 70) dX7_readOnceEach_70 (k_RX7_117 _ rfl) tmv_X7_add (by assumption) rfl rfl rfl ?_
    refine x_room (d' := d + 2) (by omega) (Nat.le_refl _) (Nat.le_refl _) (c_m_addF hM0 h4 ?_)
    dsimp only [Option.toList, List.cons_append, List.nil_append]
    refine x_ret (pc := 73) ⟨dX7_readOnceEach_73, rfl⟩ ?_
    exact hq
  · (try simp (disch := omega) only [zb_e0, zb_n0, w32_id, w64_id, ne_eq, Classical.not_not] at c_48)
    omega

set_option maxHeartbeats 4000000 in
set_option maxRecDepth 100000 in
theorem c_m_each42 {m : Int} (hM : isMT ty m) {z u a c e : Int} (h4 : h m 4 ≠ -1) (hq : Q none ty sz h) : zX D mX7_readOnceEach (d + 4) 0 0 42 [(4, iV u), (3, iV a), (0, rV m), (1, iV c), (2, iV e)] [iV z] ty sz h Q := by
  have hM0 := hM
  obtain ⟨m9, m0, a1, a2, a3, a4, a5, a6, a7, a8, a9, a10, a11, a12, a13, a14, a15, a16, a17, a18, a19, a20, a21⟩ := hM
  refine x_pop (pc := 42) dX7_readOnceEach_42 rfl ?_
  exact c_m_each43 hM0 h4 hq

set_option maxHeartbeats 4000000 in
set_option maxRecDepth 100000 in
theorem c_m_each12 {m : Int} (hM : isMT ty m) {v a c e : Int} (h4 : h m 4 ≠ -1) (hq : Q none ty sz h) : zX D mX7_readOnceEach (d + 4) 0 0 12 [(3, iV a), (0, rV m), (1, iV c), (2, iV e)] [iV v] ty sz h Q := by
  have hM0 := hM
  obtain ⟨m9, m0, a1, a2, a3, a4, a5, a6, a7, a8, a9, a10, a11, a12, a13, a14, a15, a16, a17, a18, a19, a20, a21⟩ := hM
  refine x_istore (pc := 12) dX7_readOnceEach_12 (by decide) ?_
  refine x_aload_n (pc := 14) dX7_readOnceEach_14 rfl ?_
  refine y_getI 4 (pc := 15) dX7_readOnceEach_15 f_RX7_85 (by assumption) rfl (fun b_15 => ?_)
  refine x_iconst (pc := 18) dX7_readOnceEach_18 ?_
  refine x_icmp_ne (pc := 19) 43 dX7_readOnceEach_19 rfl (fun c_19 => ?_) (fun c_19 => ?_)
  · (try simp (disch := omega) only [zb_e0, zb_n0, w32_id, w64_id, ne_eq, Classical.not_not] at c_19)
    exact x_loc _ (by exact ⟨rfl, rfl, rfl, rfl, rfl, trivial⟩) (c_m_each43 hM0 h4 hq)
  · (try simp (disch := omega) only [zb_e0, zb_n0, w32_id, w64_id, ne_eq, Classical.not_not] at c_19)
    omega

set_option maxHeartbeats 4000000 in
set_option maxRecDepth 100000 in
theorem c_m_readEach90 {m : Int} (hM : isMT ty m) {p : Int} {l : List Row} {T : List Int} (hP : MTx h m T) (hT : TxOK T) (hS : RS h m (p + 1) l) (hn : l.length ≤ 510) (hp : 0 ≤ p ∧ p + 1 ≤ T.length) (hl : l ≠ []) (hc : lookT T p = 90) (hqF : ∀ f, rowS T p l = .inl f → 0 ≤ f → ∀ h', FrR m h h' → h' m 4 = f → Q none ty sz h') (hqK : ∀ p' R, rowS T p l = .inr (p', R) → ∀ h', FrR m h h' → RS h' m p' (l ++ [R]) → Q none ty sz h') : zXM D mX7_readOnceEach (d + 4) 0 0 [rV m, iV 90, iV 1000] ty sz h Q := by
  have hM0 := hM
  obtain ⟨m9, m0, a1, a2, a3, a4, a5, a6, a7, a8, a9, a10, a11, a12, a13, a14, a15, a16, a17, a18, a19, a20, a21⟩ := hM
  have hT1 := hT.1
  have hS0 := hS
  obtain ⟨s3, s4, s5, s6, s7, s8⟩ := hS
  have hnr := numR_r T (p := p + 1) (by omega) hp.2
  obtain ⟨b, hC⟩ := hS0.cur hl hn
  have hnl := hC.len
  have hn83 := nL_le 83 (curK l)
  have hn69 := nL_le 69 (curK l)
  have hmb : mayB l 90 := by unfold mayB; simp [hl]
  have hBk := fun r hr => WF_B l s8 r (kR_sub (ck l) l r hr)
  have hex := fun z => lk_ex (c := 90) (z := z) (l := curK l) hBk
  refine x_aload_n (pc := 0) dX7_readOnceEach_0 rfl ?_
  refine y_getI 3 (pc := 1) dX7_readOnceEach_1 f_RX7_82 (by assumption) rfl (fun b_1 => ?_)
  rw [s3]
  refine x_istore_n (pc := 4) dX7_readOnceEach_4 (by decide) ?_
  refine x_aload_n (pc := 5) dX7_readOnceEach_5 rfl ?_
  refine x_iconst (pc := 6) dX7_readOnceEach_6 ?_
  refine x_bipush (pc := 7) dX7_readOnceEach_7 (by decide) ?_
  refine x_callV2 (pc := 9) dX7_readOnceEach_9 (k_RX7_100 _ rfl) tmv_X7_number (by assumption) rfl rfl rfl ?_
  refine x_room (d' := d + 2) (by omega) (Nat.le_refl _) (Nat.le_refl _) (c_m_number hM0 hP hT s3 (by omega) s4 (by omega) ?_)
  by_cases hb : ¬ ((numR T (p + 1)).2 ≠ p + 1 ∧ 0 ≤ (numR T (p + 1)).1 ∧ (numR T (p + 1)).1 ≤ 9)
  · rw [mF_n hb]
    dsimp only [Option.toList, List.cons_append, List.nil_append]
    have hr := rs_b1 hc hmb (by unfold okN; omega)
    exact x_loc _ (by exact ⟨rfl, rfl, rfl, rfl, trivial⟩) (c_m_each12 hM0 (by simp [zup_app]; omega) (hqF _ hr (by omega) _ ((FrR.m h (Or.inl rfl)).t (FrR.m _ (Or.inr (Or.inl rfl)))) (by simp [zup_app])))
  replace hb := Classical.not_not.mp hb
  rw [mF_t hb]
  have hP1 : MTx (zup h m 3 (numR T (p + 1)).2) m T := MTx_up hP (by decide)
  have e3 : zup h m 3 (numR T (p + 1)).2 m 3 = (numR T (p + 1)).2 := by simp [zup_app]
  have e4 : zup h m 3 (numR T (p + 1)).2 m 4 = -1 := by simp [zup_app, s4]
  dsimp only [Option.toList, List.cons_append, List.nil_append]
  refine x_istore (pc := 12) dX7_readOnceEach_12 (by decide) ?_
  refine x_aload_n (pc := 14) dX7_readOnceEach_14 rfl ?_
  refine y_getI 4 (pc := 15) dX7_readOnceEach_15 f_RX7_85 (by assumption) rfl (fun b_15 => ?_)
  refine x_iconst (pc := 18) dX7_readOnceEach_18 ?_
  refine x_icmp_ne (pc := 19) 43 dX7_readOnceEach_19 rfl (fun c_19 => ?_) (fun c_19 => ?_)
  · (try simp (disch := omega) only [zb_e0, zb_n0, w32_id, w64_id, ne_eq, Classical.not_not] at c_19)
    exact absurd e4 c_19
  · (try simp (disch := omega) only [zb_e0, zb_n0, w32_id, w64_id, ne_eq, Classical.not_not] at c_19)
    refine x_aload_n (pc := 22) dX7_readOnceEach_22 rfl ?_
    refine x_aload_n (pc := 23) dX7_readOnceEach_23 rfl ?_
    refine x_iload_n (pc := 24) dX7_readOnceEach_24 rfl ?_
    refine x_iload (pc := 25) dX7_readOnceEach_25 rfl ?_
    refine x_callV2 (pc := 27) dX7_readOnceEach_27 (k_RX7_128 _ rfl) tmv_X7_isThere (by assumption) rfl rfl rfl ?_
    refine x_room (d' := d + 2) (by omega) (Nat.le_refl _) (Nat.le_refl _) (c_m_isThere hM0 (by omega) (hC.up (Or.inl rfl)) ?_)
    dsimp only [Option.toList, List.cons_append, List.nil_append]
    refine x_if_ne (pc := 30) 37 dX7_readOnceEach_30 rfl (fun c_30 => ?_) (fun c_30 => ?_)
    · (try simp (disch := omega) only [zb_e0, zb_n0, w32_id, w64_id, ne_eq, Classical.not_not] at c_30)
      refine x_iconst (pc := 37) dX7_readOnceEach_37 ?_
      refine x_topc (b := zb (¬ exL 90 (numR T (p + 1)).1 (curK l))) (by first | exact (zb_t (by assumption)).symm | exact (zb_f (fun z => z (by assumption))).symm | exact (zb_t (by omega)).symm | exact (zb_f (by omega)).symm) ?_
      refine x_iload_n (pc := 38) dX7_readOnceEach_38 rfl ?_
      refine x_callV2 (pc := 39) dX7_readOnceEach_39 (k_RX7_96 _ rfl) tmv_X7_must (by assumption) rfl rfl rfl ?_
      refine x_room (d' := d) (by omega) (Nat.le_refl _) (Nat.le_refl _) (c_m_must hM0 (by omega) e4 (by omega) ?_)
      by_cases hx : exL 90 (numR T (p + 1)).1 (curK l)
      · rw [mF_n (fun z => z hx)]
        dsimp only [Option.toList, List.cons_append, List.nil_append]
        have hx2 := (hex _).mpr hx
        have hr := rs_b1 hc hmb (by unfold okN; omega)
        exact x_loc _ (by exact ⟨rfl, rfl, rfl, rfl, rfl, trivial⟩) (c_m_each42 hM0 (by simp [zup_app]; omega) (hqF _ hr (by omega) _ ((FrR.m h (Or.inl rfl)).t (FrR.m _ (Or.inr (Or.inl rfl)))) (by simp [zup_app])))
      rw [mF_t hx]
      have hx2 : lk 90 (numR T (p + 1)).1 (curK l) = -1 := Classical.byContradiction (fun z => hx ((hex _).mp z))
      have hb1 : ¬ ((numR T (p + 1)).2 = p + 1 ∨ ¬ okN l 90 0 (numR T (p + 1)).1 0) := by unfold okN; omega
      dsimp only [Option.toList, List.cons_append, List.nil_append]
      refine x_pop (pc := 42) dX7_readOnceEach_42 rfl ?_
      refine x_aload_n (pc := 43) dX7_readOnceEach_43 rfl ?_
      refine y_getI 4 (pc := 44) dX7_readOnceEach_44 f_RX7_85 (by assumption) rfl (fun b_44 => ?_)
      refine x_iconst (pc := 47) dX7_readOnceEach_47 ?_
      refine x_icmp_ne (pc := 48) 60 dX7_readOnceEach_48 rfl (fun c_48 => ?_) (fun c_48 => ?_)
      · (try simp (disch := omega) only [zb_e0, zb_n0, w32_id, w64_id, ne_eq, Classical.not_not] at c_48)
        exact absurd e4 c_48
      · (try simp (disch := omega) only [zb_e0, zb_n0, w32_id, w64_id, ne_eq, Classical.not_not] at c_48)
        refine x_aload_n (pc := 51) dX7_readOnceEach_51 rfl ?_
        refine x_iconst (pc := 52) dX7_readOnceEach_52 ?_
        refine x_iload_n (pc := 53) dX7_readOnceEach_53 rfl ?_
        refine x_callV2 (pc := 54) dX7_readOnceEach_54 (k_RX7_125 _ rfl) tmv_X7_next (by assumption) rfl rfl rfl ?_
        refine x_room (d' := d + 3) (by omega) (Nat.le_refl _) (Nat.le_refl _) (c_m_next hM0 hP1 hT e3 (by omega) e4 (by omega) (fun hs2 => ?_) (fun hs2 hp2 => ?_))
        · dsimp only [Option.toList, List.cons_append, List.nil_append]
          have hr := rs_s2 hc hmb (by decide) hb1 hs2
          exact x_loc _ (by exact ⟨rfl, rfl, rfl, rfl, rfl, trivial⟩) (c_m_each57 hM0 (by simp [zup_app]; omega) (hqF _ hr (by omega) _ ((FrR.m h (Or.inl rfl)).t (FrR.m _ (Or.inr (Or.inl rfl)))) (by simp [zup_app])))
        have hnr2 := numR_r T (p := (numR T (p + 1)).2 + 1) (by omega) hp2
        rw [zup_zup, zup_zup]
        by_cases hb2 : ¬ ((numR T ((numR T (p + 1)).2 + 1)).2 ≠ (numR T (p + 1)).2 + 1 ∧ 0 ≤ (numR T ((numR T (p + 1)).2 + 1)).1 ∧ (numR T ((numR T (p + 1)).2 + 1)).1 ≤ 1000)
        · rw [mF_n hb2]
          dsimp only [Option.toList, List.cons_append, List.nil_append]
          have hr := rs_b2 hc hmb (by decide) hb1 hs2 (by unfold okN; omega)
          exact x_loc _ (by exact ⟨rfl, rfl, rfl, rfl, rfl, trivial⟩) (c_m_each57 hM0 (by simp [zup_app]; omega) (hqF _ hr (by omega) _ ((FrR.m h (Or.inl rfl)).t (FrR.m _ (Or.inr (Or.inl rfl)))) (by simp [zup_app])))
        replace hb2 := Classical.not_not.mp hb2
        rw [mF_t hb2]
        have hr := rs_k2 hc hmb (by decide) hb1 hs2 (by unfold okN; omega)
        dsimp only [Option.toList, List.cons_append, List.nil_append]
        refine x_goto (pc := 57) 61 dX7_readOnceEach_57 rfl ?_
        refine x_istore (pc := 61) dX7_readOnceEach_61 (by decide) ?_
        refine x_aload_n (pc := 63) dX7_readOnceEach_63 rfl ?_
        refine x_iload_n (pc := 64) dX7_readOnceEach_64 rfl ?_
        refine x_iload (pc := 65) dX7_readOnceEach_65 rfl ?_
        refine x_iload (pc := 67) dX7_readOnceEach_67 rfl ?_
        refine x_iconst (pc := 69) dX7_readOnceEach_69 ?_
        refine x_callV4 (pc := 70) dX7_readOnceEach_70 (k_RX7_117 _ rfl) tmv_X7_add (by assumption) rfl rfl rfl ?_
        have hg : ∀ x, m + 2 ≤ x → x ≤ m + 6 → zup h m 3 (numR T ((numR T (p + 1)).2 + 1)).2 x = h x := fun x x1 x2 => zup_ne (by omega)
        have hgo := rowS_good hp.1 hr
        refine x_room (d' := d + 2) (by omega) (Nat.le_refl _) (Nat.le_refl _) (c_m_add hM0 (N := (l.length : Int)) (by omega) (by simp [zup_app, s4]) (by rw [hg (m + 6) (by omega) (by omega)]; exact s5) (by omega) ?_)
        have hRA := RS_add (p2 := (numR T ((numR T (p + 1)).2 + 1)).2) (g := zup h m 3 (numR T ((numR T (p + 1)).2 + 1)).2) hS0 hn hgo.1 (FrR.m h (Or.inl rfl)) hg (by simp [zup_app]) (by simp [zup_app, s4]) (by rw [zup_app, if_neg (by omega), if_neg (by decide)])
        dsimp only [Option.toList, List.cons_append, List.nil_append]
        refine x_ret (pc := 73) ⟨dX7_readOnceEach_73, rfl⟩ ?_
        exact hqK _ _ hr _ hRA.1 hRA.2
    · (try simp (disch := omega) only [zb_e0, zb_n0, w32_id, w64_id, ne_eq, Classical.not_not] at c_30)
      refine x_iconst (pc := 33) dX7_readOnceEach_33 ?_
      refine x_goto (pc := 34) 38 dX7_readOnceEach_34 rfl ?_
      refine x_topc (b := zb (¬ exL 90 (numR T (p + 1)).1 (curK l))) (by first | exact (zb_t (by assumption)).symm | exact (zb_f (fun z => z (by assumption))).symm | exact (zb_t (by omega)).symm | exact (zb_f (by omega)).symm) ?_
      refine x_iload_n (pc := 38) dX7_readOnceEach_38 rfl ?_
      refine x_callV2 (pc := 39) dX7_readOnceEach_39 (k_RX7_96 _ rfl) tmv_X7_must (by assumption) rfl rfl rfl ?_
      refine x_room (d' := d) (by omega) (Nat.le_refl _) (Nat.le_refl _) (c_m_must hM0 (by omega) e4 (by omega) ?_)
      by_cases hx : exL 90 (numR T (p + 1)).1 (curK l)
      · rw [mF_n (fun z => z hx)]
        dsimp only [Option.toList, List.cons_append, List.nil_append]
        have hx2 := (hex _).mpr hx
        have hr := rs_b1 hc hmb (by unfold okN; omega)
        exact x_loc _ (by exact ⟨rfl, rfl, rfl, rfl, rfl, trivial⟩) (c_m_each42 hM0 (by simp [zup_app]; omega) (hqF _ hr (by omega) _ ((FrR.m h (Or.inl rfl)).t (FrR.m _ (Or.inr (Or.inl rfl)))) (by simp [zup_app])))
      rw [mF_t hx]
      have hx2 : lk 90 (numR T (p + 1)).1 (curK l) = -1 := Classical.byContradiction (fun z => hx ((hex _).mp z))
      have hb1 : ¬ ((numR T (p + 1)).2 = p + 1 ∨ ¬ okN l 90 0 (numR T (p + 1)).1 0) := by unfold okN; omega
      dsimp only [Option.toList, List.cons_append, List.nil_append]
      refine x_pop (pc := 42) dX7_readOnceEach_42 rfl ?_
      refine x_aload_n (pc := 43) dX7_readOnceEach_43 rfl ?_
      refine y_getI 4 (pc := 44) dX7_readOnceEach_44 f_RX7_85 (by assumption) rfl (fun b_44 => ?_)
      refine x_iconst (pc := 47) dX7_readOnceEach_47 ?_
      refine x_icmp_ne (pc := 48) 60 dX7_readOnceEach_48 rfl (fun c_48 => ?_) (fun c_48 => ?_)
      · (try simp (disch := omega) only [zb_e0, zb_n0, w32_id, w64_id, ne_eq, Classical.not_not] at c_48)
        exact absurd e4 c_48
      · (try simp (disch := omega) only [zb_e0, zb_n0, w32_id, w64_id, ne_eq, Classical.not_not] at c_48)
        refine x_aload_n (pc := 51) dX7_readOnceEach_51 rfl ?_
        refine x_iconst (pc := 52) dX7_readOnceEach_52 ?_
        refine x_iload_n (pc := 53) dX7_readOnceEach_53 rfl ?_
        refine x_callV2 (pc := 54) dX7_readOnceEach_54 (k_RX7_125 _ rfl) tmv_X7_next (by assumption) rfl rfl rfl ?_
        refine x_room (d' := d + 3) (by omega) (Nat.le_refl _) (Nat.le_refl _) (c_m_next hM0 hP1 hT e3 (by omega) e4 (by omega) (fun hs2 => ?_) (fun hs2 hp2 => ?_))
        · dsimp only [Option.toList, List.cons_append, List.nil_append]
          have hr := rs_s2 hc hmb (by decide) hb1 hs2
          exact x_loc _ (by exact ⟨rfl, rfl, rfl, rfl, rfl, trivial⟩) (c_m_each57 hM0 (by simp [zup_app]; omega) (hqF _ hr (by omega) _ ((FrR.m h (Or.inl rfl)).t (FrR.m _ (Or.inr (Or.inl rfl)))) (by simp [zup_app])))
        have hnr2 := numR_r T (p := (numR T (p + 1)).2 + 1) (by omega) hp2
        rw [zup_zup, zup_zup]
        by_cases hb2 : ¬ ((numR T ((numR T (p + 1)).2 + 1)).2 ≠ (numR T (p + 1)).2 + 1 ∧ 0 ≤ (numR T ((numR T (p + 1)).2 + 1)).1 ∧ (numR T ((numR T (p + 1)).2 + 1)).1 ≤ 1000)
        · rw [mF_n hb2]
          dsimp only [Option.toList, List.cons_append, List.nil_append]
          have hr := rs_b2 hc hmb (by decide) hb1 hs2 (by unfold okN; omega)
          exact x_loc _ (by exact ⟨rfl, rfl, rfl, rfl, rfl, trivial⟩) (c_m_each57 hM0 (by simp [zup_app]; omega) (hqF _ hr (by omega) _ ((FrR.m h (Or.inl rfl)).t (FrR.m _ (Or.inr (Or.inl rfl)))) (by simp [zup_app])))
        replace hb2 := Classical.not_not.mp hb2
        rw [mF_t hb2]
        have hr := rs_k2 hc hmb (by decide) hb1 hs2 (by unfold okN; omega)
        dsimp only [Option.toList, List.cons_append, List.nil_append]
        refine x_goto (pc := 57) 61 dX7_readOnceEach_57 rfl ?_
        refine x_istore (pc := 61) dX7_readOnceEach_61 (by decide) ?_
        refine x_aload_n (pc := 63) dX7_readOnceEach_63 rfl ?_
        refine x_iload_n (pc := 64) dX7_readOnceEach_64 rfl ?_
        refine x_iload (pc := 65) dX7_readOnceEach_65 rfl ?_
        refine x_iload (pc := 67) dX7_readOnceEach_67 rfl ?_
        refine x_iconst (pc := 69) dX7_readOnceEach_69 ?_
        refine x_callV4 (pc := 70) dX7_readOnceEach_70 (k_RX7_117 _ rfl) tmv_X7_add (by assumption) rfl rfl rfl ?_
        have hg : ∀ x, m + 2 ≤ x → x ≤ m + 6 → zup h m 3 (numR T ((numR T (p + 1)).2 + 1)).2 x = h x := fun x x1 x2 => zup_ne (by omega)
        have hgo := rowS_good hp.1 hr
        refine x_room (d' := d + 2) (by omega) (Nat.le_refl _) (Nat.le_refl _) (c_m_add hM0 (N := (l.length : Int)) (by omega) (by simp [zup_app, s4]) (by rw [hg (m + 6) (by omega) (by omega)]; exact s5) (by omega) ?_)
        have hRA := RS_add (p2 := (numR T ((numR T (p + 1)).2 + 1)).2) (g := zup h m 3 (numR T ((numR T (p + 1)).2 + 1)).2) hS0 hn hgo.1 (FrR.m h (Or.inl rfl)) hg (by simp [zup_app]) (by simp [zup_app, s4]) (by rw [zup_app, if_neg (by omega), if_neg (by decide)])
        dsimp only [Option.toList, List.cons_append, List.nil_append]
        refine x_ret (pc := 73) ⟨dX7_readOnceEach_73, rfl⟩ ?_
        exact hqK _ _ hr _ hRA.1 hRA.2

set_option maxHeartbeats 4000000 in
set_option maxRecDepth 100000 in
theorem c_m_readEach88 {m : Int} (hM : isMT ty m) {p : Int} {l : List Row} {T : List Int} (hP : MTx h m T) (hT : TxOK T) (hS : RS h m (p + 1) l) (hn : l.length ≤ 510) (hp : 0 ≤ p ∧ p + 1 ≤ T.length) (hl : l ≠ []) (hc : lookT T p = 88) (hqF : ∀ f, rowS T p l = .inl f → 0 ≤ f → ∀ h', FrR m h h' → h' m 4 = f → Q none ty sz h') (hqK : ∀ p' R, rowS T p l = .inr (p', R) → ∀ h', FrR m h h' → RS h' m p' (l ++ [R]) → Q none ty sz h') : zXM D mX7_readOnceEach (d + 4) 0 0 [rV m, iV 88, iV 9999999] ty sz h Q := by
  have hM0 := hM
  obtain ⟨m9, m0, a1, a2, a3, a4, a5, a6, a7, a8, a9, a10, a11, a12, a13, a14, a15, a16, a17, a18, a19, a20, a21⟩ := hM
  have hT1 := hT.1
  have hS0 := hS
  obtain ⟨s3, s4, s5, s6, s7, s8⟩ := hS
  have hnr := numR_r T (p := p + 1) (by omega) hp.2
  obtain ⟨b, hC⟩ := hS0.cur hl hn
  have hnl := hC.len
  have hn83 := nL_le 83 (curK l)
  have hn69 := nL_le 69 (curK l)
  have hmb : mayB l 88 := by unfold mayB; simp [hl]
  have hBk := fun r hr => WF_B l s8 r (kR_sub (ck l) l r hr)
  have hex := fun z => lk_ex (c := 88) (z := z) (l := curK l) hBk
  refine x_aload_n (pc := 0) dX7_readOnceEach_0 rfl ?_
  refine y_getI 3 (pc := 1) dX7_readOnceEach_1 f_RX7_82 (by assumption) rfl (fun b_1 => ?_)
  rw [s3]
  refine x_istore_n (pc := 4) dX7_readOnceEach_4 (by decide) ?_
  refine x_aload_n (pc := 5) dX7_readOnceEach_5 rfl ?_
  refine x_iconst (pc := 6) dX7_readOnceEach_6 ?_
  refine x_bipush (pc := 7) dX7_readOnceEach_7 (by decide) ?_
  refine x_callV2 (pc := 9) dX7_readOnceEach_9 (k_RX7_100 _ rfl) tmv_X7_number (by assumption) rfl rfl rfl ?_
  refine x_room (d' := d + 2) (by omega) (Nat.le_refl _) (Nat.le_refl _) (c_m_number hM0 hP hT s3 (by omega) s4 (by omega) ?_)
  by_cases hb : ¬ ((numR T (p + 1)).2 ≠ p + 1 ∧ 0 ≤ (numR T (p + 1)).1 ∧ (numR T (p + 1)).1 ≤ 9)
  · rw [mF_n hb]
    dsimp only [Option.toList, List.cons_append, List.nil_append]
    have hr := rs_b1 hc hmb (by unfold okN; omega)
    exact x_loc _ (by exact ⟨rfl, rfl, rfl, rfl, trivial⟩) (c_m_each12 hM0 (by simp [zup_app]; omega) (hqF _ hr (by omega) _ ((FrR.m h (Or.inl rfl)).t (FrR.m _ (Or.inr (Or.inl rfl)))) (by simp [zup_app])))
  replace hb := Classical.not_not.mp hb
  rw [mF_t hb]
  have hP1 : MTx (zup h m 3 (numR T (p + 1)).2) m T := MTx_up hP (by decide)
  have e3 : zup h m 3 (numR T (p + 1)).2 m 3 = (numR T (p + 1)).2 := by simp [zup_app]
  have e4 : zup h m 3 (numR T (p + 1)).2 m 4 = -1 := by simp [zup_app, s4]
  dsimp only [Option.toList, List.cons_append, List.nil_append]
  refine x_istore (pc := 12) dX7_readOnceEach_12 (by decide) ?_
  refine x_aload_n (pc := 14) dX7_readOnceEach_14 rfl ?_
  refine y_getI 4 (pc := 15) dX7_readOnceEach_15 f_RX7_85 (by assumption) rfl (fun b_15 => ?_)
  refine x_iconst (pc := 18) dX7_readOnceEach_18 ?_
  refine x_icmp_ne (pc := 19) 43 dX7_readOnceEach_19 rfl (fun c_19 => ?_) (fun c_19 => ?_)
  · (try simp (disch := omega) only [zb_e0, zb_n0, w32_id, w64_id, ne_eq, Classical.not_not] at c_19)
    exact absurd e4 c_19
  · (try simp (disch := omega) only [zb_e0, zb_n0, w32_id, w64_id, ne_eq, Classical.not_not] at c_19)
    refine x_aload_n (pc := 22) dX7_readOnceEach_22 rfl ?_
    refine x_aload_n (pc := 23) dX7_readOnceEach_23 rfl ?_
    refine x_iload_n (pc := 24) dX7_readOnceEach_24 rfl ?_
    refine x_iload (pc := 25) dX7_readOnceEach_25 rfl ?_
    refine x_callV2 (pc := 27) dX7_readOnceEach_27 (k_RX7_128 _ rfl) tmv_X7_isThere (by assumption) rfl rfl rfl ?_
    refine x_room (d' := d + 2) (by omega) (Nat.le_refl _) (Nat.le_refl _) (c_m_isThere hM0 (by omega) (hC.up (Or.inl rfl)) ?_)
    dsimp only [Option.toList, List.cons_append, List.nil_append]
    refine x_if_ne (pc := 30) 37 dX7_readOnceEach_30 rfl (fun c_30 => ?_) (fun c_30 => ?_)
    · (try simp (disch := omega) only [zb_e0, zb_n0, w32_id, w64_id, ne_eq, Classical.not_not] at c_30)
      refine x_iconst (pc := 37) dX7_readOnceEach_37 ?_
      refine x_topc (b := zb (¬ exL 88 (numR T (p + 1)).1 (curK l))) (by first | exact (zb_t (by assumption)).symm | exact (zb_f (fun z => z (by assumption))).symm | exact (zb_t (by omega)).symm | exact (zb_f (by omega)).symm) ?_
      refine x_iload_n (pc := 38) dX7_readOnceEach_38 rfl ?_
      refine x_callV2 (pc := 39) dX7_readOnceEach_39 (k_RX7_96 _ rfl) tmv_X7_must (by assumption) rfl rfl rfl ?_
      refine x_room (d' := d) (by omega) (Nat.le_refl _) (Nat.le_refl _) (c_m_must hM0 (by omega) e4 (by omega) ?_)
      by_cases hx : exL 88 (numR T (p + 1)).1 (curK l)
      · rw [mF_n (fun z => z hx)]
        dsimp only [Option.toList, List.cons_append, List.nil_append]
        have hx2 := (hex _).mpr hx
        have hr := rs_b1 hc hmb (by unfold okN; omega)
        exact x_loc _ (by exact ⟨rfl, rfl, rfl, rfl, rfl, trivial⟩) (c_m_each42 hM0 (by simp [zup_app]; omega) (hqF _ hr (by omega) _ ((FrR.m h (Or.inl rfl)).t (FrR.m _ (Or.inr (Or.inl rfl)))) (by simp [zup_app])))
      rw [mF_t hx]
      have hx2 : lk 88 (numR T (p + 1)).1 (curK l) = -1 := Classical.byContradiction (fun z => hx ((hex _).mp z))
      have hb1 : ¬ ((numR T (p + 1)).2 = p + 1 ∨ ¬ okN l 88 0 (numR T (p + 1)).1 0) := by unfold okN; omega
      dsimp only [Option.toList, List.cons_append, List.nil_append]
      refine x_pop (pc := 42) dX7_readOnceEach_42 rfl ?_
      refine x_aload_n (pc := 43) dX7_readOnceEach_43 rfl ?_
      refine y_getI 4 (pc := 44) dX7_readOnceEach_44 f_RX7_85 (by assumption) rfl (fun b_44 => ?_)
      refine x_iconst (pc := 47) dX7_readOnceEach_47 ?_
      refine x_icmp_ne (pc := 48) 60 dX7_readOnceEach_48 rfl (fun c_48 => ?_) (fun c_48 => ?_)
      · (try simp (disch := omega) only [zb_e0, zb_n0, w32_id, w64_id, ne_eq, Classical.not_not] at c_48)
        exact absurd e4 c_48
      · (try simp (disch := omega) only [zb_e0, zb_n0, w32_id, w64_id, ne_eq, Classical.not_not] at c_48)
        refine x_aload_n (pc := 51) dX7_readOnceEach_51 rfl ?_
        refine x_iconst (pc := 52) dX7_readOnceEach_52 ?_
        refine x_iload_n (pc := 53) dX7_readOnceEach_53 rfl ?_
        refine x_callV2 (pc := 54) dX7_readOnceEach_54 (k_RX7_125 _ rfl) tmv_X7_next (by assumption) rfl rfl rfl ?_
        refine x_room (d' := d + 3) (by omega) (Nat.le_refl _) (Nat.le_refl _) (c_m_next hM0 hP1 hT e3 (by omega) e4 (by omega) (fun hs2 => ?_) (fun hs2 hp2 => ?_))
        · dsimp only [Option.toList, List.cons_append, List.nil_append]
          have hr := rs_s2 hc hmb (by decide) hb1 hs2
          exact x_loc _ (by exact ⟨rfl, rfl, rfl, rfl, rfl, trivial⟩) (c_m_each57 hM0 (by simp [zup_app]; omega) (hqF _ hr (by omega) _ ((FrR.m h (Or.inl rfl)).t (FrR.m _ (Or.inr (Or.inl rfl)))) (by simp [zup_app])))
        have hnr2 := numR_r T (p := (numR T (p + 1)).2 + 1) (by omega) hp2
        rw [zup_zup, zup_zup]
        by_cases hb2 : ¬ ((numR T ((numR T (p + 1)).2 + 1)).2 ≠ (numR T (p + 1)).2 + 1 ∧ 0 ≤ (numR T ((numR T (p + 1)).2 + 1)).1 ∧ (numR T ((numR T (p + 1)).2 + 1)).1 ≤ 9999999)
        · rw [mF_n hb2]
          dsimp only [Option.toList, List.cons_append, List.nil_append]
          have hr := rs_b2 hc hmb (by decide) hb1 hs2 (by unfold okN; omega)
          exact x_loc _ (by exact ⟨rfl, rfl, rfl, rfl, rfl, trivial⟩) (c_m_each57 hM0 (by simp [zup_app]; omega) (hqF _ hr (by omega) _ ((FrR.m h (Or.inl rfl)).t (FrR.m _ (Or.inr (Or.inl rfl)))) (by simp [zup_app])))
        replace hb2 := Classical.not_not.mp hb2
        rw [mF_t hb2]
        have hr := rs_k2 hc hmb (by decide) hb1 hs2 (by unfold okN; omega)
        dsimp only [Option.toList, List.cons_append, List.nil_append]
        refine x_goto (pc := 57) 61 dX7_readOnceEach_57 rfl ?_
        refine x_istore (pc := 61) dX7_readOnceEach_61 (by decide) ?_
        refine x_aload_n (pc := 63) dX7_readOnceEach_63 rfl ?_
        refine x_iload_n (pc := 64) dX7_readOnceEach_64 rfl ?_
        refine x_iload (pc := 65) dX7_readOnceEach_65 rfl ?_
        refine x_iload (pc := 67) dX7_readOnceEach_67 rfl ?_
        refine x_iconst (pc := 69) dX7_readOnceEach_69 ?_
        refine x_callV4 (pc := 70) dX7_readOnceEach_70 (k_RX7_117 _ rfl) tmv_X7_add (by assumption) rfl rfl rfl ?_
        have hg : ∀ x, m + 2 ≤ x → x ≤ m + 6 → zup h m 3 (numR T ((numR T (p + 1)).2 + 1)).2 x = h x := fun x x1 x2 => zup_ne (by omega)
        have hgo := rowS_good hp.1 hr
        refine x_room (d' := d + 2) (by omega) (Nat.le_refl _) (Nat.le_refl _) (c_m_add hM0 (N := (l.length : Int)) (by omega) (by simp [zup_app, s4]) (by rw [hg (m + 6) (by omega) (by omega)]; exact s5) (by omega) ?_)
        have hRA := RS_add (p2 := (numR T ((numR T (p + 1)).2 + 1)).2) (g := zup h m 3 (numR T ((numR T (p + 1)).2 + 1)).2) hS0 hn hgo.1 (FrR.m h (Or.inl rfl)) hg (by simp [zup_app]) (by simp [zup_app, s4]) (by rw [zup_app, if_neg (by omega), if_neg (by decide)])
        dsimp only [Option.toList, List.cons_append, List.nil_append]
        refine x_ret (pc := 73) ⟨dX7_readOnceEach_73, rfl⟩ ?_
        exact hqK _ _ hr _ hRA.1 hRA.2
    · (try simp (disch := omega) only [zb_e0, zb_n0, w32_id, w64_id, ne_eq, Classical.not_not] at c_30)
      refine x_iconst (pc := 33) dX7_readOnceEach_33 ?_
      refine x_goto (pc := 34) 38 dX7_readOnceEach_34 rfl ?_
      refine x_topc (b := zb (¬ exL 88 (numR T (p + 1)).1 (curK l))) (by first | exact (zb_t (by assumption)).symm | exact (zb_f (fun z => z (by assumption))).symm | exact (zb_t (by omega)).symm | exact (zb_f (by omega)).symm) ?_
      refine x_iload_n (pc := 38) dX7_readOnceEach_38 rfl ?_
      refine x_callV2 (pc := 39) dX7_readOnceEach_39 (k_RX7_96 _ rfl) tmv_X7_must (by assumption) rfl rfl rfl ?_
      refine x_room (d' := d) (by omega) (Nat.le_refl _) (Nat.le_refl _) (c_m_must hM0 (by omega) e4 (by omega) ?_)
      by_cases hx : exL 88 (numR T (p + 1)).1 (curK l)
      · rw [mF_n (fun z => z hx)]
        dsimp only [Option.toList, List.cons_append, List.nil_append]
        have hx2 := (hex _).mpr hx
        have hr := rs_b1 hc hmb (by unfold okN; omega)
        exact x_loc _ (by exact ⟨rfl, rfl, rfl, rfl, rfl, trivial⟩) (c_m_each42 hM0 (by simp [zup_app]; omega) (hqF _ hr (by omega) _ ((FrR.m h (Or.inl rfl)).t (FrR.m _ (Or.inr (Or.inl rfl)))) (by simp [zup_app])))
      rw [mF_t hx]
      have hx2 : lk 88 (numR T (p + 1)).1 (curK l) = -1 := Classical.byContradiction (fun z => hx ((hex _).mp z))
      have hb1 : ¬ ((numR T (p + 1)).2 = p + 1 ∨ ¬ okN l 88 0 (numR T (p + 1)).1 0) := by unfold okN; omega
      dsimp only [Option.toList, List.cons_append, List.nil_append]
      refine x_pop (pc := 42) dX7_readOnceEach_42 rfl ?_
      refine x_aload_n (pc := 43) dX7_readOnceEach_43 rfl ?_
      refine y_getI 4 (pc := 44) dX7_readOnceEach_44 f_RX7_85 (by assumption) rfl (fun b_44 => ?_)
      refine x_iconst (pc := 47) dX7_readOnceEach_47 ?_
      refine x_icmp_ne (pc := 48) 60 dX7_readOnceEach_48 rfl (fun c_48 => ?_) (fun c_48 => ?_)
      · (try simp (disch := omega) only [zb_e0, zb_n0, w32_id, w64_id, ne_eq, Classical.not_not] at c_48)
        exact absurd e4 c_48
      · (try simp (disch := omega) only [zb_e0, zb_n0, w32_id, w64_id, ne_eq, Classical.not_not] at c_48)
        refine x_aload_n (pc := 51) dX7_readOnceEach_51 rfl ?_
        refine x_iconst (pc := 52) dX7_readOnceEach_52 ?_
        refine x_iload_n (pc := 53) dX7_readOnceEach_53 rfl ?_
        refine x_callV2 (pc := 54) dX7_readOnceEach_54 (k_RX7_125 _ rfl) tmv_X7_next (by assumption) rfl rfl rfl ?_
        refine x_room (d' := d + 3) (by omega) (Nat.le_refl _) (Nat.le_refl _) (c_m_next hM0 hP1 hT e3 (by omega) e4 (by omega) (fun hs2 => ?_) (fun hs2 hp2 => ?_))
        · dsimp only [Option.toList, List.cons_append, List.nil_append]
          have hr := rs_s2 hc hmb (by decide) hb1 hs2
          exact x_loc _ (by exact ⟨rfl, rfl, rfl, rfl, rfl, trivial⟩) (c_m_each57 hM0 (by simp [zup_app]; omega) (hqF _ hr (by omega) _ ((FrR.m h (Or.inl rfl)).t (FrR.m _ (Or.inr (Or.inl rfl)))) (by simp [zup_app])))
        have hnr2 := numR_r T (p := (numR T (p + 1)).2 + 1) (by omega) hp2
        rw [zup_zup, zup_zup]
        by_cases hb2 : ¬ ((numR T ((numR T (p + 1)).2 + 1)).2 ≠ (numR T (p + 1)).2 + 1 ∧ 0 ≤ (numR T ((numR T (p + 1)).2 + 1)).1 ∧ (numR T ((numR T (p + 1)).2 + 1)).1 ≤ 9999999)
        · rw [mF_n hb2]
          dsimp only [Option.toList, List.cons_append, List.nil_append]
          have hr := rs_b2 hc hmb (by decide) hb1 hs2 (by unfold okN; omega)
          exact x_loc _ (by exact ⟨rfl, rfl, rfl, rfl, rfl, trivial⟩) (c_m_each57 hM0 (by simp [zup_app]; omega) (hqF _ hr (by omega) _ ((FrR.m h (Or.inl rfl)).t (FrR.m _ (Or.inr (Or.inl rfl)))) (by simp [zup_app])))
        replace hb2 := Classical.not_not.mp hb2
        rw [mF_t hb2]
        have hr := rs_k2 hc hmb (by decide) hb1 hs2 (by unfold okN; omega)
        dsimp only [Option.toList, List.cons_append, List.nil_append]
        refine x_goto (pc := 57) 61 dX7_readOnceEach_57 rfl ?_
        refine x_istore (pc := 61) dX7_readOnceEach_61 (by decide) ?_
        refine x_aload_n (pc := 63) dX7_readOnceEach_63 rfl ?_
        refine x_iload_n (pc := 64) dX7_readOnceEach_64 rfl ?_
        refine x_iload (pc := 65) dX7_readOnceEach_65 rfl ?_
        refine x_iload (pc := 67) dX7_readOnceEach_67 rfl ?_
        refine x_iconst (pc := 69) dX7_readOnceEach_69 ?_
        refine x_callV4 (pc := 70) dX7_readOnceEach_70 (k_RX7_117 _ rfl) tmv_X7_add (by assumption) rfl rfl rfl ?_
        have hg : ∀ x, m + 2 ≤ x → x ≤ m + 6 → zup h m 3 (numR T ((numR T (p + 1)).2 + 1)).2 x = h x := fun x x1 x2 => zup_ne (by omega)
        have hgo := rowS_good hp.1 hr
        refine x_room (d' := d + 2) (by omega) (Nat.le_refl _) (Nat.le_refl _) (c_m_add hM0 (N := (l.length : Int)) (by omega) (by simp [zup_app, s4]) (by rw [hg (m + 6) (by omega) (by omega)]; exact s5) (by omega) ?_)
        have hRA := RS_add (p2 := (numR T ((numR T (p + 1)).2 + 1)).2) (g := zup h m 3 (numR T ((numR T (p + 1)).2 + 1)).2) hS0 hn hgo.1 (FrR.m h (Or.inl rfl)) hg (by simp [zup_app]) (by simp [zup_app, s4]) (by rw [zup_app, if_neg (by omega), if_neg (by decide)])
        dsimp only [Option.toList, List.cons_append, List.nil_append]
        refine x_ret (pc := 73) ⟨dX7_readOnceEach_73, rfl⟩ ?_
        exact hqK _ _ hr _ hRA.1 hRA.2

set_option maxHeartbeats 4000000 in
set_option maxRecDepth 100000 in
theorem c_m_apart134 {m : Int} (hM : isMT ty m) {z y e u a c : Int} (h4 : h m 4 ≠ -1) (hq : Q none ty sz h) : zX D mX7_readApart (d + 4) 0 0 134 [(5, iV y), (4, iV e), (3, iV u), (2, iV a), (0, rV m), (1, iV c)] [iV z] ty sz h Q := by
  have hM0 := hM
  obtain ⟨m9, m0, a1, a2, a3, a4, a5, a6, a7, a8, a9, a10, a11, a12, a13, a14, a15, a16, a17, a18, a19, a20, a21⟩ := hM
  refine x_pop (pc := 134) dX7_readApart_134 rfl ?_
  refine x_aload_n (pc := 135) dX7_readApart_135 rfl ?_
  refine x_bipush (pc := 136) dX7_readApart_136 (by decide) ?_
  refine x_iload_n (pc := 138) dX7_readApart_138 rfl ?_
  refine x_iload (pc := 139) dX7_readApart_139 rfl ?_
  refine x_iconst (pc := 141) dX7_readApart_141 ?_
  refine x_callV4 (pc := 142) dX7_readApart_142 (k_RX7_117 _ rfl) tmv_X7_add (by assumption) rfl rfl rfl ?_
  refine x_room (d' := d + 2) (by omega) (Nat.le_refl _) (Nat.le_refl _) (c_m_addF hM0 h4 ?_)
  dsimp only [Option.toList, List.cons_append, List.nil_append]
  refine x_ret (pc := 145) ⟨dX7_readApart_145, rfl⟩ ?_
  exact hq

set_option maxHeartbeats 4000000 in
set_option maxRecDepth 100000 in
theorem c_m_apart82 {m : Int} (hM : isMT ty m) {v e u a c : Int} (h4 : h m 4 ≠ -1) (hq : Q none ty sz h) : zX D mX7_readApart (d + 4) 0 0 82 [(4, iV e), (3, iV u), (2, iV a), (0, rV m), (1, iV c)] [iV v] ty sz h Q := by
  have hM0 := hM
  obtain ⟨m9, m0, a1, a2, a3, a4, a5, a6, a7, a8, a9, a10, a11, a12, a13, a14, a15, a16, a17, a18, a19, a20, a21⟩ := hM
  refine x_goto (pc := 82) 86 dX7_readApart_82 rfl ?_
  refine x_istore (pc := 86) dX7_readApart_86 (by decide) ?_
  refine x_aload_n (pc := 88) dX7_readApart_88 rfl ?_
  refine y_getI 4 (pc := 89) dX7_readApart_89 f_RX7_85 (by assumption) rfl (fun b_89 => ?_)
  refine x_iconst (pc := 92) dX7_readApart_92 ?_
  refine x_icmp_ne (pc := 93) 135 dX7_readApart_93 rfl (fun c_93 => ?_) (fun c_93 => ?_)
  · (try simp (disch := omega) only [zb_e0, zb_n0, w32_id, w64_id, ne_eq, Classical.not_not] at c_93)
    refine x_aload_n (pc := 135) dX7_readApart_135 rfl ?_
    refine x_bipush (pc := 136) dX7_readApart_136 (by decide) ?_
    refine x_iload_n (pc := 138) dX7_readApart_138 rfl ?_
    refine x_iload (pc := 139) dX7_readApart_139 rfl ?_
    refine x_iconst (pc := 141) dX7_readApart_141 ?_
    refine x_callV4 (pc := 142) dX7_readApart_142 (k_RX7_117 _ rfl) tmv_X7_add (by assumption) rfl rfl rfl ?_
    refine x_room (d' := d + 2) (by omega) (Nat.le_refl _) (Nat.le_refl _) (c_m_addF hM0 h4 ?_)
    dsimp only [Option.toList, List.cons_append, List.nil_append]
    refine x_ret (pc := 145) ⟨dX7_readApart_145, rfl⟩ ?_
    exact hq
  · (try simp (disch := omega) only [zb_e0, zb_n0, w32_id, w64_id, ne_eq, Classical.not_not] at c_93)
    omega

set_option maxHeartbeats 4000000 in
set_option maxRecDepth 100000 in
theorem c_m_apart59 {m : Int} (hM : isMT ty m) {u a c : Int} (h4 : h m 4 ≠ -1) (hq : Q none ty sz h) : zX D mX7_readApart (d + 4) 0 0 59 [(3, iV u), (2, iV a), (0, rV m), (1, iV c)] [] ty sz h Q := by
  have hM0 := hM
  obtain ⟨m9, m0, a1, a2, a3, a4, a5, a6, a7, a8, a9, a10, a11, a12, a13, a14, a15, a16, a17, a18, a19, a20, a21⟩ := hM
  refine x_aload_n (pc := 59) dX7_readApart_59 rfl ?_
  refine y_getI 3 (pc := 60) dX7_readApart_60 f_RX7_82 (by assumption) rfl (fun b_60 => ?_)
  refine x_iconst (pc := 63) dX7_readApart_63 ?_
  refine x_iadd (pc := 64) dX7_readApart_64 ?_
  refine x_istore (pc := 65) dX7_readApart_65 (by decide) ?_
  refine x_aload_n (pc := 67) dX7_readApart_67 rfl ?_
  refine y_getI 4 (pc := 68) dX7_readApart_68 f_RX7_85 (by assumption) rfl (fun b_68 => ?_)
  refine x_iconst (pc := 71) dX7_readApart_71 ?_
  refine x_icmp_ne (pc := 72) 85 dX7_readApart_72 rfl (fun c_72 => ?_) (fun c_72 => ?_)
  · (try simp (disch := omega) only [zb_e0, zb_n0, w32_id, w64_id, ne_eq, Classical.not_not] at c_72)
    refine x_iconst (pc := 85) dX7_readApart_85 ?_
    refine x_istore (pc := 86) dX7_readApart_86 (by decide) ?_
    refine x_aload_n (pc := 88) dX7_readApart_88 rfl ?_
    refine y_getI 4 (pc := 89) dX7_readApart_89 f_RX7_85 (by assumption) rfl (fun b_89 => ?_)
    refine x_iconst (pc := 92) dX7_readApart_92 ?_
    refine x_icmp_ne (pc := 93) 135 dX7_readApart_93 rfl (fun c_93 => ?_) (fun c_93 => ?_)
    · (try simp (disch := omega) only [zb_e0, zb_n0, w32_id, w64_id, ne_eq, Classical.not_not] at c_93)
      refine x_aload_n (pc := 135) dX7_readApart_135 rfl ?_
      refine x_bipush (pc := 136) dX7_readApart_136 (by decide) ?_
      refine x_iload_n (pc := 138) dX7_readApart_138 rfl ?_
      refine x_iload (pc := 139) dX7_readApart_139 rfl ?_
      refine x_iconst (pc := 141) dX7_readApart_141 ?_
      refine x_callV4 (pc := 142) dX7_readApart_142 (k_RX7_117 _ rfl) tmv_X7_add (by assumption) rfl rfl rfl ?_
      refine x_room (d' := d + 2) (by omega) (Nat.le_refl _) (Nat.le_refl _) (c_m_addF hM0 h4 ?_)
      dsimp only [Option.toList, List.cons_append, List.nil_append]
      refine x_ret (pc := 145) ⟨dX7_readApart_145, rfl⟩ ?_
      exact hq
    · (try simp (disch := omega) only [zb_e0, zb_n0, w32_id, w64_id, ne_eq, Classical.not_not] at c_93)
      omega
  · (try simp (disch := omega) only [zb_e0, zb_n0, w32_id, w64_id, ne_eq, Classical.not_not] at c_72)
    omega

set_option maxHeartbeats 4000000 in
set_option maxRecDepth 100000 in
theorem c_m_apart58 {m : Int} (hM : isMT ty m) {z u a c : Int} (h4 : h m 4 ≠ -1) (hq : Q none ty sz h) : zX D mX7_readApart (d + 4) 0 0 58 [(3, iV u), (2, iV a), (0, rV m), (1, iV c)] [iV z] ty sz h Q := by
  have hM0 := hM
  obtain ⟨m9, m0, a1, a2, a3, a4, a5, a6, a7, a8, a9, a10, a11, a12, a13, a14, a15, a16, a17, a18, a19, a20, a21⟩ := hM
  refine x_pop (pc := 58) dX7_readApart_58 rfl ?_
  exact c_m_apart59 hM0 h4 hq

set_option maxHeartbeats 4000000 in
set_option maxRecDepth 100000 in
theorem c_m_apart37 {m : Int} (hM : isMT ty m) {v a c : Int} (h4 : h m 4 ≠ -1) (hq : Q none ty sz h) : zX D mX7_readApart (d + 4) 0 0 37 [(2, iV a), (0, rV m), (1, iV c)] [iV v] ty sz h Q := by
  have hM0 := hM
  obtain ⟨m9, m0, a1, a2, a3, a4, a5, a6, a7, a8, a9, a10, a11, a12, a13, a14, a15, a16, a17, a18, a19, a20, a21⟩ := hM
  refine x_istore_n (pc := 37) dX7_readApart_37 (by decide) ?_
  refine x_aload_n (pc := 38) dX7_readApart_38 rfl ?_
  refine y_getI 4 (pc := 39) dX7_readApart_39 f_RX7_85 (by assumption) rfl (fun b_39 => ?_)
  refine x_iconst (pc := 42) dX7_readApart_42 ?_
  refine x_icmp_ne (pc := 43) 59 dX7_readApart_43 rfl (fun c_43 => ?_) (fun c_43 => ?_)
  · (try simp (disch := omega) only [zb_e0, zb_n0, w32_id, w64_id, ne_eq, Classical.not_not] at c_43)
    exact x_loc _ (by exact ⟨rfl, rfl, rfl, rfl, trivial⟩) (c_m_apart59 hM0 h4 hq)
  · (try simp (disch := omega) only [zb_e0, zb_n0, w32_id, w64_id, ne_eq, Classical.not_not] at c_43)
    omega

set_option maxHeartbeats 4000000 in
set_option maxRecDepth 100000 in
theorem c_m_readApart {m : Int} (hM : isMT ty m) {p : Int} {l : List Row} {T : List Int} (hP : MTx h m T) (hT : TxOK T) (hS : RS h m (p + 1) l) (hn : l.length ≤ 510) (hp : 0 ≤ p ∧ p + 1 ≤ T.length) (hl : l ≠ []) (hc : lookT T p = 69) (hqF : ∀ f, rowS T p l = .inl f → 0 ≤ f → ∀ h', FrR m h h' → h' m 4 = f → Q none ty sz h') (hqK : ∀ p' R, rowS T p l = .inr (p', R) → ∀ h', FrR m h h' → RS h' m p' (l ++ [R]) → Q none ty sz h') : zXM D mX7_readApart (d + 4) 0 0 [rV m, iV p] ty sz h Q := by
  have hM0 := hM
  obtain ⟨m9, m0, a1, a2, a3, a4, a5, a6, a7, a8, a9, a10, a11, a12, a13, a14, a15, a16, a17, a18, a19, a20, a21⟩ := hM
  have hT1 := hT.1
  have hS0 := hS
  obtain ⟨s3, s4, s5, s6, s7, s8⟩ := hS
  have hnr := numR_r T (p := p + 1) (by omega) hp.2
  obtain ⟨b, hC⟩ := hS0.cur hl hn
  have hnl := hC.len
  have hn83 := nL_le 83 (curK l)
  have hn69 := nL_le 69 (curK l)
  have hBk := fun r hr => WF_B l s8 r (kR_sub (ck l) l r hr)
  have hex := fun z => lk_ex (c := 88) (z := z) (l := curK l) hBk
  refine x_aload_n (pc := 0) dX7_readApart_0 rfl ?_
  refine x_aload_n (pc := 1) dX7_readApart_1 rfl ?_
  refine x_bipush (pc := 2) dX7_readApart_2 (by decide) ?_
  refine x_callV1 (pc := 4) dX7_readApart_4 (k_RX7_113 _ rfl) tmv_X7_count (by assumption) rfl rfl rfl ?_
  refine x_room (d' := d + 2) (by omega) (Nat.le_refl _) (Nat.le_refl _) (c_m_count hM0 (by omega) hC ?_)
  dsimp only [Option.toList, List.cons_append, List.nil_append]
  refine x_bipush (pc := 7) dX7_readApart_7 (by decide) ?_
  refine x_icmp_ge (pc := 9) 16 dX7_readApart_9 rfl (fun c_9 => ?_) (fun c_9 => ?_)
  · (try simp (disch := omega) only [zb_e0, zb_n0, w32_id, w64_id, ne_eq, Classical.not_not] at c_9)
    refine x_iconst (pc := 16) dX7_readApart_16 ?_
    refine x_topc (b := zb ((nL 69 (curK l) : Int) < 10)) (by first | exact (zb_t (by omega)).symm | exact (zb_f (by omega)).symm) ?_
    refine x_iload_n (pc := 17) dX7_readApart_17 rfl ?_
    refine x_callV2 (pc := 18) dX7_readApart_18 (k_RX7_96 _ rfl) tmv_X7_must (by assumption) rfl rfl rfl ?_
    refine x_room (d' := d) (by omega) (Nat.le_refl _) (Nat.le_refl _) (c_m_must hM0 (P := (nL 69 (curK l) : Int) < 10) (by omega) s4 (by omega) ?_)
    dsimp only [Option.toList, List.cons_append, List.nil_append]
    refine x_if_ne (pc := 21) 25 dX7_readApart_21 rfl (fun c_21 => ?_) (fun c_21 => ?_)
    · (try simp (disch := omega) only [zb_e0, zb_n0, w32_id, w64_id, ne_eq, Classical.not_not] at c_21)
      exfalso
      omega
    · (try simp (disch := omega) only [zb_e0, zb_n0, w32_id, w64_id, ne_eq, Classical.not_not] at c_21)
      --
      rw [mF_n c_21]
      refine x_ret (pc := 24) ⟨dX7_readApart_24, rfl⟩ ?_
      refine hqF p (rowS_n ?_) (by omega) _ (FrR.m h (Or.inr (Or.inl rfl))) (by simp [zup_app])
      rw [hc]
      unfold mayB
      omega
  · (try simp (disch := omega) only [zb_e0, zb_n0, w32_id, w64_id, ne_eq, Classical.not_not] at c_9)
    refine x_iconst (pc := 12) dX7_readApart_12 ?_
    refine x_goto (pc := 13) 17 dX7_readApart_13 rfl ?_
    refine x_topc (b := zb ((nL 69 (curK l) : Int) < 10)) (by first | exact (zb_t (by omega)).symm | exact (zb_f (by omega)).symm) ?_
    refine x_iload_n (pc := 17) dX7_readApart_17 rfl ?_
    refine x_callV2 (pc := 18) dX7_readApart_18 (k_RX7_96 _ rfl) tmv_X7_must (by assumption) rfl rfl rfl ?_
    refine x_room (d' := d) (by omega) (Nat.le_refl _) (Nat.le_refl _) (c_m_must hM0 (P := (nL 69 (curK l) : Int) < 10) (by omega) s4 (by omega) ?_)
    dsimp only [Option.toList, List.cons_append, List.nil_append]
    refine x_if_ne (pc := 21) 25 dX7_readApart_21 rfl (fun c_21 => ?_) (fun c_21 => ?_)
    · (try simp (disch := omega) only [zb_e0, zb_n0, w32_id, w64_id, ne_eq, Classical.not_not] at c_21)
      --
      rw [mF_t c_21]
      have hmb : mayB l 69 := Or.inr ⟨hl, Or.inr (Or.inr (Or.inr (Or.inl ⟨rfl, by omega⟩)))⟩
      refine x_aload_n (pc := 25) dX7_readApart_25 rfl ?_
      refine y_getI 3 (pc := 26) dX7_readApart_26 f_RX7_82 (by assumption) rfl (fun b_26 => ?_)
      rw [s3]
      refine x_istore_n (pc := 29) dX7_readApart_29 (by decide) ?_
      refine x_aload_n (pc := 30) dX7_readApart_30 rfl ?_
      refine x_iconst (pc := 31) dX7_readApart_31 ?_
      refine x_bipush (pc := 32) dX7_readApart_32 (by decide) ?_
      refine x_callV2 (pc := 34) dX7_readApart_34 (k_RX7_100 _ rfl) tmv_X7_number (by assumption) rfl rfl rfl ?_
      refine x_room (d' := d + 2) (by omega) (Nat.le_refl _) (Nat.le_refl _) (c_m_number hM0 hP hT s3 (by omega) s4 (by omega) ?_)
      by_cases hb : ¬ ((numR T (p + 1)).2 ≠ p + 1 ∧ 0 ≤ (numR T (p + 1)).1 ∧ (numR T (p + 1)).1 ≤ 9)
      · rw [mF_n hb]
        dsimp only [Option.toList, List.cons_append, List.nil_append]
        have hr := rs_b1 hc hmb (by unfold okN; omega)
        exact x_loc _ (by exact ⟨rfl, rfl, rfl, trivial⟩) (c_m_apart37 hM0 (by simp [zup_app]; omega) (hqF _ hr (by omega) _ ((FrR.m h (Or.inl rfl)).t (FrR.m _ (Or.inr (Or.inl rfl)))) (by simp [zup_app])))
      replace hb := Classical.not_not.mp hb
      rw [mF_t hb]
      have hP1 : MTx (zup h m 3 (numR T (p + 1)).2) m T := MTx_up hP (by decide)
      have e3 : zup h m 3 (numR T (p + 1)).2 m 3 = (numR T (p + 1)).2 := by simp [zup_app]
      have e4 : zup h m 3 (numR T (p + 1)).2 m 4 = -1 := by simp [zup_app, s4]
      dsimp only [Option.toList, List.cons_append, List.nil_append]
      refine x_istore_n (pc := 37) dX7_readApart_37 (by decide) ?_
      refine x_aload_n (pc := 38) dX7_readApart_38 rfl ?_
      refine y_getI 4 (pc := 39) dX7_readApart_39 f_RX7_85 (by assumption) rfl (fun b_39 => ?_)
      refine x_iconst (pc := 42) dX7_readApart_42 ?_
      refine x_icmp_ne (pc := 43) 59 dX7_readApart_43 rfl (fun c_43 => ?_) (fun c_43 => ?_)
      · (try simp (disch := omega) only [zb_e0, zb_n0, w32_id, w64_id, ne_eq, Classical.not_not] at c_43)
        exact absurd e4 c_43
      · (try simp (disch := omega) only [zb_e0, zb_n0, w32_id, w64_id, ne_eq, Classical.not_not] at c_43)
        refine x_aload_n (pc := 46) dX7_readApart_46 rfl ?_
        refine x_aload_n (pc := 47) dX7_readApart_47 rfl ?_
        refine x_bipush (pc := 48) dX7_readApart_48 (by decide) ?_
        refine x_iload_n (pc := 50) dX7_readApart_50 rfl ?_
        refine x_callV2 (pc := 51) dX7_readApart_51 (k_RX7_128 _ rfl) tmv_X7_isThere (by assumption) rfl rfl rfl ?_
        refine x_room (d' := d + 2) (by omega) (Nat.le_refl _) (Nat.le_refl _) (c_m_isThere hM0 (by omega) (hC.up (Or.inl rfl)) ?_)
        dsimp only [Option.toList, List.cons_append, List.nil_append]
        refine x_iload_n (pc := 54) dX7_readApart_54 rfl ?_
        refine x_callV2 (pc := 55) dX7_readApart_55 (k_RX7_96 _ rfl) tmv_X7_must (by assumption) rfl rfl rfl ?_
        refine x_room (d' := d) (by omega) (Nat.le_refl _) (Nat.le_refl _) (c_m_must hM0 (by omega) e4 (by omega) ?_)
        by_cases hx : ¬ exL 88 (numR T (p + 1)).1 (curK l)
        · rw [mF_n hx]
          dsimp only [Option.toList, List.cons_append, List.nil_append]
          have hx2 : lk 88 (numR T (p + 1)).1 (curK l) = -1 := Classical.byContradiction (fun z => hx ((hex _).mp z))
          have hr := rs_b1 hc hmb (by unfold okN; omega)
          exact x_loc _ (by exact ⟨rfl, rfl, rfl, rfl, trivial⟩) (c_m_apart58 hM0 (by simp [zup_app]; omega) (hqF _ hr (by omega) _ ((FrR.m h (Or.inl rfl)).t (FrR.m _ (Or.inr (Or.inl rfl)))) (by simp [zup_app])))
        replace hx := Classical.not_not.mp hx
        rw [mF_t hx]
        have hx2 := (hex _).mpr hx
        have hb1 : ¬ ((numR T (p + 1)).2 = p + 1 ∨ ¬ okN l 69 0 (numR T (p + 1)).1 0) := by unfold okN; omega
        dsimp only [Option.toList, List.cons_append, List.nil_append]
        refine x_pop (pc := 58) dX7_readApart_58 rfl ?_
        refine x_aload_n (pc := 59) dX7_readApart_59 rfl ?_
        refine y_getI 3 (pc := 60) dX7_readApart_60 f_RX7_82 (by assumption) rfl (fun b_60 => ?_)
        rw [e3]
        refine x_iconst (pc := 63) dX7_readApart_63 ?_
        refine x_iadd (pc := 64) dX7_readApart_64 ?_
        refine x_istore (pc := 65) dX7_readApart_65 (by decide) ?_
        refine x_aload_n (pc := 67) dX7_readApart_67 rfl ?_
        refine y_getI 4 (pc := 68) dX7_readApart_68 f_RX7_85 (by assumption) rfl (fun b_68 => ?_)
        refine x_iconst (pc := 71) dX7_readApart_71 ?_
        refine x_icmp_ne (pc := 72) 85 dX7_readApart_72 rfl (fun c_72 => ?_) (fun c_72 => ?_)
        · (try simp (disch := omega) only [zb_e0, zb_n0, w32_id, w64_id, ne_eq, Classical.not_not] at c_72)
          exact absurd e4 c_72
        · (try simp (disch := omega) only [zb_e0, zb_n0, w32_id, w64_id, ne_eq, Classical.not_not] at c_72)
          refine x_aload_n (pc := 75) dX7_readApart_75 rfl ?_
          refine x_iconst (pc := 76) dX7_readApart_76 ?_
          refine x_bipush (pc := 77) dX7_readApart_77 (by decide) ?_
          refine x_callV2 (pc := 79) dX7_readApart_79 (k_RX7_125 _ rfl) tmv_X7_next (by assumption) rfl rfl rfl ?_
          refine x_room (d' := d + 3) (by omega) (Nat.le_refl _) (Nat.le_refl _) (c_m_next hM0 hP1 hT e3 (by omega) e4 (by omega) (fun hs2 => ?_) (fun hs2 hp2 => ?_))
          · dsimp only [Option.toList, List.cons_append, List.nil_append]
            have hr := rs_s2 hc hmb (by decide) hb1 hs2
            exact x_loc _ (by exact ⟨rfl, rfl, rfl, rfl, rfl, trivial⟩) (c_m_apart82 hM0 (by simp [zup_app]; omega) (hqF _ hr (by omega) _ ((FrR.m h (Or.inl rfl)).t (FrR.m _ (Or.inr (Or.inl rfl)))) (by simp [zup_app])))
          have hnr2 := numR_r T (p := (numR T (p + 1)).2 + 1) (by omega) hp2
          rw [zup_zup, zup_zup]
          by_cases hb2 : ¬ ((numR T ((numR T (p + 1)).2 + 1)).2 ≠ (numR T (p + 1)).2 + 1 ∧ 0 ≤ (numR T ((numR T (p + 1)).2 + 1)).1 ∧ (numR T ((numR T (p + 1)).2 + 1)).1 ≤ 9)
          · rw [mF_n hb2]
            dsimp only [Option.toList, List.cons_append, List.nil_append]
            have hr := rs_b2 hc hmb (by decide) hb1 hs2 (by unfold okN; omega)
            exact x_loc _ (by exact ⟨rfl, rfl, rfl, rfl, rfl, trivial⟩) (c_m_apart82 hM0 (by simp [zup_app]; omega) (hqF _ hr (by omega) _ ((FrR.m h (Or.inl rfl)).t (FrR.m _ (Or.inr (Or.inl rfl)))) (by simp [zup_app])))
          replace hb2 := Classical.not_not.mp hb2
          rw [mF_t hb2]
          have e42 : zup h m 3 (numR T ((numR T (p + 1)).2 + 1)).2 m 4 = -1 := by simp [zup_app, s4]
          have hap := ap_ex (s := (numR T (p + 1)).1) (t := (numR T ((numR T (p + 1)).2 + 1)).1) (by omega) (curK l) hBk
          have hex2 := hex (numR T ((numR T (p + 1)).2 + 1)).1
          dsimp only [Option.toList, List.cons_append, List.nil_append]
          refine x_goto (pc := 82) 86 dX7_readApart_82 rfl ?_
          refine x_istore (pc := 86) dX7_readApart_86 (by decide) ?_
          refine x_aload_n (pc := 88) dX7_readApart_88 rfl ?_
          refine y_getI 4 (pc := 89) dX7_readApart_89 f_RX7_85 (by assumption) rfl (fun b_89 => ?_)
          refine x_iconst (pc := 92) dX7_readApart_92 ?_
          refine x_icmp_ne (pc := 93) 135 dX7_readApart_93 rfl (fun c_93 => ?_) (fun c_93 => ?_)
          · (try simp (disch := omega) only [zb_e0, zb_n0, w32_id, w64_id, ne_eq, Classical.not_not] at c_93)
            exact absurd e42 c_93
          · (try simp (disch := omega) only [zb_e0, zb_n0, w32_id, w64_id, ne_eq, Classical.not_not] at c_93)
            refine x_aload_n (pc := 96) dX7_readApart_96 rfl ?_
            refine x_aload_n (pc := 97) dX7_readApart_97 rfl ?_
            refine x_bipush (pc := 98) dX7_readApart_98 (by decide) ?_
            refine x_iload (pc := 100) dX7_readApart_100 rfl ?_
            refine x_callV2 (pc := 102) dX7_readApart_102 (k_RX7_128 _ rfl) tmv_X7_isThere (by assumption) rfl rfl rfl ?_
            refine x_room (d' := d + 2) (by omega) (Nat.le_refl _) (Nat.le_refl _) (c_m_isThere hM0 (by omega) (hC.up (Or.inl rfl)) ?_)
            dsimp only [Option.toList, List.cons_append, List.nil_append]
            refine x_if_eq (pc := 105) 128 dX7_readApart_105 rfl (fun c_105 => ?_) (fun c_105 => ?_)
            · (try simp (disch := omega) only [zb_e0, zb_n0, w32_id, w64_id, ne_eq, Classical.not_not] at c_105)
              refine x_iconst (pc := 128) dX7_readApart_128 ?_
              refine x_topc (b := zb (exL 88 (numR T ((numR T (p + 1)).2 + 1)).1 (curK l) ∧ (numR T ((numR T (p + 1)).2 + 1)).1 ≠ (numR T (p + 1)).1 ∧ ¬ apL (numR T (p + 1)).1 (numR T ((numR T (p + 1)).2 + 1)).1 (curK l))) (by first | exact (zb_t (show exL 88 (numR T ((numR T (p + 1)).2 + 1)).1 (curK l) ∧ (numR T ((numR T (p + 1)).2 + 1)).1 ≠ (numR T (p + 1)).1 ∧ ¬ apL (numR T (p + 1)).1 (numR T ((numR T (p + 1)).2 + 1)).1 (curK l) from ⟨by assumption, by assumption, by assumption⟩)).symm | exact (zb_f (fun z : exL 88 (numR T ((numR T (p + 1)).2 + 1)).1 (curK l) ∧ (numR T ((numR T (p + 1)).2 + 1)).1 ≠ (numR T (p + 1)).1 ∧ ¬ apL (numR T (p + 1)).1 (numR T ((numR T (p + 1)).2 + 1)).1 (curK l) => absurd z.1 (by assumption))).symm | exact (zb_f (fun z : exL 88 (numR T ((numR T (p + 1)).2 + 1)).1 (curK l) ∧ (numR T ((numR T (p + 1)).2 + 1)).1 ≠ (numR T (p + 1)).1 ∧ ¬ apL (numR T (p + 1)).1 (numR T ((numR T (p + 1)).2 + 1)).1 (curK l) => absurd (by assumption) z.2.1)).symm | exact (zb_f (fun z : exL 88 (numR T ((numR T (p + 1)).2 + 1)).1 (curK l) ∧ (numR T ((numR T (p + 1)).2 + 1)).1 ≠ (numR T (p + 1)).1 ∧ ¬ apL (numR T (p + 1)).1 (numR T ((numR T (p + 1)).2 + 1)).1 (curK l) => z.2.2 (by assumption))).symm) ?_
              refine x_iload (pc := 129) dX7_readApart_129 rfl ?_
              refine x_callV2 (pc := 131) dX7_readApart_131 (k_RX7_96 _ rfl) tmv_X7_must (by assumption) rfl rfl rfl ?_
              refine x_room (d' := d) (by omega) (Nat.le_refl _) (Nat.le_refl _) (c_m_must hM0 (by omega) e42 (by omega) ?_)
              by_cases hx3 : ¬ (exL 88 (numR T ((numR T (p + 1)).2 + 1)).1 (curK l) ∧ (numR T ((numR T (p + 1)).2 + 1)).1 ≠ (numR T (p + 1)).1 ∧ ¬ apL (numR T (p + 1)).1 (numR T ((numR T (p + 1)).2 + 1)).1 (curK l))
              · rw [mF_n hx3]
                dsimp only [Option.toList, List.cons_append, List.nil_append]
                have hr := rs_b2 hc hmb (by decide) hb1 hs2 (Or.inr (fun z => hx3 (by
                  unfold okN at z
                  rcases z with ⟨z, -⟩ | ⟨z, -⟩ | ⟨z, -⟩ | ⟨z, -⟩ | ⟨-, z1, z2, z3⟩ | ⟨z, -⟩ | ⟨z, -⟩ | ⟨z, -⟩
                  rotate_left 4
                  rotate_left 1
                  all_goals first | (exact absurd z (by decide)) | skip
                  rcases z3 with z3 | z3
                  · omega
                  · exact ⟨hex2.mp z2, z3.1, fun y => by rw [hap.mpr y] at z3; exact absurd z3.2 (by decide)⟩)))
                exact x_loc _ (by exact ⟨rfl, rfl, rfl, rfl, rfl, rfl, trivial⟩) (c_m_apart134 hM0 (by simp [zup_app]; omega) (hqF _ hr (by omega) _ ((FrR.m h (Or.inl rfl)).t (FrR.m _ (Or.inr (Or.inl rfl)))) (by simp [zup_app])))
              replace hx3 := Classical.not_not.mp hx3
              rw [mF_t hx3]
              have hr := rs_k2 hc hmb (by decide) hb1 hs2 (fun z => by
                rcases z with z | z
                · omega
                · refine z (Or.inr (Or.inr (Or.inr (Or.inr (Or.inl ⟨rfl, by omega, hex2.mpr hx3.1, Or.inr ⟨hx3.2.1, ?_⟩⟩)))))
                  cases hq : (exM (curK l) (numR T (p + 1)).1).testBit ((numR T ((numR T (p + 1)).2 + 1)).1).toNat with
                  | false => rfl
                  | true => exact absurd (hap.mp hq) hx3.2.2)
              dsimp only [Option.toList, List.cons_append, List.nil_append]
              refine x_pop (pc := 134) dX7_readApart_134 rfl ?_
              refine x_aload_n (pc := 135) dX7_readApart_135 rfl ?_
              refine x_bipush (pc := 136) dX7_readApart_136 (by decide) ?_
              refine x_iload_n (pc := 138) dX7_readApart_138 rfl ?_
              refine x_iload (pc := 139) dX7_readApart_139 rfl ?_
              refine x_iconst (pc := 141) dX7_readApart_141 ?_
              refine x_callV4 (pc := 142) dX7_readApart_142 (k_RX7_117 _ rfl) tmv_X7_add (by assumption) rfl rfl rfl ?_
              have hg : ∀ x, m + 2 ≤ x → x ≤ m + 6 → zup h m 3 (numR T ((numR T (p + 1)).2 + 1)).2 x = h x := fun x x1 x2 => zup_ne (by omega)
              have hgo := rowS_good hp.1 hr
              refine x_room (d' := d + 2) (by omega) (Nat.le_refl _) (Nat.le_refl _) (c_m_add hM0 (N := (l.length : Int)) (by omega) (by simp [zup_app, s4]) (by rw [hg (m + 6) (by omega) (by omega)]; exact s5) (by omega) ?_)
              have hRA := RS_add (p2 := (numR T ((numR T (p + 1)).2 + 1)).2) (g := zup h m 3 (numR T ((numR T (p + 1)).2 + 1)).2) hS0 hn hgo.1 (FrR.m h (Or.inl rfl)) hg (by simp [zup_app]) (by simp [zup_app, s4]) (by rw [zup_app, if_neg (by omega), if_neg (by decide)])
              dsimp only [Option.toList, List.cons_append, List.nil_append]
              refine x_ret (pc := 145) ⟨dX7_readApart_145, rfl⟩ ?_
              exact hqK _ _ hr _ hRA.1 hRA.2
            · (try simp (disch := omega) only [zb_e0, zb_n0, w32_id, w64_id, ne_eq, Classical.not_not] at c_105)
              refine x_iload (pc := 108) dX7_readApart_108 rfl ?_
              refine x_iload_n (pc := 110) dX7_readApart_110 rfl ?_
              refine x_icmp_eq (pc := 111) 128 dX7_readApart_111 rfl (fun c_111 => ?_) (fun c_111 => ?_)
              · (try simp (disch := omega) only [zb_e0, zb_n0, w32_id, w64_id, ne_eq, Classical.not_not] at c_111)
                refine x_iconst (pc := 128) dX7_readApart_128 ?_
                refine x_topc (b := zb (exL 88 (numR T ((numR T (p + 1)).2 + 1)).1 (curK l) ∧ (numR T ((numR T (p + 1)).2 + 1)).1 ≠ (numR T (p + 1)).1 ∧ ¬ apL (numR T (p + 1)).1 (numR T ((numR T (p + 1)).2 + 1)).1 (curK l))) (by first | exact (zb_t (show exL 88 (numR T ((numR T (p + 1)).2 + 1)).1 (curK l) ∧ (numR T ((numR T (p + 1)).2 + 1)).1 ≠ (numR T (p + 1)).1 ∧ ¬ apL (numR T (p + 1)).1 (numR T ((numR T (p + 1)).2 + 1)).1 (curK l) from ⟨by assumption, by assumption, by assumption⟩)).symm | exact (zb_f (fun z : exL 88 (numR T ((numR T (p + 1)).2 + 1)).1 (curK l) ∧ (numR T ((numR T (p + 1)).2 + 1)).1 ≠ (numR T (p + 1)).1 ∧ ¬ apL (numR T (p + 1)).1 (numR T ((numR T (p + 1)).2 + 1)).1 (curK l) => absurd z.1 (by assumption))).symm | exact (zb_f (fun z : exL 88 (numR T ((numR T (p + 1)).2 + 1)).1 (curK l) ∧ (numR T ((numR T (p + 1)).2 + 1)).1 ≠ (numR T (p + 1)).1 ∧ ¬ apL (numR T (p + 1)).1 (numR T ((numR T (p + 1)).2 + 1)).1 (curK l) => absurd (by assumption) z.2.1)).symm | exact (zb_f (fun z : exL 88 (numR T ((numR T (p + 1)).2 + 1)).1 (curK l) ∧ (numR T ((numR T (p + 1)).2 + 1)).1 ≠ (numR T (p + 1)).1 ∧ ¬ apL (numR T (p + 1)).1 (numR T ((numR T (p + 1)).2 + 1)).1 (curK l) => z.2.2 (by assumption))).symm) ?_
                refine x_iload (pc := 129) dX7_readApart_129 rfl ?_
                refine x_callV2 (pc := 131) dX7_readApart_131 (k_RX7_96 _ rfl) tmv_X7_must (by assumption) rfl rfl rfl ?_
                refine x_room (d' := d) (by omega) (Nat.le_refl _) (Nat.le_refl _) (c_m_must hM0 (by omega) e42 (by omega) ?_)
                by_cases hx3 : ¬ (exL 88 (numR T ((numR T (p + 1)).2 + 1)).1 (curK l) ∧ (numR T ((numR T (p + 1)).2 + 1)).1 ≠ (numR T (p + 1)).1 ∧ ¬ apL (numR T (p + 1)).1 (numR T ((numR T (p + 1)).2 + 1)).1 (curK l))
                · rw [mF_n hx3]
                  dsimp only [Option.toList, List.cons_append, List.nil_append]
                  have hr := rs_b2 hc hmb (by decide) hb1 hs2 (Or.inr (fun z => hx3 (by
                    unfold okN at z
                    rcases z with ⟨z, -⟩ | ⟨z, -⟩ | ⟨z, -⟩ | ⟨z, -⟩ | ⟨-, z1, z2, z3⟩ | ⟨z, -⟩ | ⟨z, -⟩ | ⟨z, -⟩
                    rotate_left 4
                    rotate_left 1
                    all_goals first | (exact absurd z (by decide)) | skip
                    rcases z3 with z3 | z3
                    · omega
                    · exact ⟨hex2.mp z2, z3.1, fun y => by rw [hap.mpr y] at z3; exact absurd z3.2 (by decide)⟩)))
                  exact x_loc _ (by exact ⟨rfl, rfl, rfl, rfl, rfl, rfl, trivial⟩) (c_m_apart134 hM0 (by simp [zup_app]; omega) (hqF _ hr (by omega) _ ((FrR.m h (Or.inl rfl)).t (FrR.m _ (Or.inr (Or.inl rfl)))) (by simp [zup_app])))
                replace hx3 := Classical.not_not.mp hx3
                rw [mF_t hx3]
                have hr := rs_k2 hc hmb (by decide) hb1 hs2 (fun z => by
                  rcases z with z | z
                  · omega
                  · refine z (Or.inr (Or.inr (Or.inr (Or.inr (Or.inl ⟨rfl, by omega, hex2.mpr hx3.1, Or.inr ⟨hx3.2.1, ?_⟩⟩)))))
                    cases hq : (exM (curK l) (numR T (p + 1)).1).testBit ((numR T ((numR T (p + 1)).2 + 1)).1).toNat with
                    | false => rfl
                    | true => exact absurd (hap.mp hq) hx3.2.2)
                dsimp only [Option.toList, List.cons_append, List.nil_append]
                refine x_pop (pc := 134) dX7_readApart_134 rfl ?_
                refine x_aload_n (pc := 135) dX7_readApart_135 rfl ?_
                refine x_bipush (pc := 136) dX7_readApart_136 (by decide) ?_
                refine x_iload_n (pc := 138) dX7_readApart_138 rfl ?_
                refine x_iload (pc := 139) dX7_readApart_139 rfl ?_
                refine x_iconst (pc := 141) dX7_readApart_141 ?_
                refine x_callV4 (pc := 142) dX7_readApart_142 (k_RX7_117 _ rfl) tmv_X7_add (by assumption) rfl rfl rfl ?_
                have hg : ∀ x, m + 2 ≤ x → x ≤ m + 6 → zup h m 3 (numR T ((numR T (p + 1)).2 + 1)).2 x = h x := fun x x1 x2 => zup_ne (by omega)
                have hgo := rowS_good hp.1 hr
                refine x_room (d' := d + 2) (by omega) (Nat.le_refl _) (Nat.le_refl _) (c_m_add hM0 (N := (l.length : Int)) (by omega) (by simp [zup_app, s4]) (by rw [hg (m + 6) (by omega) (by omega)]; exact s5) (by omega) ?_)
                have hRA := RS_add (p2 := (numR T ((numR T (p + 1)).2 + 1)).2) (g := zup h m 3 (numR T ((numR T (p + 1)).2 + 1)).2) hS0 hn hgo.1 (FrR.m h (Or.inl rfl)) hg (by simp [zup_app]) (by simp [zup_app, s4]) (by rw [zup_app, if_neg (by omega), if_neg (by decide)])
                dsimp only [Option.toList, List.cons_append, List.nil_append]
                refine x_ret (pc := 145) ⟨dX7_readApart_145, rfl⟩ ?_
                exact hqK _ _ hr _ hRA.1 hRA.2
              · (try simp (disch := omega) only [zb_e0, zb_n0, w32_id, w64_id, ne_eq, Classical.not_not] at c_111)
                refine x_aload_n (pc := 114) dX7_readApart_114 rfl ?_
                refine x_iload_n (pc := 115) dX7_readApart_115 rfl ?_
                refine x_iload (pc := 116) dX7_readApart_116 rfl ?_
                refine x_callV2 (pc := 118) dX7_readApart_118 (k_RX7_132 _ rfl) tmv_X7_areApart (by assumption) rfl rfl rfl ?_
                refine x_room (d' := d + 2) (by omega) (Nat.le_refl _) (Nat.le_refl _) (c_m_areApart hM0 (by omega) (hC.up (Or.inl rfl)) ?_)
                dsimp only [Option.toList, List.cons_append, List.nil_append]
                refine x_if_ne (pc := 121) 128 dX7_readApart_121 rfl (fun c_121 => ?_) (fun c_121 => ?_)
                · (try simp (disch := omega) only [zb_e0, zb_n0, w32_id, w64_id, ne_eq, Classical.not_not] at c_121)
                  refine x_iconst (pc := 128) dX7_readApart_128 ?_
                  refine x_topc (b := zb (exL 88 (numR T ((numR T (p + 1)).2 + 1)).1 (curK l) ∧ (numR T ((numR T (p + 1)).2 + 1)).1 ≠ (numR T (p + 1)).1 ∧ ¬ apL (numR T (p + 1)).1 (numR T ((numR T (p + 1)).2 + 1)).1 (curK l))) (by first | exact (zb_t (show exL 88 (numR T ((numR T (p + 1)).2 + 1)).1 (curK l) ∧ (numR T ((numR T (p + 1)).2 + 1)).1 ≠ (numR T (p + 1)).1 ∧ ¬ apL (numR T (p + 1)).1 (numR T ((numR T (p + 1)).2 + 1)).1 (curK l) from ⟨by assumption, by assumption, by assumption⟩)).symm | exact (zb_f (fun z : exL 88 (numR T ((numR T (p + 1)).2 + 1)).1 (curK l) ∧ (numR T ((numR T (p + 1)).2 + 1)).1 ≠ (numR T (p + 1)).1 ∧ ¬ apL (numR T (p + 1)).1 (numR T ((numR T (p + 1)).2 + 1)).1 (curK l) => absurd z.1 (by assumption))).symm | exact (zb_f (fun z : exL 88 (numR T ((numR T (p + 1)).2 + 1)).1 (curK l) ∧ (numR T ((numR T (p + 1)).2 + 1)).1 ≠ (numR T (p + 1)).1 ∧ ¬ apL (numR T (p + 1)).1 (numR T ((numR T (p + 1)).2 + 1)).1 (curK l) => absurd (by assumption) z.2.1)).symm | exact (zb_f (fun z : exL 88 (numR T ((numR T (p + 1)).2 + 1)).1 (curK l) ∧ (numR T ((numR T (p + 1)).2 + 1)).1 ≠ (numR T (p + 1)).1 ∧ ¬ apL (numR T (p + 1)).1 (numR T ((numR T (p + 1)).2 + 1)).1 (curK l) => z.2.2 (by assumption))).symm) ?_
                  refine x_iload (pc := 129) dX7_readApart_129 rfl ?_
                  refine x_callV2 (pc := 131) dX7_readApart_131 (k_RX7_96 _ rfl) tmv_X7_must (by assumption) rfl rfl rfl ?_
                  refine x_room (d' := d) (by omega) (Nat.le_refl _) (Nat.le_refl _) (c_m_must hM0 (by omega) e42 (by omega) ?_)
                  by_cases hx3 : ¬ (exL 88 (numR T ((numR T (p + 1)).2 + 1)).1 (curK l) ∧ (numR T ((numR T (p + 1)).2 + 1)).1 ≠ (numR T (p + 1)).1 ∧ ¬ apL (numR T (p + 1)).1 (numR T ((numR T (p + 1)).2 + 1)).1 (curK l))
                  · rw [mF_n hx3]
                    dsimp only [Option.toList, List.cons_append, List.nil_append]
                    have hr := rs_b2 hc hmb (by decide) hb1 hs2 (Or.inr (fun z => hx3 (by
                      unfold okN at z
                      rcases z with ⟨z, -⟩ | ⟨z, -⟩ | ⟨z, -⟩ | ⟨z, -⟩ | ⟨-, z1, z2, z3⟩ | ⟨z, -⟩ | ⟨z, -⟩ | ⟨z, -⟩
                      rotate_left 4
                      rotate_left 1
                      all_goals first | (exact absurd z (by decide)) | skip
                      rcases z3 with z3 | z3
                      · omega
                      · exact ⟨hex2.mp z2, z3.1, fun y => by rw [hap.mpr y] at z3; exact absurd z3.2 (by decide)⟩)))
                    exact x_loc _ (by exact ⟨rfl, rfl, rfl, rfl, rfl, rfl, trivial⟩) (c_m_apart134 hM0 (by simp [zup_app]; omega) (hqF _ hr (by omega) _ ((FrR.m h (Or.inl rfl)).t (FrR.m _ (Or.inr (Or.inl rfl)))) (by simp [zup_app])))
                  replace hx3 := Classical.not_not.mp hx3
                  rw [mF_t hx3]
                  have hr := rs_k2 hc hmb (by decide) hb1 hs2 (fun z => by
                    rcases z with z | z
                    · omega
                    · refine z (Or.inr (Or.inr (Or.inr (Or.inr (Or.inl ⟨rfl, by omega, hex2.mpr hx3.1, Or.inr ⟨hx3.2.1, ?_⟩⟩)))))
                      cases hq : (exM (curK l) (numR T (p + 1)).1).testBit ((numR T ((numR T (p + 1)).2 + 1)).1).toNat with
                      | false => rfl
                      | true => exact absurd (hap.mp hq) hx3.2.2)
                  dsimp only [Option.toList, List.cons_append, List.nil_append]
                  refine x_pop (pc := 134) dX7_readApart_134 rfl ?_
                  refine x_aload_n (pc := 135) dX7_readApart_135 rfl ?_
                  refine x_bipush (pc := 136) dX7_readApart_136 (by decide) ?_
                  refine x_iload_n (pc := 138) dX7_readApart_138 rfl ?_
                  refine x_iload (pc := 139) dX7_readApart_139 rfl ?_
                  refine x_iconst (pc := 141) dX7_readApart_141 ?_
                  refine x_callV4 (pc := 142) dX7_readApart_142 (k_RX7_117 _ rfl) tmv_X7_add (by assumption) rfl rfl rfl ?_
                  have hg : ∀ x, m + 2 ≤ x → x ≤ m + 6 → zup h m 3 (numR T ((numR T (p + 1)).2 + 1)).2 x = h x := fun x x1 x2 => zup_ne (by omega)
                  have hgo := rowS_good hp.1 hr
                  refine x_room (d' := d + 2) (by omega) (Nat.le_refl _) (Nat.le_refl _) (c_m_add hM0 (N := (l.length : Int)) (by omega) (by simp [zup_app, s4]) (by rw [hg (m + 6) (by omega) (by omega)]; exact s5) (by omega) ?_)
                  have hRA := RS_add (p2 := (numR T ((numR T (p + 1)).2 + 1)).2) (g := zup h m 3 (numR T ((numR T (p + 1)).2 + 1)).2) hS0 hn hgo.1 (FrR.m h (Or.inl rfl)) hg (by simp [zup_app]) (by simp [zup_app, s4]) (by rw [zup_app, if_neg (by omega), if_neg (by decide)])
                  dsimp only [Option.toList, List.cons_append, List.nil_append]
                  refine x_ret (pc := 145) ⟨dX7_readApart_145, rfl⟩ ?_
                  exact hqK _ _ hr _ hRA.1 hRA.2
                · (try simp (disch := omega) only [zb_e0, zb_n0, w32_id, w64_id, ne_eq, Classical.not_not] at c_121)
                  refine x_iconst (pc := 124) dX7_readApart_124 ?_
                  refine x_goto (pc := 125) 129 dX7_readApart_125 rfl ?_
                  refine x_topc (b := zb (exL 88 (numR T ((numR T (p + 1)).2 + 1)).1 (curK l) ∧ (numR T ((numR T (p + 1)).2 + 1)).1 ≠ (numR T (p + 1)).1 ∧ ¬ apL (numR T (p + 1)).1 (numR T ((numR T (p + 1)).2 + 1)).1 (curK l))) (by first | exact (zb_t (show exL 88 (numR T ((numR T (p + 1)).2 + 1)).1 (curK l) ∧ (numR T ((numR T (p + 1)).2 + 1)).1 ≠ (numR T (p + 1)).1 ∧ ¬ apL (numR T (p + 1)).1 (numR T ((numR T (p + 1)).2 + 1)).1 (curK l) from ⟨by assumption, by assumption, by assumption⟩)).symm | exact (zb_f (fun z : exL 88 (numR T ((numR T (p + 1)).2 + 1)).1 (curK l) ∧ (numR T ((numR T (p + 1)).2 + 1)).1 ≠ (numR T (p + 1)).1 ∧ ¬ apL (numR T (p + 1)).1 (numR T ((numR T (p + 1)).2 + 1)).1 (curK l) => absurd z.1 (by assumption))).symm | exact (zb_f (fun z : exL 88 (numR T ((numR T (p + 1)).2 + 1)).1 (curK l) ∧ (numR T ((numR T (p + 1)).2 + 1)).1 ≠ (numR T (p + 1)).1 ∧ ¬ apL (numR T (p + 1)).1 (numR T ((numR T (p + 1)).2 + 1)).1 (curK l) => absurd (by assumption) z.2.1)).symm | exact (zb_f (fun z : exL 88 (numR T ((numR T (p + 1)).2 + 1)).1 (curK l) ∧ (numR T ((numR T (p + 1)).2 + 1)).1 ≠ (numR T (p + 1)).1 ∧ ¬ apL (numR T (p + 1)).1 (numR T ((numR T (p + 1)).2 + 1)).1 (curK l) => z.2.2 (by assumption))).symm) ?_
                  refine x_iload (pc := 129) dX7_readApart_129 rfl ?_
                  refine x_callV2 (pc := 131) dX7_readApart_131 (k_RX7_96 _ rfl) tmv_X7_must (by assumption) rfl rfl rfl ?_
                  refine x_room (d' := d) (by omega) (Nat.le_refl _) (Nat.le_refl _) (c_m_must hM0 (by omega) e42 (by omega) ?_)
                  by_cases hx3 : ¬ (exL 88 (numR T ((numR T (p + 1)).2 + 1)).1 (curK l) ∧ (numR T ((numR T (p + 1)).2 + 1)).1 ≠ (numR T (p + 1)).1 ∧ ¬ apL (numR T (p + 1)).1 (numR T ((numR T (p + 1)).2 + 1)).1 (curK l))
                  · rw [mF_n hx3]
                    dsimp only [Option.toList, List.cons_append, List.nil_append]
                    have hr := rs_b2 hc hmb (by decide) hb1 hs2 (Or.inr (fun z => hx3 (by
                      unfold okN at z
                      rcases z with ⟨z, -⟩ | ⟨z, -⟩ | ⟨z, -⟩ | ⟨z, -⟩ | ⟨-, z1, z2, z3⟩ | ⟨z, -⟩ | ⟨z, -⟩ | ⟨z, -⟩
                      rotate_left 4
                      rotate_left 1
                      all_goals first | (exact absurd z (by decide)) | skip
                      rcases z3 with z3 | z3
                      · omega
                      · exact ⟨hex2.mp z2, z3.1, fun y => by rw [hap.mpr y] at z3; exact absurd z3.2 (by decide)⟩)))
                    exact x_loc _ (by exact ⟨rfl, rfl, rfl, rfl, rfl, rfl, trivial⟩) (c_m_apart134 hM0 (by simp [zup_app]; omega) (hqF _ hr (by omega) _ ((FrR.m h (Or.inl rfl)).t (FrR.m _ (Or.inr (Or.inl rfl)))) (by simp [zup_app])))
                  replace hx3 := Classical.not_not.mp hx3
                  rw [mF_t hx3]
                  have hr := rs_k2 hc hmb (by decide) hb1 hs2 (fun z => by
                    rcases z with z | z
                    · omega
                    · refine z (Or.inr (Or.inr (Or.inr (Or.inr (Or.inl ⟨rfl, by omega, hex2.mpr hx3.1, Or.inr ⟨hx3.2.1, ?_⟩⟩)))))
                      cases hq : (exM (curK l) (numR T (p + 1)).1).testBit ((numR T ((numR T (p + 1)).2 + 1)).1).toNat with
                      | false => rfl
                      | true => exact absurd (hap.mp hq) hx3.2.2)
                  dsimp only [Option.toList, List.cons_append, List.nil_append]
                  refine x_pop (pc := 134) dX7_readApart_134 rfl ?_
                  refine x_aload_n (pc := 135) dX7_readApart_135 rfl ?_
                  refine x_bipush (pc := 136) dX7_readApart_136 (by decide) ?_
                  refine x_iload_n (pc := 138) dX7_readApart_138 rfl ?_
                  refine x_iload (pc := 139) dX7_readApart_139 rfl ?_
                  refine x_iconst (pc := 141) dX7_readApart_141 ?_
                  refine x_callV4 (pc := 142) dX7_readApart_142 (k_RX7_117 _ rfl) tmv_X7_add (by assumption) rfl rfl rfl ?_
                  have hg : ∀ x, m + 2 ≤ x → x ≤ m + 6 → zup h m 3 (numR T ((numR T (p + 1)).2 + 1)).2 x = h x := fun x x1 x2 => zup_ne (by omega)
                  have hgo := rowS_good hp.1 hr
                  refine x_room (d' := d + 2) (by omega) (Nat.le_refl _) (Nat.le_refl _) (c_m_add hM0 (N := (l.length : Int)) (by omega) (by simp [zup_app, s4]) (by rw [hg (m + 6) (by omega) (by omega)]; exact s5) (by omega) ?_)
                  have hRA := RS_add (p2 := (numR T ((numR T (p + 1)).2 + 1)).2) (g := zup h m 3 (numR T ((numR T (p + 1)).2 + 1)).2) hS0 hn hgo.1 (FrR.m h (Or.inl rfl)) hg (by simp [zup_app]) (by simp [zup_app, s4]) (by rw [zup_app, if_neg (by omega), if_neg (by decide)])
                  dsimp only [Option.toList, List.cons_append, List.nil_append]
                  refine x_ret (pc := 145) ⟨dX7_readApart_145, rfl⟩ ?_
                  exact hqK _ _ hr _ hRA.1 hRA.2
    · (try simp (disch := omega) only [zb_e0, zb_n0, w32_id, w64_id, ne_eq, Classical.not_not] at c_21)
      exfalso
      omega

end C23
