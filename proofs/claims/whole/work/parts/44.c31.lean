section C31
variable {D : va_G} {d : Nat} {ty : zT} {sz : Nat} {h : zH} {Q : zQ}
set_option maxHeartbeats 4000000 in
set_option maxRecDepth 100000 in
theorem c_m_rowOf_l {m : Int} (hM : isMT ty m) {b : Int} {kr : List Row} {c z : Int} (hc : i32 c ∧ i32 z) (hR : MR h m b kr) (hb : 0 ≤ b ∧ b + kr.length ≤ 3120) (hq : ∀ res, PK (fun r => r.1 == c && r.2.1 == z) b kr kr.length res → Q (some (iV res)) ty sz h) : ∀ (n : Nat) (i : Nat) (res : Int), i ≤ kr.length → PK (fun r => r.1 == c && r.2.1 == z) b kr i res → kr.length - i < n → zX D mX7_rowOf d 0 0 6 [(6, iV (b + i)), (5, iV res), (0, rV m), (1, iV b), (2, iV (b + kr.length)), (3, iV c), (4, iV z)] [] ty sz h Q := by
  intro n
  induction n with
  | zero =>
    intro i res h1 hp hm
    exfalso
    omega
  | succ n ih =>
    intro i res h1 hp hm
    have hM0 := hM
    obtain ⟨m9, m0, a1, a2, a3, a4, a5, a6, a7, a8, a9, a10, a11, a12, a13, a14, a15, a16, a17, a18, a19, a20, a21⟩ := hM
    refine x_iload (pc := 6) dX7_rowOf_6 rfl ?_
    refine x_iload_n (pc := 8) dX7_rowOf_8 rfl ?_
    refine x_icmp_ge (pc := 9) 50 dX7_rowOf_9 rfl (fun c_9 => ?_) (fun c_9 => ?_)
    · (try simp (disch := omega) only [zb_e0, zb_n0, w32_id, w64_id, ne_eq, Classical.not_not] at c_9)
      refine x_iload (pc := 50) dX7_rowOf_50 rfl ?_
      refine x_retv (pc := 52) ⟨dX7_rowOf_52, Or.inl rfl⟩ ?_
      rw [show i = kr.length by omega] at hp
      exact hq _ hp
    · (try simp (disch := omega) only [zb_e0, zb_n0, w32_id, w64_id, ne_eq, Classical.not_not] at c_9)
      obtain ⟨r, hr⟩ : ∃ r, kr[i]? = some r := ⟨_, List.getElem?_eq_getElem (by omega)⟩
      obtain ⟨r1, r2, r3, r4⟩ := hR i r hr
      refine x_aload_n (pc := 12) dX7_rowOf_12 rfl ?_
      refine x_getF (pc := 13) dX7_rowOf_13 f_RX7_13 (by assumption) (by rfl) ?_
      refine x_iload (pc := 16) dX7_rowOf_16 rfl ?_
      refine x_iald (pc := 18) dX7_rowOf_18 (by assumption) (by omega) (by omega) (fun b_18 => ?_)
      rw [r1] at b_18 ⊢
      refine x_iload_n (pc := 19) dX7_rowOf_19 rfl ?_
      refine x_icmp_ne (pc := 20) 40 dX7_rowOf_20 rfl (fun c_20 => ?_) (fun c_20 => ?_)
      · (try simp (disch := omega) only [zb_e0, zb_n0, w32_id, w64_id, ne_eq, Classical.not_not] at c_20)
        refine x_iload (pc := 40) dX7_rowOf_40 rfl ?_
        refine x_istore (pc := 42) dX7_rowOf_42 (by decide) ?_
        refine x_iinc (pc := 44) dX7_rowOf_44 rfl (by decide) ?_
        refine x_goto (pc := 47) 6 dX7_rowOf_47 rfl ?_
        first
        | (have hy : PK (fun r => r.1 == c && r.2.1 == z) b kr (i + 1) (b + i) := PK_y hr (by simp; omega)
           refine x_loc [(6, iV (b + ((i + 1 : Nat) : Int))), (5, iV (b + i)), (0, rV m), (1, iV b), (2, iV (b + kr.length)), (3, iV c), (4, iV z)] (by rw [show b + ((i + 1 : Nat) : Int) = b + i + 1 by omega]; exact ⟨rfl, rfl, rfl, rfl, rfl, rfl, rfl, trivial⟩) (ih (i + 1) _ (by omega) hy (by omega)))
        | (have hy : PK (fun r => r.1 == c && r.2.1 == z) b kr (i + 1) res := PK_n hr (by simp; omega) hp
           refine x_loc [(6, iV (b + ((i + 1 : Nat) : Int))), (5, iV res), (0, rV m), (1, iV b), (2, iV (b + kr.length)), (3, iV c), (4, iV z)] (by rw [show b + ((i + 1 : Nat) : Int) = b + i + 1 by omega]; exact ⟨rfl, rfl, rfl, rfl, rfl, rfl, rfl, trivial⟩) (ih (i + 1) _ (by omega) hy (by omega)))
      · (try simp (disch := omega) only [zb_e0, zb_n0, w32_id, w64_id, ne_eq, Classical.not_not] at c_20)
        refine x_aload_n (pc := 23) dX7_rowOf_23 rfl ?_
        refine x_getF (pc := 24) dX7_rowOf_24 f_RX7_16 (by assumption) (by rfl) ?_
        refine x_iload (pc := 27) dX7_rowOf_27 rfl ?_
        refine x_iald (pc := 29) dX7_rowOf_29 (by assumption) (by omega) (by omega) (fun b_29 => ?_)
        rw [r2] at b_29 ⊢
        refine x_iload (pc := 30) dX7_rowOf_30 rfl ?_
        refine x_icmp_ne (pc := 32) 40 dX7_rowOf_32 rfl (fun c_32 => ?_) (fun c_32 => ?_)
        · (try simp (disch := omega) only [zb_e0, zb_n0, w32_id, w64_id, ne_eq, Classical.not_not] at c_32)
          refine x_iload (pc := 40) dX7_rowOf_40 rfl ?_
          refine x_istore (pc := 42) dX7_rowOf_42 (by decide) ?_
          refine x_iinc (pc := 44) dX7_rowOf_44 rfl (by decide) ?_
          refine x_goto (pc := 47) 6 dX7_rowOf_47 rfl ?_
          first
          | (have hy : PK (fun r => r.1 == c && r.2.1 == z) b kr (i + 1) (b + i) := PK_y hr (by simp; omega)
             refine x_loc [(6, iV (b + ((i + 1 : Nat) : Int))), (5, iV (b + i)), (0, rV m), (1, iV b), (2, iV (b + kr.length)), (3, iV c), (4, iV z)] (by rw [show b + ((i + 1 : Nat) : Int) = b + i + 1 by omega]; exact ⟨rfl, rfl, rfl, rfl, rfl, rfl, rfl, trivial⟩) (ih (i + 1) _ (by omega) hy (by omega)))
          | (have hy : PK (fun r => r.1 == c && r.2.1 == z) b kr (i + 1) res := PK_n hr (by simp; omega) hp
             refine x_loc [(6, iV (b + ((i + 1 : Nat) : Int))), (5, iV res), (0, rV m), (1, iV b), (2, iV (b + kr.length)), (3, iV c), (4, iV z)] (by rw [show b + ((i + 1 : Nat) : Int) = b + i + 1 by omega]; exact ⟨rfl, rfl, rfl, rfl, rfl, rfl, rfl, trivial⟩) (ih (i + 1) _ (by omega) hy (by omega)))
        · (try simp (disch := omega) only [zb_e0, zb_n0, w32_id, w64_id, ne_eq, Classical.not_not] at c_32)
          refine x_iload (pc := 35) dX7_rowOf_35 rfl ?_
          refine x_goto (pc := 37) 42 dX7_rowOf_37 rfl ?_
          refine x_istore (pc := 42) dX7_rowOf_42 (by decide) ?_
          refine x_iinc (pc := 44) dX7_rowOf_44 rfl (by decide) ?_
          refine x_goto (pc := 47) 6 dX7_rowOf_47 rfl ?_
          first
          | (have hy : PK (fun r => r.1 == c && r.2.1 == z) b kr (i + 1) (b + i) := PK_y hr (by simp; omega)
             refine x_loc [(6, iV (b + ((i + 1 : Nat) : Int))), (5, iV (b + i)), (0, rV m), (1, iV b), (2, iV (b + kr.length)), (3, iV c), (4, iV z)] (by rw [show b + ((i + 1 : Nat) : Int) = b + i + 1 by omega]; exact ⟨rfl, rfl, rfl, rfl, rfl, rfl, rfl, trivial⟩) (ih (i + 1) _ (by omega) hy (by omega)))
          | (have hy : PK (fun r => r.1 == c && r.2.1 == z) b kr (i + 1) res := PK_n hr (by simp; omega) hp
             refine x_loc [(6, iV (b + ((i + 1 : Nat) : Int))), (5, iV res), (0, rV m), (1, iV b), (2, iV (b + kr.length)), (3, iV c), (4, iV z)] (by rw [show b + ((i + 1 : Nat) : Int) = b + i + 1 by omega]; exact ⟨rfl, rfl, rfl, rfl, rfl, rfl, rfl, trivial⟩) (ih (i + 1) _ (by omega) hy (by omega)))

set_option maxHeartbeats 4000000 in
set_option maxRecDepth 100000 in
theorem c_m_rowOf {m : Int} (hM : isMT ty m) {b to : Int} {kr : List Row} {c z : Int} (hc : i32 c ∧ i32 z) (hR : MR h m b kr) (hto : to = b + kr.length) (hb : 0 ≤ b ∧ b + kr.length ≤ 3120) (hq : ∀ res, PK (fun r => r.1 == c && r.2.1 == z) b kr kr.length res → Q (some (iV res)) ty sz h) : zXM D mX7_rowOf d 0 0 [rV m, iV b, iV to, iV c, iV z] ty sz h Q := by
  have hM0 := hM
  obtain ⟨m9, m0, a1, a2, a3, a4, a5, a6, a7, a8, a9, a10, a11, a12, a13, a14, a15, a16, a17, a18, a19, a20, a21⟩ := hM
  subst hto
  refine x_iconst (pc := 0) dX7_rowOf_0 ?_
  refine x_istore (pc := 1) dX7_rowOf_1 (by decide) ?_
  refine x_iload_n (pc := 3) dX7_rowOf_3 rfl ?_
  refine x_istore (pc := 4) dX7_rowOf_4 (by decide) ?_
  exact x_loc _ (by exact ⟨by show _ = some (iV (b + ((0 : Nat) : Int))); rw [show b + ((0 : Nat) : Int) = b by omega]; rfl, rfl, rfl, rfl, rfl, rfl, rfl, trivial⟩) (c_m_rowOf_l hM0 hc hR hb hq (kr.length + 1) 0 (-1) (by omega) (PK_0 _ _ _) (by omega))

set_option maxHeartbeats 4000000 in
set_option maxRecDepth 100000 in
theorem c_m_onlyRow_l {m : Int} (hM : isMT ty m) {b : Int} {kr : List Row} {c : Int} (hc : i32 c) (hR : MR h m b kr) (hb : 0 ≤ b ∧ b + kr.length ≤ 3120) (hq : ∀ res, PK (fun r => r.1 == c) b kr kr.length res → Q (some (iV res)) ty sz h) : ∀ (n : Nat) (i : Nat) (res : Int), i ≤ kr.length → PK (fun r => r.1 == c) b kr i res → kr.length - i < n → zX D mX7_onlyRow d 0 0 6 [(5, iV (b + i)), (4, iV res), (0, rV m), (1, iV b), (2, iV (b + kr.length)), (3, iV c)] [] ty sz h Q := by
  intro n
  induction n with
  | zero =>
    intro i res h1 hp hm
    exfalso
    omega
  | succ n ih =>
    intro i res h1 hp hm
    have hM0 := hM
    obtain ⟨m9, m0, a1, a2, a3, a4, a5, a6, a7, a8, a9, a10, a11, a12, a13, a14, a15, a16, a17, a18, a19, a20, a21⟩ := hM
    refine x_iload (pc := 6) dX7_onlyRow_6 rfl ?_
    refine x_iload_n (pc := 8) dX7_onlyRow_8 rfl ?_
    refine x_icmp_ge (pc := 9) 38 dX7_onlyRow_9 rfl (fun c_9 => ?_) (fun c_9 => ?_)
    · (try simp (disch := omega) only [zb_e0, zb_n0, w32_id, w64_id, ne_eq, Classical.not_not] at c_9)
      refine x_iload (pc := 38) dX7_onlyRow_38 rfl ?_
      refine x_retv (pc := 40) ⟨dX7_onlyRow_40, Or.inl rfl⟩ ?_
      rw [show i = kr.length by omega] at hp
      exact hq _ hp
    · (try simp (disch := omega) only [zb_e0, zb_n0, w32_id, w64_id, ne_eq, Classical.not_not] at c_9)
      obtain ⟨r, hr⟩ : ∃ r, kr[i]? = some r := ⟨_, List.getElem?_eq_getElem (by omega)⟩
      obtain ⟨r1, r2, r3, r4⟩ := hR i r hr
      refine x_aload_n (pc := 12) dX7_onlyRow_12 rfl ?_
      refine x_getF (pc := 13) dX7_onlyRow_13 f_RX7_13 (by assumption) (by rfl) ?_
      refine x_iload (pc := 16) dX7_onlyRow_16 rfl ?_
      refine x_iald (pc := 18) dX7_onlyRow_18 (by assumption) (by omega) (by omega) (fun b_18 => ?_)
      rw [r1] at b_18 ⊢
      refine x_iload_n (pc := 19) dX7_onlyRow_19 rfl ?_
      refine x_icmp_ne (pc := 20) 28 dX7_onlyRow_20 rfl (fun c_20 => ?_) (fun c_20 => ?_)
      · (try simp (disch := omega) only [zb_e0, zb_n0, w32_id, w64_id, ne_eq, Classical.not_not] at c_20)
        refine x_iload (pc := 28) dX7_onlyRow_28 rfl ?_
        refine x_istore (pc := 30) dX7_onlyRow_30 (by decide) ?_
        refine x_iinc (pc := 32) dX7_onlyRow_32 rfl (by decide) ?_
        refine x_goto (pc := 35) 6 dX7_onlyRow_35 rfl ?_
        first
        | (have hy : PK (fun r => r.1 == c) b kr (i + 1) (b + i) := PK_y hr (by simp; omega)
           refine x_loc [(5, iV (b + ((i + 1 : Nat) : Int))), (4, iV (b + i)), (0, rV m), (1, iV b), (2, iV (b + kr.length)), (3, iV c)] (by rw [show b + ((i + 1 : Nat) : Int) = b + i + 1 by omega]; exact ⟨rfl, rfl, rfl, rfl, rfl, rfl, trivial⟩) (ih (i + 1) _ (by omega) hy (by omega)))
        | (have hy : PK (fun r => r.1 == c) b kr (i + 1) res := PK_n hr (by simp; omega) hp
           refine x_loc [(5, iV (b + ((i + 1 : Nat) : Int))), (4, iV res), (0, rV m), (1, iV b), (2, iV (b + kr.length)), (3, iV c)] (by rw [show b + ((i + 1 : Nat) : Int) = b + i + 1 by omega]; exact ⟨rfl, rfl, rfl, rfl, rfl, rfl, trivial⟩) (ih (i + 1) _ (by omega) hy (by omega)))
      · (try simp (disch := omega) only [zb_e0, zb_n0, w32_id, w64_id, ne_eq, Classical.not_not] at c_20)
        refine x_iload (pc := 23) dX7_onlyRow_23 rfl ?_
        refine x_goto (pc := 25) 30 dX7_onlyRow_25 rfl ?_
        refine x_istore (pc := 30) dX7_onlyRow_30 (by decide) ?_
        refine x_iinc (pc := 32) dX7_onlyRow_32 rfl (by decide) ?_
        refine x_goto (pc := 35) 6 dX7_onlyRow_35 rfl ?_
        first
        | (have hy : PK (fun r => r.1 == c) b kr (i + 1) (b + i) := PK_y hr (by simp; omega)
           refine x_loc [(5, iV (b + ((i + 1 : Nat) : Int))), (4, iV (b + i)), (0, rV m), (1, iV b), (2, iV (b + kr.length)), (3, iV c)] (by rw [show b + ((i + 1 : Nat) : Int) = b + i + 1 by omega]; exact ⟨rfl, rfl, rfl, rfl, rfl, rfl, trivial⟩) (ih (i + 1) _ (by omega) hy (by omega)))
        | (have hy : PK (fun r => r.1 == c) b kr (i + 1) res := PK_n hr (by simp; omega) hp
           refine x_loc [(5, iV (b + ((i + 1 : Nat) : Int))), (4, iV res), (0, rV m), (1, iV b), (2, iV (b + kr.length)), (3, iV c)] (by rw [show b + ((i + 1 : Nat) : Int) = b + i + 1 by omega]; exact ⟨rfl, rfl, rfl, rfl, rfl, rfl, trivial⟩) (ih (i + 1) _ (by omega) hy (by omega)))

set_option maxHeartbeats 4000000 in
set_option maxRecDepth 100000 in
theorem c_m_onlyRow {m : Int} (hM : isMT ty m) {b to : Int} {kr : List Row} {c : Int} (hc : i32 c) (hR : MR h m b kr) (hto : to = b + kr.length) (hb : 0 ≤ b ∧ b + kr.length ≤ 3120) (hq : ∀ res, PK (fun r => r.1 == c) b kr kr.length res → Q (some (iV res)) ty sz h) : zXM D mX7_onlyRow d 0 0 [rV m, iV b, iV to, iV c] ty sz h Q := by
  have hM0 := hM
  obtain ⟨m9, m0, a1, a2, a3, a4, a5, a6, a7, a8, a9, a10, a11, a12, a13, a14, a15, a16, a17, a18, a19, a20, a21⟩ := hM
  subst hto
  refine x_iconst (pc := 0) dX7_onlyRow_0 ?_
  refine x_istore (pc := 1) dX7_onlyRow_1 (by decide) ?_
  refine x_iload_n (pc := 3) dX7_onlyRow_3 rfl ?_
  refine x_istore (pc := 4) dX7_onlyRow_4 (by decide) ?_
  exact x_loc _ (by exact ⟨by show _ = some (iV (b + ((0 : Nat) : Int))); rw [show b + ((0 : Nat) : Int) = b by omega]; rfl, rfl, rfl, rfl, rfl, rfl, trivial⟩) (c_m_onlyRow_l hM0 hc hR hb hq (kr.length + 1) 0 (-1) (by omega) (PK_0 _ _ _) (by omega))

set_option maxHeartbeats 4000000 in
set_option maxRecDepth 100000 in
theorem c_m_kindRow_l {m : Int} (hM : isMT ty m) {e k : Int} {kr : List Row} (hk : i32 k) (he : 0 ≤ e ∧ e ≤ 5) (hR : MR h m (520 * e) kr) (hn : h (m + 6) e = kr.length ∧ kr.length ≤ 510) (hq : ∀ res, PK (fun r => r.1 == 75 && r.2.1 == k) (520 * e) kr kr.length res → Q (some (iV res)) ty sz h) : ∀ (n : Nat) (i : Nat) (res : Int), i ≤ kr.length → PK (fun r => r.1 == 75 && r.2.1 == k) (520 * e) kr i res → kr.length - i < n → zX D mX7_kindRow d 0 0 9 [(4, iV (520 * e + i)), (3, iV res), (0, rV m), (1, iV e), (2, iV k)] [] ty sz h Q := by
  intro n
  induction n with
  | zero =>
    intro i res h1 hp hm
    exfalso
    omega
  | succ n ih =>
    intro i res h1 hp hm
    have hM0 := hM
    obtain ⟨m9, m0, a1, a2, a3, a4, a5, a6, a7, a8, a9, a10, a11, a12, a13, a14, a15, a16, a17, a18, a19, a20, a21⟩ := hM
    refine x_iload (pc := 9) dX7_kindRow_9 rfl ?_
    refine x_sipush (pc := 11) dX7_kindRow_11 (by decide) ?_
    refine x_iload_n (pc := 14) dX7_kindRow_14 rfl ?_
    refine x_imul (pc := 15) dX7_kindRow_15 ?_
    refine x_aload_n (pc := 16) dX7_kindRow_16 rfl ?_
    refine x_getF (pc := 17) dX7_kindRow_17 f_RX7_25 (by assumption) (by rfl) ?_
    refine x_iload_n (pc := 20) dX7_kindRow_20 rfl ?_
    refine x_iald (pc := 21) dX7_kindRow_21 (by assumption) (by omega) (by omega) (fun b_21 => ?_)
    rw [hn.1] at b_21 ⊢
    refine x_iadd (pc := 22) dX7_kindRow_22 ?_
    refine x_icmp_ge (pc := 23) 62 dX7_kindRow_23 rfl (fun c_23 => ?_) (fun c_23 => ?_)
    · (try simp (disch := omega) only [zb_e0, zb_n0, w32_id, w64_id, ne_eq, Classical.not_not] at c_23)
      refine x_iload_n (pc := 62) dX7_kindRow_62 rfl ?_
      refine x_retv (pc := 63) ⟨dX7_kindRow_63, Or.inl rfl⟩ ?_
      rw [show i = kr.length by omega] at hp
      exact hq _ hp
    · (try simp (disch := omega) only [zb_e0, zb_n0, w32_id, w64_id, ne_eq, Classical.not_not] at c_23)
      obtain ⟨r, hr⟩ : ∃ r, kr[i]? = some r := ⟨_, List.getElem?_eq_getElem (by omega)⟩
      obtain ⟨r1, r2, r3, r4⟩ := hR i r hr
      refine x_aload_n (pc := 26) dX7_kindRow_26 rfl ?_
      refine x_getF (pc := 27) dX7_kindRow_27 f_RX7_13 (by assumption) (by rfl) ?_
      refine x_iload (pc := 30) dX7_kindRow_30 rfl ?_
      refine x_iald (pc := 32) dX7_kindRow_32 (by assumption) (by omega) (by omega) (fun b_32 => ?_)
      rw [r1] at b_32 ⊢
      refine x_bipush (pc := 33) dX7_kindRow_33 (by decide) ?_
      refine x_icmp_ne (pc := 35) 54 dX7_kindRow_35 rfl (fun c_35 => ?_) (fun c_35 => ?_)
      · (try simp (disch := omega) only [zb_e0, zb_n0, w32_id, w64_id, ne_eq, Classical.not_not] at c_35)
        refine x_iload_n (pc := 54) dX7_kindRow_54 rfl ?_
        refine x_istore_n (pc := 55) dX7_kindRow_55 (by decide) ?_
        refine x_iinc (pc := 56) dX7_kindRow_56 rfl (by decide) ?_
        refine x_goto (pc := 59) 9 dX7_kindRow_59 rfl ?_
        first
        | (have hy : PK (fun r => r.1 == 75 && r.2.1 == k) (520 * e) kr (i + 1) (520 * e + i) := PK_y hr (by simp; omega)
           refine x_loc [(4, iV (520 * e + ((i + 1 : Nat) : Int))), (3, iV (520 * e + i)), (0, rV m), (1, iV e), (2, iV k)] (by rw [show 520 * e + ((i + 1 : Nat) : Int) = 520 * e + i + 1 by omega]; exact ⟨rfl, rfl, rfl, rfl, rfl, trivial⟩) (ih (i + 1) _ (by omega) hy (by omega)))
        | (have hy : PK (fun r => r.1 == 75 && r.2.1 == k) (520 * e) kr (i + 1) res := PK_n hr (by simp; omega) hp
           refine x_loc [(4, iV (520 * e + ((i + 1 : Nat) : Int))), (3, iV res), (0, rV m), (1, iV e), (2, iV k)] (by rw [show 520 * e + ((i + 1 : Nat) : Int) = 520 * e + i + 1 by omega]; exact ⟨rfl, rfl, rfl, rfl, rfl, trivial⟩) (ih (i + 1) _ (by omega) hy (by omega)))
      · (try simp (disch := omega) only [zb_e0, zb_n0, w32_id, w64_id, ne_eq, Classical.not_not] at c_35)
        refine x_aload_n (pc := 38) dX7_kindRow_38 rfl ?_
        refine x_getF (pc := 39) dX7_kindRow_39 f_RX7_16 (by assumption) (by rfl) ?_
        refine x_iload (pc := 42) dX7_kindRow_42 rfl ?_
        refine x_iald (pc := 44) dX7_kindRow_44 (by assumption) (by omega) (by omega) (fun b_44 => ?_)
        rw [r2] at b_44 ⊢
        refine x_iload_n (pc := 45) dX7_kindRow_45 rfl ?_
        refine x_icmp_ne (pc := 46) 54 dX7_kindRow_46 rfl (fun c_46 => ?_) (fun c_46 => ?_)
        · (try simp (disch := omega) only [zb_e0, zb_n0, w32_id, w64_id, ne_eq, Classical.not_not] at c_46)
          refine x_iload_n (pc := 54) dX7_kindRow_54 rfl ?_
          refine x_istore_n (pc := 55) dX7_kindRow_55 (by decide) ?_
          refine x_iinc (pc := 56) dX7_kindRow_56 rfl (by decide) ?_
          refine x_goto (pc := 59) 9 dX7_kindRow_59 rfl ?_
          first
          | (have hy : PK (fun r => r.1 == 75 && r.2.1 == k) (520 * e) kr (i + 1) (520 * e + i) := PK_y hr (by simp; omega)
             refine x_loc [(4, iV (520 * e + ((i + 1 : Nat) : Int))), (3, iV (520 * e + i)), (0, rV m), (1, iV e), (2, iV k)] (by rw [show 520 * e + ((i + 1 : Nat) : Int) = 520 * e + i + 1 by omega]; exact ⟨rfl, rfl, rfl, rfl, rfl, trivial⟩) (ih (i + 1) _ (by omega) hy (by omega)))
          | (have hy : PK (fun r => r.1 == 75 && r.2.1 == k) (520 * e) kr (i + 1) res := PK_n hr (by simp; omega) hp
             refine x_loc [(4, iV (520 * e + ((i + 1 : Nat) : Int))), (3, iV res), (0, rV m), (1, iV e), (2, iV k)] (by rw [show 520 * e + ((i + 1 : Nat) : Int) = 520 * e + i + 1 by omega]; exact ⟨rfl, rfl, rfl, rfl, rfl, trivial⟩) (ih (i + 1) _ (by omega) hy (by omega)))
        · (try simp (disch := omega) only [zb_e0, zb_n0, w32_id, w64_id, ne_eq, Classical.not_not] at c_46)
          refine x_iload (pc := 49) dX7_kindRow_49 rfl ?_
          refine x_goto (pc := 51) 55 dX7_kindRow_51 rfl ?_
          refine x_istore_n (pc := 55) dX7_kindRow_55 (by decide) ?_
          refine x_iinc (pc := 56) dX7_kindRow_56 rfl (by decide) ?_
          refine x_goto (pc := 59) 9 dX7_kindRow_59 rfl ?_
          first
          | (have hy : PK (fun r => r.1 == 75 && r.2.1 == k) (520 * e) kr (i + 1) (520 * e + i) := PK_y hr (by simp; omega)
             refine x_loc [(4, iV (520 * e + ((i + 1 : Nat) : Int))), (3, iV (520 * e + i)), (0, rV m), (1, iV e), (2, iV k)] (by rw [show 520 * e + ((i + 1 : Nat) : Int) = 520 * e + i + 1 by omega]; exact ⟨rfl, rfl, rfl, rfl, rfl, trivial⟩) (ih (i + 1) _ (by omega) hy (by omega)))
          | (have hy : PK (fun r => r.1 == 75 && r.2.1 == k) (520 * e) kr (i + 1) res := PK_n hr (by simp; omega) hp
             refine x_loc [(4, iV (520 * e + ((i + 1 : Nat) : Int))), (3, iV res), (0, rV m), (1, iV e), (2, iV k)] (by rw [show 520 * e + ((i + 1 : Nat) : Int) = 520 * e + i + 1 by omega]; exact ⟨rfl, rfl, rfl, rfl, rfl, trivial⟩) (ih (i + 1) _ (by omega) hy (by omega)))

set_option maxHeartbeats 4000000 in
set_option maxRecDepth 100000 in
theorem c_m_kindRow {m : Int} (hM : isMT ty m) {e k : Int} {l : List Row} (hk : i32 k) (he : 0 ≤ e ∧ e ≤ 5) (hR : MR h m (520 * e) l) (hn : h (m + 6) e = l.length ∧ l.length ≤ 510) (hW : WF l) (hq : ∀ res, (res = -1 ∧ kR k l = []) ∨ (∃ (j : Nat) (R : Row), res = 520 * e + j ∧ l[j]? = some R ∧ R.1 = 75 ∧ R.2.1 = k) → Q (some (iV res)) ty sz h) : zXM D mX7_kindRow d 0 0 [rV m, iV e, iV k] ty sz h Q := by
  have hM0 := hM
  obtain ⟨m9, m0, a1, a2, a3, a4, a5, a6, a7, a8, a9, a10, a11, a12, a13, a14, a15, a16, a17, a18, a19, a20, a21⟩ := hM
  have hq2 : ∀ res, PK (fun r => r.1 == 75 && r.2.1 == k) (520 * e) l l.length res → Q (some (iV res)) ty sz h := by
    intro res hp
    refine hq res ?_
    rcases hp with ⟨p1, p2⟩ | ⟨j, R, p1, p2, p3⟩
    · left
      refine ⟨p1, Classical.byContradiction (fun z => ?_)⟩
      obtain ⟨r, hr, e1, e2⟩ := (kR_ne k l hW).mp z
      rw [List.take_length] at p2
      exact (lastR_none l).mp p2 r hr (by simp [e1, e2])
    · right
      rw [List.take_length] at p3
      have := (lastR_mem l p3).2
      simp at this
      exact ⟨j, R, p1, p2, this.1, this.2⟩
  refine x_iconst (pc := 0) dX7_kindRow_0 ?_
  refine x_istore_n (pc := 1) dX7_kindRow_1 (by decide) ?_
  refine x_sipush (pc := 2) dX7_kindRow_2 (by decide) ?_
  refine x_iload_n (pc := 5) dX7_kindRow_5 rfl ?_
  refine x_imul (pc := 6) dX7_kindRow_6 ?_
  refine x_istore (pc := 7) dX7_kindRow_7 (by decide) ?_
  exact x_loc _ (by exact ⟨by show _ = some (iV (520 * e + ((0 : Nat) : Int))); rw [show 520 * e + ((0 : Nat) : Int) = 520 * e by omega]; rfl, rfl, rfl, rfl, rfl, trivial⟩) (c_m_kindRow_l hM0 hk he hR hn hq2 (l.length + 1) 0 (-1) (by omega) (PK_0 _ _ _) (by omega))

set_option maxHeartbeats 4000000 in
set_option maxRecDepth 100000 in
theorem c_m_kindEnd_l {m : Int} (hM : isMT ty m) {e fr : Int} {j : Nat} {l t : List Row} (ht : t = l.drop (j + 1)) (hj : j < l.length) (he : 0 ≤ e ∧ e ≤ 5) (hR : MR h m (520 * e) l) (hn : h (m + 6) e = l.length ∧ l.length ≤ 510) (hq : ∀ i : Nat, i ≤ t.length → (∀ q ∈ t.take i, q.1 ≠ 75) → (i = t.length ∨ ∃ r, t[i]? = some r ∧ r.1 = 75) → Q (some (iV (520 * e + j + 1 + i))) ty sz h) : ∀ (n : Nat) (i : Nat), i ≤ t.length → (∀ q ∈ t.take i, q.1 ≠ 75) → t.length - i < n → zX D mX7_kindEnd d 0 0 4 [(3, iV (520 * e + j + 1 + i)), (0, rV m), (1, iV e), (2, iV fr)] [] ty sz h Q := by
  intro n
  induction n with
  | zero =>
    intro i h1 hp hm
    exfalso
    omega
  | succ n ih =>
    intro i h1 hp hm
    have hM0 := hM
    obtain ⟨m9, m0, a1, a2, a3, a4, a5, a6, a7, a8, a9, a10, a11, a12, a13, a14, a15, a16, a17, a18, a19, a20, a21⟩ := hM
    have htl : t.length = l.length - (j + 1) := by rw [ht, List.length_drop]
    refine x_iload_n (pc := 4) dX7_kindEnd_4 rfl ?_
    refine x_sipush (pc := 5) dX7_kindEnd_5 (by decide) ?_
    refine x_iload_n (pc := 8) dX7_kindEnd_8 rfl ?_
    refine x_imul (pc := 9) dX7_kindEnd_9 ?_
    refine x_aload_n (pc := 10) dX7_kindEnd_10 rfl ?_
    refine x_getF (pc := 11) dX7_kindEnd_11 f_RX7_25 (by assumption) (by rfl) ?_
    refine x_iload_n (pc := 14) dX7_kindEnd_14 rfl ?_
    refine x_iald (pc := 15) dX7_kindEnd_15 (by assumption) (by omega) (by omega) (fun b_15 => ?_)
    rw [hn.1] at b_15 ⊢
    refine x_iadd (pc := 16) dX7_kindEnd_16 ?_
    refine x_icmp_ge (pc := 17) 37 dX7_kindEnd_17 rfl (fun c_17 => ?_) (fun c_17 => ?_)
    · (try simp (disch := omega) only [zb_e0, zb_n0, w32_id, w64_id, ne_eq, Classical.not_not] at c_17)
      refine x_iload_n (pc := 37) dX7_kindEnd_37 rfl ?_
      refine x_retv (pc := 38) ⟨dX7_kindEnd_38, Or.inl rfl⟩ ?_
      first
      | exact hq i h1 hp (Or.inr ⟨r, hr, by assumption⟩)
      | exact hq i h1 hp (Or.inl (by omega))
    · (try simp (disch := omega) only [zb_e0, zb_n0, w32_id, w64_id, ne_eq, Classical.not_not] at c_17)
      obtain ⟨r, hr⟩ : ∃ r, t[i]? = some r := ⟨_, List.getElem?_eq_getElem (by omega)⟩
      have hr2 := hr
      rw [ht, List.getElem?_drop] at hr2
      have r1 := (hR _ r hr2).1
      rw [show 520 * e + ((j + 1 + i : Nat) : Int) = 520 * e + j + 1 + i by omega] at r1
      refine x_aload_n (pc := 20) dX7_kindEnd_20 rfl ?_
      refine x_getF (pc := 21) dX7_kindEnd_21 f_RX7_13 (by assumption) (by rfl) ?_
      refine x_iload_n (pc := 24) dX7_kindEnd_24 rfl ?_
      refine x_iald (pc := 25) dX7_kindEnd_25 (by assumption) (by omega) (by omega) (fun b_25 => ?_)
      rw [r1] at b_25 ⊢
      refine x_bipush (pc := 26) dX7_kindEnd_26 (by decide) ?_
      refine x_icmp_eq (pc := 28) 37 dX7_kindEnd_28 rfl (fun c_28 => ?_) (fun c_28 => ?_)
      · (try simp (disch := omega) only [zb_e0, zb_n0, w32_id, w64_id, ne_eq, Classical.not_not] at c_28)
        refine x_iload_n (pc := 37) dX7_kindEnd_37 rfl ?_
        refine x_retv (pc := 38) ⟨dX7_kindEnd_38, Or.inl rfl⟩ ?_
        first
        | exact hq i h1 hp (Or.inr ⟨r, hr, by assumption⟩)
        | exact hq i h1 hp (Or.inl (by omega))
      · (try simp (disch := omega) only [zb_e0, zb_n0, w32_id, w64_id, ne_eq, Classical.not_not] at c_28)
        refine x_iinc (pc := 31) dX7_kindEnd_31 rfl (by decide) ?_
        refine x_goto (pc := 34) 4 dX7_kindEnd_34 rfl ?_
        refine x_loc [(3, iV (520 * e + j + 1 + ((i + 1 : Nat) : Int))), (0, rV m), (1, iV e), (2, iV fr)] (by rw [show 520 * e + (j : Int) + 1 + ((i + 1 : Nat) : Int) = 520 * e + j + 1 + i + 1 by omega]; exact ⟨rfl, rfl, rfl, rfl, trivial⟩) (ih (i + 1) (by omega) (fun q hq1 => ?_) (by omega))
        rw [take_snoc hr] at hq1
        rcases List.mem_append.mp hq1 with z | z
        · exact hp q z
        · rw [List.mem_singleton.mp z]; assumption

set_option maxHeartbeats 4000000 in
set_option maxRecDepth 100000 in
theorem c_m_kindEnd {m : Int} (hM : isMT ty m) {e k fr : Int} {j : Nat} {R : Row} {l : List Row} (hfr : fr = 520 * e + j) (hj : l[j]? = some R) (h75 : R.1 = 75) (hk : R.2.1 = k) (he : 0 ≤ e ∧ e ≤ 5) (hR : MR h m (520 * e) l) (hn : h (m + 6) e = l.length ∧ l.length ≤ 510) (hW : WF l) (hq : MR h m fr (kR k l) → Q (some (iV (fr + (kR k l).length))) ty sz h) : zXM D mX7_kindEnd d 0 0 [rV m, iV e, iV fr] ty sz h Q := by
  have hM0 := hM
  obtain ⟨m9, m0, a1, a2, a3, a4, a5, a6, a7, a8, a9, a10, a11, a12, a13, a14, a15, a16, a17, a18, a19, a20, a21⟩ := hM
  have hjl := (List.getElem?_eq_some_iff.mp hj).1
  refine x_iload_n (pc := 0) dX7_kindEnd_0 rfl ?_
  refine x_iconst (pc := 1) dX7_kindEnd_1 ?_
  refine x_iadd (pc := 2) dX7_kindEnd_2 ?_
  refine x_istore_n (pc := 3) dX7_kindEnd_3 (by decide) ?_
  refine x_loc _ (by exact ⟨by show _ = some (iV (520 * e + j + 1 + ((0 : Nat) : Int))); rw [show 520 * e + (j : Int) + 1 + ((0 : Nat) : Int) = fr + 1 by omega]; rfl, rfl, rfl, rfl, trivial⟩) (c_m_kindEnd_l (t := l.drop (j + 1)) hM0 rfl hjl he hR hn (fun i i1 i2 i3 => ?_) ((l.drop (j + 1)).length + 1) 0 (by omega) (fun q hq1 => by simp at hq1) (by omega))
  obtain ⟨k1, k2⟩ := kR_len hW hj h75 hk i1 i2 i3
  have hM2 : MR h m fr (kR k l) := by
    rw [k1, hfr]
    intro u r hu
    have hu2 : (l.drop j)[u]? = some r := by
      rw [List.getElem?_take] at hu
      split at hu
      · exact hu
      · cases hu
    exact hR.drop j u r hu2
  have := hq hM2
  rw [k2] at this
  rw [show 520 * e + (j : Int) + 1 + i = fr + ((i + 1 : Nat) : Int) by omega]
  exact this

end C31
