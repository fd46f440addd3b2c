section C9
variable {D : va_G} {d : Nat} {ty : zT} {sz : Nat} {h : zH} {Q : zQ}
theorem Fr.t {lo hi : Int} {a b c : zH} (x : Fr lo hi a b) (y : Fr lo hi b c) : Fr lo hi a c := fun q hq => (y q hq).trans (x q hq)
abbrev i10 (x : Int) : Prop := 0 ≤ x ∧ x ≤ 9999999
theorem semT_tail_snoc (rs : List PR) (r : PR) : (semT (rs ++ [r])).tail = (semT rs).tail ++ ((if rs = [] then [] else [59]) ++ rT r) := by
  cases rs with
  | nil => simp [semT]
  | cons q l =>
    rw [semT_app, semT_1]
    simp [semT]
theorem semT_tail_len (rs : List PR) (hne : rs ≠ []) : (semT rs).tail.length + 1 = (semT rs).length ∧ 0 < (semT rs).tail.length := by
  cases rs with
  | nil => exact absurd rfl hne
  | cons q l => simp [semT, rT]

set_option maxHeartbeats 4000000 in
set_option maxRecDepth 100000 in
theorem c_p_row39 {p c a b e : Int} (hp : isPT ty p) (hc : i32 c) (ha : i10 a) (hb : b = -1 ∨ i10 b) (he : e = -1 ∨ i10 e) {g : zH} {T U : List Int} (hF : Fr p (p + 1) h g) (hP : PrIs g p T) (hU : T ++ (if e = -1 then [] else 32 :: numT e) = U) (hl : U.length ≤ 1500) (hq : ∀ h', Fr p (p + 1) h h' → PrIs h' p U → Q none ty sz h') : zX D mX4_addRow (d + 3) 0 0 39 [(0, rV p), (1, iV c), (2, iV a), (3, iV b), (4, iV e)] [] ty sz g Q := by
  have hp0 := hp
  obtain ⟨p9, p0, p1⟩ := hp
  refine x_iload (pc := 39) dX4_addRow_39 rfl ?_
  refine x_iconst (pc := 41) dX4_addRow_41 ?_
  refine x_icmp_eq (pc := 42) 57 dX4_addRow_42 rfl (fun c_42 => ?_) (fun c_42 => ?_)
  · (try simp (disch := omega) only [zb_e0, zb_n0, w32_id, w64_id, ne_eq, Classical.not_not] at c_42)
    refine x_ret (pc := 57) ⟨dX4_addRow_57, rfl⟩ ?_
    first
      | (refine hq _ (Fr.t (Fr.t hF hF1) hF2) ?_
         rw [List.append_assoc] at hP2
         exact hP2)
      | (rw [if_pos (by assumption), List.append_nil] at hU
         subst hU
         exact hq g hF hP)
  · (try simp (disch := omega) only [zb_e0, zb_n0, w32_id, w64_id, ne_eq, Classical.not_not] at c_42)
    rw [if_neg c_42] at hU
    subst hU
    refine x_aload_n (pc := 45) dX4_addRow_45 rfl ?_
    refine x_bipush (pc := 46) dX4_addRow_46 (by decide) ?_
    refine x_callV1 (pc := 48) dX4_addRow_48 (k_RX4_80 _ rfl) tmv_X4_addSign (by assumption) rfl rfl rfl ?_
    refine c_p_sign hp0 (by omega) hP (by (try simp only [List.length_append, List.length_singleton, List.length_cons, List.length_nil] at *); omega) (fun g1 hF1 hP1 => ?_)
    dsimp only [Option.toList, List.cons_append, List.nil_append]
    refine x_aload_n (pc := 51) dX4_addRow_51 rfl ?_
    refine x_iload (pc := 52) dX4_addRow_52 rfl ?_
    refine x_callV1 (pc := 54) dX4_addRow_54 (k_RX4_84 _ rfl) tmv_X4_addNumber (by assumption) rfl rfl rfl ?_
    refine c_p_number hp0 (by omega) hP1 (by (try simp only [List.length_append, List.length_singleton, List.length_cons, List.length_nil] at *); omega) (fun g2 hF2 hP2 => ?_)
    dsimp only [Option.toList, List.cons_append, List.nil_append]
    refine x_ret (pc := 57) ⟨dX4_addRow_57, rfl⟩ ?_
    first
      | (refine hq _ (Fr.t (Fr.t hF hF1) hF2) ?_
         rw [List.append_assoc] at hP2
         exact hP2)
      | (rw [if_pos (by assumption), List.append_nil] at hU
         subst hU
         exact hq g hF hP)

set_option maxHeartbeats 4000000 in
set_option maxRecDepth 100000 in
theorem c_p_row13 {p c a b e : Int} (hp : isPT ty p) (hc : i32 c) (ha : i10 a) (hb : b = -1 ∨ i10 b) (he : e = -1 ∨ i10 e) {g : zH} {T U : List Int} (hF : Fr p (p + 1) h g) (hP : PrIs g p T) (hU : T ++ rT (c, a, b, e) = U) (hl : U.length ≤ 1500) (hq : ∀ h', Fr p (p + 1) h h' → PrIs h' p U → Q none ty sz h') : zX D mX4_addRow (d + 3) 0 0 13 [(0, rV p), (1, iV c), (2, iV a), (3, iV b), (4, iV e)] [] ty sz g Q := by
  have hp0 := hp
  obtain ⟨p9, p0, p1⟩ := hp
  have hl2 : (T ++ rT (c, a, b, e)).length ≤ 1500 := by rw [hU]; exact hl
  simp only [rT, List.length_append, List.length_cons] at hl2
  refine x_aload_n (pc := 13) dX4_addRow_13 rfl ?_
  refine x_iload_n (pc := 14) dX4_addRow_14 rfl ?_
  refine x_callV1 (pc := 15) dX4_addRow_15 (k_RX4_80 _ rfl) tmv_X4_addSign (by assumption) rfl rfl rfl ?_
  refine c_p_sign hp0 (by omega) hP (by (try simp only [List.length_append, List.length_singleton, List.length_cons, List.length_nil] at *); omega) (fun g1 hF1 hP1 => ?_)
  dsimp only [Option.toList, List.cons_append, List.nil_append]
  refine x_aload_n (pc := 18) dX4_addRow_18 rfl ?_
  refine x_iload_n (pc := 19) dX4_addRow_19 rfl ?_
  refine x_callV1 (pc := 20) dX4_addRow_20 (k_RX4_84 _ rfl) tmv_X4_addNumber (by assumption) rfl rfl rfl ?_
  refine c_p_number hp0 (by omega) hP1 (by (try simp only [List.length_append, List.length_singleton, List.length_cons, List.length_nil] at *); omega) (fun g2 hF2 hP2 => ?_)
  dsimp only [Option.toList, List.cons_append, List.nil_append]
  refine x_iload_n (pc := 23) dX4_addRow_23 rfl ?_
  refine x_iconst (pc := 24) dX4_addRow_24 ?_
  refine x_icmp_eq (pc := 25) 39 dX4_addRow_25 rfl (fun c_25 => ?_) (fun c_25 => ?_)
  · (try simp (disch := omega) only [zb_e0, zb_n0, w32_id, w64_id, ne_eq, Classical.not_not] at c_25)
    first
      | exact c_p_row39 hp0 hc ha hb he (Fr.t (Fr.t (Fr.t (Fr.t hF hF1) hF2) hF3) hF4) hP4 (by rw [← hU, rT, if_neg c_25]; simp) hl hq
      | exact c_p_row39 hp0 hc ha hb he (Fr.t (Fr.t hF hF1) hF2) hP2 (by rw [← hU, rT, if_pos c_25]; simp) hl hq
  · (try simp (disch := omega) only [zb_e0, zb_n0, w32_id, w64_id, ne_eq, Classical.not_not] at c_25)
    refine x_aload_n (pc := 28) dX4_addRow_28 rfl ?_
    refine x_bipush (pc := 29) dX4_addRow_29 (by decide) ?_
    refine x_callV1 (pc := 31) dX4_addRow_31 (k_RX4_80 _ rfl) tmv_X4_addSign (by assumption) rfl rfl rfl ?_
    rw [if_neg c_25] at hl2
    refine c_p_sign hp0 (by omega) hP2 (by (try simp only [List.length_append, List.length_singleton, List.length_cons, List.length_nil] at *); omega) (fun g3 hF3 hP3 => ?_)
    dsimp only [Option.toList, List.cons_append, List.nil_append]
    refine x_aload_n (pc := 34) dX4_addRow_34 rfl ?_
    refine x_iload_n (pc := 35) dX4_addRow_35 rfl ?_
    refine x_callV1 (pc := 36) dX4_addRow_36 (k_RX4_84 _ rfl) tmv_X4_addNumber (by assumption) rfl rfl rfl ?_
    refine c_p_number hp0 (by omega) hP3 (by (try simp only [List.length_append, List.length_singleton, List.length_cons, List.length_nil] at *); omega) (fun g4 hF4 hP4 => ?_)
    dsimp only [Option.toList, List.cons_append, List.nil_append]
    first
      | exact c_p_row39 hp0 hc ha hb he (Fr.t (Fr.t (Fr.t (Fr.t hF hF1) hF2) hF3) hF4) hP4 (by rw [← hU, rT, if_neg c_25]; simp) hl hq
      | exact c_p_row39 hp0 hc ha hb he (Fr.t (Fr.t hF hF1) hF2) hP2 (by rw [← hU, rT, if_pos c_25]; simp) hl hq

set_option maxHeartbeats 4000000 in
set_option maxRecDepth 100000 in
theorem c_p_row {p c a b e : Int} (hp : isPT ty p) (hc : i32 c) (ha : i10 a) (hb : b = -1 ∨ i10 b) (he : e = -1 ∨ i10 e) {rs : List PR} (hP : PrR h p rs) (hl : (semT (rs ++ [(c, a, b, e)])).length ≤ 1501) (hq : ∀ h', Fr p (p + 1) h h' → PrR h' p (rs ++ [(c, a, b, e)]) → Q none ty sz h') : zXM D mX4_addRow (d + 3) 0 0 [rV p, iV c, iV a, iV b, iV e] ty sz h Q := by
  have hp0 := hp
  obtain ⟨p9, p0, p1⟩ := hp
  have e1 : h p 1 = (semT rs).tail.length := hP.1
  unfold PrR at hP hq
  rw [semT_tail_snoc] at hq
  have hls := (semT_tail_len (rs ++ [(c, a, b, e)]) (by simp)).1
  rw [semT_tail_snoc] at hls
  by_cases hrs : rs = []
  · subst hrs
    simp only [if_true, List.nil_append] at hq hls hl
    refine x_aload_n (pc := 0) dX4_addRow_0 rfl ?_
    refine y_getI 1 (pc := 1) dX4_addRow_1 f_RX4_15 (by assumption) rfl (fun b_1 => ?_)
    rw [e1]
    refine x_if_le (pc := 4) 13 dX4_addRow_4 rfl (fun c_4 => ?_) (fun c_4 => absurd (by decide) c_4)
    exact c_p_row13 hp0 hc ha hb he (Fr.rf _ _ _) hP rfl (by omega) hq
  have hpos := (semT_tail_len rs hrs).2
  simp only [if_neg hrs] at hq hls
  refine x_aload_n (pc := 0) dX4_addRow_0 rfl ?_
  refine y_getI 1 (pc := 1) dX4_addRow_1 f_RX4_15 (by assumption) rfl (fun b_1 => ?_)
  refine x_if_le (pc := 4) 13 dX4_addRow_4 rfl (fun c_4 => ?_) (fun c_4 => ?_)
  · (try simp (disch := omega) only [zb_e0, zb_n0, w32_id, w64_id, ne_eq, Classical.not_not] at c_4)
    omega
  · (try simp (disch := omega) only [zb_e0, zb_n0, w32_id, w64_id, ne_eq, Classical.not_not] at c_4)
    refine x_aload_n (pc := 7) dX4_addRow_7 rfl ?_
    refine x_bipush (pc := 8) dX4_addRow_8 (by decide) ?_
    refine x_callV1 (pc := 10) dX4_addRow_10 (k_RX4_80 _ rfl) tmv_X4_addSign (by assumption) rfl rfl rfl ?_
    refine c_p_sign hp0 (by omega) hP (by (try simp only [List.length_append, List.length_singleton, List.length_cons, List.length_nil] at *); omega) (fun g1 hF1 hP1 => ?_)
    dsimp only [Option.toList, List.cons_append, List.nil_append]
    exact c_p_row13 hp0 hc ha hb he hF1 hP1 (by simp) (by omega) hq

def nmF (f : Int → Int) (c : Int) (i : Nat) : List PR := if f i = -1 then [] else [(c, (i : Int), f i, -1)]
noncomputable def exF1 (f : Int → Int) (s t : Nat) : List PR := @ite _ (s < t ∧ zand (f s) (zshl 1 t) ≠ 0) (Classical.propDecidable _) [(69, (s : Int), (t : Int), -1)] []
noncomputable def exF (f : Int → Int) (s : Nat) : List PR := gL (exF1 f s) 10
def lmF1 (f : Int → Int) : List PR := if f 8 = -1 then [] else [(68, f 8, f 9, f 10)]
def lmF2 (f : Int → Int) : List PR := if f 11 = -1 then [] else [(77, f 11, -1, -1)]
def lmF3 (f : Int → Int) : List PR := if f 12 = -1 then [] else [(70, f 12, f 13, -1)]
def lmF4 (f : Int → Int) : List PR := if f 14 = -1 then [] else [(82, f 14, -1, -1)]
def stF (f g : Int → Int) (i : Nat) : List PR := [(83, f i, g i, -1)]
noncomputable def kPR (h : zH) (a k : Int) : List PR := [(75, k, -1, -1)] ++ (gL (stF (h (a + 1)) (h (a + 2))) (h a 1).toNat ++ (gL (nmF (h (a + 3)) 90) 10 ++ (gL (nmF (h (a + 4)) 88) 10 ++ (gL (exF (h (a + 5))) 10 ++ (lmF1 (h a) ++ (lmF2 (h a) ++ (lmF3 (h a) ++ lmF4 (h a))))))))
theorem exF1_z (f : Int → Int) (s : Nat) : gL (exF1 f s) (s + 1) = [] := by
  have : ∀ n, n ≤ s + 1 → gL (exF1 f s) n = [] := by
    intro n
    induction n with
    | zero => intro _; rfl
    | succ n ih =>
      intro hn
      show gL (exF1 f s) n ++ exF1 f s n = []
      rw [ih (by omega), List.nil_append]
      exact if_neg (fun q => by omega)
  exact this _ (Nat.le_refl _)
theorem semT_le (l m : List PR) : (semT l).length ≤ (semT (l ++ m)).length := by rw [semT_app, List.length_append]; omega

set_option maxHeartbeats 4000000 in
set_option maxRecDepth 100000 in
theorem c_p_named_l {p c q : Int} {rs : List PR} (hp : isPT ty p) (hc : i32 c) (hq0 : 0 ≤ q ∧ ty q = some (8, 10, zn)) (hd : q < p ∨ p + 1 < q) (hv : ∀ i, 0 ≤ i → i < 10 → h q i = -1 ∨ i10 (h q i)) (hl : (semT (rs ++ gL (nmF (h q) c) 10)).length ≤ 1501) (hq : ∀ h', Fr p (p + 1) h h' → PrR h' p (rs ++ gL (nmF (h q) c) 10) → Q none ty sz h') : ∀ (n : Nat) (i : Nat) (g : zH), i ≤ 10 → Fr p (p + 1) h g → PrR g p (rs ++ gL (nmF (h q) c) i) → 10 - i < n → zX D mX4_addNamed (d + 4) 0 0 2 [(3, iV (i : Int)), (0, rV p), (1, iV c), (2, rV q)] [] ty sz g Q := by
  intro n
  induction n with
  | zero =>
    intro i g h1 hF hP hm
    exfalso
    omega
  | succ n ih =>
    intro i g h1 hF hP hm
    have hp0 := hp
    obtain ⟨p9, p0, p1⟩ := hp
    have ht := hq0.2
    have e : g q = h q := hF q (by omega)
    refine x_iload_n (pc := 2) dX4_addNamed_2 rfl ?_
    refine x_bipush (pc := 3) dX4_addNamed_3 (by decide) ?_
    refine x_icmp_ge (pc := 5) 36 dX4_addNamed_5 rfl (fun c_5 => ?_) (fun c_5 => ?_)
    · (try simp (disch := omega) only [zb_e0, zb_n0, w32_id, w64_id, ne_eq, Classical.not_not] at c_5)
      refine x_ret (pc := 36) ⟨dX4_addNamed_36, rfl⟩ ?_
      have ei : i = 10 := by omega
      subst ei
      exact hq g hF hP
    · (try simp (disch := omega) only [zb_e0, zb_n0, w32_id, w64_id, ne_eq, Classical.not_not] at c_5)
      refine x_aload_n (pc := 8) dX4_addNamed_8 rfl ?_
      refine x_iload_n (pc := 9) dX4_addNamed_9 rfl ?_
      refine x_callS2 (pc := 10) dX4_addNamed_10 (k_RX4_31 _ rfl) tms_X6_cell rfl rfl ?_
      refine c_cellIn (N := 10) (by omega) (by omega) (by assumption) (by decide) (by omega) (fun bb => ?_)
      rw [e] at bb ⊢
      have hvi := hv i (by omega) (by omega)
      dsimp only [Option.toList, List.cons_append, List.nil_append]
      refine x_istore (pc := 13) dX4_addNamed_13 (by decide) ?_
      refine x_iload (pc := 15) dX4_addNamed_15 rfl ?_
      refine x_iconst (pc := 17) dX4_addNamed_17 ?_
      refine x_icmp_eq (pc := 18) 30 dX4_addNamed_18 rfl (fun c_18 => ?_) (fun c_18 => ?_)
      · (try simp (disch := omega) only [zb_e0, zb_n0, w32_id, w64_id, ne_eq, Classical.not_not] at c_18)
        refine x_iinc (pc := 30) dX4_addNamed_30 rfl (by decide) ?_
        refine x_goto (pc := 33) 2 dX4_addNamed_33 rfl ?_
        first
          | (refine x_loc _ (by exact ⟨rfl, rfl, rfl, rfl, trivial⟩) (ih (i + 1) g2 (by omega) (Fr.tr hF hF2 (by omega) (by omega) (by omega) (by omega)) (by rw [hs, ← List.append_assoc]; exact hP2) (by omega)))
          | (refine x_loc _ (by exact ⟨rfl, rfl, rfl, rfl, trivial⟩) (ih (i + 1) g (by omega) hF (by rw [show gL (nmF (h q) c) (i + 1) = gL (nmF (h q) c) i ++ nmF (h q) c i from rfl, nmF, if_pos c_18, List.append_nil]; exact hP) (by omega)))
      · (try simp (disch := omega) only [zb_e0, zb_n0, w32_id, w64_id, ne_eq, Classical.not_not] at c_18)
        refine x_aload_n (pc := 21) dX4_addNamed_21 rfl ?_
        refine x_iload_n (pc := 22) dX4_addNamed_22 rfl ?_
        refine x_iload_n (pc := 23) dX4_addNamed_23 rfl ?_
        refine x_iload (pc := 24) dX4_addNamed_24 rfl ?_
        refine x_iconst (pc := 26) dX4_addNamed_26 ?_
        refine x_callV4 (pc := 27) dX4_addNamed_27 (k_RX4_19 _ rfl) tmv_X4_addRow (by assumption) rfl rfl rfl ?_
        have hs : gL (nmF (h q) c) (i + 1) = gL (nmF (h q) c) i ++ [(c, (i : Int), h q i, -1)] := by
          show _ ++ nmF (h q) c i = _
          rw [nmF, if_neg c_18]
        have hgl := gL_le (f := nmF (h q) c) rs (show i + 1 ≤ 10 by omega)
        rw [hs] at hgl
        refine c_p_row hp0 hc (by omega) (by omega) (Or.inl rfl) hP (by rw [List.append_assoc]; omega) (fun g2 hF2 hP2 => ?_)
        dsimp only [Option.toList, List.cons_append, List.nil_append]
        refine x_iinc (pc := 30) dX4_addNamed_30 rfl (by decide) ?_
        refine x_goto (pc := 33) 2 dX4_addNamed_33 rfl ?_
        first
          | (refine x_loc _ (by exact ⟨rfl, rfl, rfl, rfl, trivial⟩) (ih (i + 1) g2 (by omega) (Fr.tr hF hF2 (by omega) (by omega) (by omega) (by omega)) (by rw [hs, ← List.append_assoc]; exact hP2) (by omega)))
          | (refine x_loc _ (by exact ⟨rfl, rfl, rfl, rfl, trivial⟩) (ih (i + 1) g (by omega) hF (by rw [show gL (nmF (h q) c) (i + 1) = gL (nmF (h q) c) i ++ nmF (h q) c i from rfl, nmF, if_pos c_18, List.append_nil]; exact hP) (by omega)))

set_option maxHeartbeats 4000000 in
set_option maxRecDepth 100000 in
theorem c_p_named {p c q : Int} {rs : List PR} (hp : isPT ty p) (hc : i32 c) (hq0 : 0 ≤ q ∧ ty q = some (8, 10, zn)) (hd : q < p ∨ p + 1 < q) (hv : ∀ i, 0 ≤ i → i < 10 → h q i = -1 ∨ i10 (h q i)) (hP : PrR h p rs) (hl : (semT (rs ++ gL (nmF (h q) c) 10)).length ≤ 1501) (hq : ∀ h', Fr p (p + 1) h h' → PrR h' p (rs ++ gL (nmF (h q) c) 10) → Q none ty sz h') : zXM D mX4_addNamed (d + 4) 0 0 [rV p, iV c, rV q] ty sz h Q := by
  refine x_iconst (pc := 0) dX4_addNamed_0 ?_
  refine x_istore_n (pc := 1) dX4_addNamed_1 (by decide) ?_
  exact x_loc _ (by exact ⟨rfl, rfl, rfl, rfl, trivial⟩) (c_p_named_l hp hc hq0 hd hv hl hq 11 0 h (by omega) (Fr.rf _ _ _) (by rw [show gL (nmF (h q) c) 0 = [] from rfl, List.append_nil]; exact hP) (by omega))

set_option maxHeartbeats 4000000 in
set_option maxRecDepth 100000 in
theorem c_p_ex12 {p a : Int} {rs : List PR} (hp : isPT ty p) (hK : isKT ty a) (hd : a + 5 < p ∨ p + 1 < a) (s : Nat) (hs : s < 10) (hl : (semT (rs ++ exF (h (a + 5)) s)).length ≤ 1501) (hq : ∀ h', Fr p (p + 1) h h' → PrR h' p (rs ++ exF (h (a + 5)) s) → zX D mX4_addExclusions (d + 4) 0 0 42 [(2, iV (s : Int)), (0, rV p), (1, rV a)] [] ty sz h' Q) : ∀ (n : Nat) (t : Nat) (g : zH), t ≤ 10 → Fr p (p + 1) h g → s < t → PrR g p (rs ++ gL (exF1 (h (a + 5)) s) t) → 10 - t < n → zX D mX4_addExclusions (d + 4) 0 0 12 [(3, iV (t : Int)), (2, iV (s : Int)), (0, rV p), (1, rV a)] [] ty sz g Q := by
  intro n
  induction n with
  | zero =>
    intro t g h1 hF h2 hP hm
    exfalso
    omega
  | succ n ih =>
    intro t g h1 hF h2 hP hm
    have hp0 := hp
    obtain ⟨p9, p0, p1⟩ := hp
    have hK0 := hK
    obtain ⟨k9, k0, k1, k2, k3, k4, k5⟩ := hK
    have e : g (a + 5) = h (a + 5) := hF (a + 5) (by omega)
    refine x_iload_n (pc := 12) dX4_addExclusions_12 rfl ?_
    refine x_bipush (pc := 13) dX4_addExclusions_13 (by decide) ?_
    refine x_icmp_ge (pc := 15) 42 dX4_addExclusions_15 rfl (fun c_15 => ?_) (fun c_15 => ?_)
    · (try simp (disch := omega) only [zb_e0, zb_n0, w32_id, w64_id, ne_eq, Classical.not_not] at c_15)
      have et : t = 10 := by omega
      subst et
      exact x_loc _ (by exact ⟨rfl, rfl, rfl, trivial⟩) (hq g hF hP)
    · (try simp (disch := omega) only [zb_e0, zb_n0, w32_id, w64_id, ne_eq, Classical.not_not] at c_15)
      refine x_aload_n (pc := 18) dX4_addExclusions_18 rfl ?_
      refine x_iload_n (pc := 19) dX4_addExclusions_19 rfl ?_
      refine x_iload_n (pc := 20) dX4_addExclusions_20 rfl ?_
      refine x_callV2 (pc := 21) dX4_addExclusions_21 (k_RX4_55 _ rfl) tmv_X3_excludes (by assumption) rfl rfl rfl ?_
      refine c_k_excludes hK0 (by omega) ?_
      rw [e]
      dsimp only [Option.toList, List.cons_append, List.nil_append]
      refine x_if_eq (pc := 24) 36 dX4_addExclusions_24 rfl (fun c_24 => ?_) (fun c_24 => ?_)
      · (try simp (disch := omega) only [zb_e0, zb_n0, w32_id, w64_id, ne_eq, Classical.not_not] at c_24)
        refine x_iinc (pc := 36) dX4_addExclusions_36 rfl (by decide) ?_
        refine x_goto (pc := 39) 12 dX4_addExclusions_39 rfl ?_
        first
          | (refine x_loc _ (by exact ⟨rfl, rfl, rfl, rfl, trivial⟩) (ih (t + 1) g2 (by omega) (Fr.t hF hF2) (by omega) (by rw [hs2, ← List.append_assoc]; exact hP2) (by omega)))
          | (refine x_loc _ (by exact ⟨rfl, rfl, rfl, rfl, trivial⟩) (ih (t + 1) g (by omega) hF (by omega) (by rw [show gL (exF1 (h (a + 5)) s) (t + 1) = gL (exF1 (h (a + 5)) s) t ++ exF1 (h (a + 5)) s t from rfl, exF1, if_neg (fun q => absurd c_24 (by simpa using q.2)), List.append_nil]; exact hP) (by omega)))
      · (try simp (disch := omega) only [zb_e0, zb_n0, w32_id, w64_id, ne_eq, Classical.not_not] at c_24)
        refine x_aload_n (pc := 27) dX4_addExclusions_27 rfl ?_
        refine x_bipush (pc := 28) dX4_addExclusions_28 (by decide) ?_
        refine x_iload_n (pc := 30) dX4_addExclusions_30 rfl ?_
        refine x_iload_n (pc := 31) dX4_addExclusions_31 rfl ?_
        refine x_iconst (pc := 32) dX4_addExclusions_32 ?_
        refine x_callV4 (pc := 33) dX4_addExclusions_33 (k_RX4_19 _ rfl) tmv_X4_addRow (by assumption) rfl rfl rfl ?_
        have hs2 : gL (exF1 (h (a + 5)) s) (t + 1) = gL (exF1 (h (a + 5)) s) t ++ [(69, (s : Int), (t : Int), -1)] := by
          show _ ++ exF1 (h (a + 5)) s t = _
          rw [exF1, if_pos ⟨by omega, c_24⟩]
        have hgl := gL_le (f := exF1 (h (a + 5)) s) rs (show t + 1 ≤ 10 by omega)
        rw [hs2] at hgl
        refine c_p_row hp0 (by omega) (by omega) (by omega) (Or.inl rfl) hP (by rw [List.append_assoc]; unfold exF at hl; omega) (fun g2 hF2 hP2 => ?_)
        dsimp only [Option.toList, List.cons_append, List.nil_append]
        refine x_iinc (pc := 36) dX4_addExclusions_36 rfl (by decide) ?_
        refine x_goto (pc := 39) 12 dX4_addExclusions_39 rfl ?_
        first
          | (refine x_loc _ (by exact ⟨rfl, rfl, rfl, rfl, trivial⟩) (ih (t + 1) g2 (by omega) (Fr.t hF hF2) (by omega) (by rw [hs2, ← List.append_assoc]; exact hP2) (by omega)))
          | (refine x_loc _ (by exact ⟨rfl, rfl, rfl, rfl, trivial⟩) (ih (t + 1) g (by omega) hF (by omega) (by rw [show gL (exF1 (h (a + 5)) s) (t + 1) = gL (exF1 (h (a + 5)) s) t ++ exF1 (h (a + 5)) s t from rfl, exF1, if_neg (fun q => absurd c_24 (by simpa using q.2)), List.append_nil]; exact hP) (by omega)))

set_option maxHeartbeats 4000000 in
set_option maxRecDepth 100000 in
theorem c_p_ex2 {p a : Int} {rs : List PR} (hp : isPT ty p) (hK : isKT ty a) (hd : a + 5 < p ∨ p + 1 < a) (hl : (semT (rs ++ gL (exF (h (a + 5))) 10)).length ≤ 1501) (hq : ∀ h', Fr p (p + 1) h h' → PrR h' p (rs ++ gL (exF (h (a + 5))) 10) → Q none ty sz h') : ∀ (n : Nat) (s : Nat) (g : zH), s ≤ 10 → Fr p (p + 1) h g → PrR g p (rs ++ gL (exF (h (a + 5))) s) → 10 - s < n → zX D mX4_addExclusions (d + 4) 0 0 2 [(2, iV (s : Int)), (0, rV p), (1, rV a)] [] ty sz g Q := by
  intro n
  induction n with
  | zero =>
    intro s g h1 hF hP hm
    exfalso
    omega
  | succ n ih =>
    intro s g h1 hF hP hm
    have e : g (a + 5) = h (a + 5) := hF (a + 5) (by omega)
    refine x_iload_n (pc := 2) dX4_addExclusions_2 rfl ?_
    refine x_bipush (pc := 3) dX4_addExclusions_3 (by decide) ?_
    refine x_icmp_ge (pc := 5) 48 dX4_addExclusions_5 rfl (fun c_5 => ?_) (fun c_5 => ?_)
    · (try simp (disch := omega) only [zb_e0, zb_n0, w32_id, w64_id, ne_eq, Classical.not_not] at c_5)
      refine x_ret (pc := 48) ⟨dX4_addExclusions_48, rfl⟩ ?_
      have es : s = 10 := by omega
      subst es
      exact hq g hF hP
    · (try simp (disch := omega) only [zb_e0, zb_n0, w32_id, w64_id, ne_eq, Classical.not_not] at c_5)
      refine x_iload_n (pc := 8) dX4_addExclusions_8 rfl ?_
      refine x_iconst (pc := 9) dX4_addExclusions_9 ?_
      refine x_iadd (pc := 10) dX4_addExclusions_10 ?_
      refine x_istore_n (pc := 11) dX4_addExclusions_11 (by decide) ?_
      have hgl := gL_le (f := exF (h (a + 5))) rs (show s + 1 ≤ 10 by omega)
      rw [show gL (exF (h (a + 5))) (s + 1) = gL (exF (h (a + 5))) s ++ exF (h (a + 5)) s from rfl] at hgl
      refine x_loc [(3, iV ((s + 1 : Nat) : Int)), (2, iV (s : Int)), (0, rV p), (1, rV a)] ⟨rfl, rfl, rfl, rfl, trivial⟩ (c_p_ex12 (h := g) (rs := rs ++ gL (exF (h (a + 5))) s) hp hK hd s (by omega) (by rw [e, List.append_assoc]; omega) (fun g2 hF2 hP2 => ?_) 11 (s + 1) g (by omega) (Fr.rf _ _ _) (by omega) (by rw [exF1_z, List.append_nil]; exact hP) (by omega))
      rw [e] at hP2
      refine x_iinc (pc := 42) dX4_addExclusions_42 rfl (by decide) ?_
      refine x_goto (pc := 45) 2 dX4_addExclusions_45 rfl ?_
      exact x_loc _ (by exact ⟨rfl, rfl, rfl, trivial⟩) (ih (s + 1) g2 (by omega) (Fr.t hF hF2) (by rw [show gL (exF (h (a + 5))) (s + 1) = gL (exF (h (a + 5))) s ++ exF (h (a + 5)) s from rfl, ← List.append_assoc]; exact hP2) (by omega))

set_option maxHeartbeats 4000000 in
set_option maxRecDepth 100000 in
theorem c_p_excl {p a : Int} {rs : List PR} (hp : isPT ty p) (hK : isKT ty a) (hd : a + 5 < p ∨ p + 1 < a) (hP : PrR h p rs) (hl : (semT (rs ++ gL (exF (h (a + 5))) 10)).length ≤ 1501) (hq : ∀ h', Fr p (p + 1) h h' → PrR h' p (rs ++ gL (exF (h (a + 5))) 10) → Q none ty sz h') : zXM D mX4_addExclusions (d + 4) 0 0 [rV p, rV a] ty sz h Q := by
  refine x_iconst (pc := 0) dX4_addExclusions_0 ?_
  refine x_istore_n (pc := 1) dX4_addExclusions_1 (by decide) ?_
  exact x_loc _ (by exact ⟨rfl, rfl, rfl, trivial⟩) (c_p_ex2 hp hK hd hl hq 11 0 h (by omega) (Fr.rf _ _ _) (by rw [show gL (exF (h (a + 5))) 0 = [] from rfl, List.append_nil]; exact hP) (by omega))

def kLimOK (f : Int → Int) : Prop := (f 8 = -1 ∨ (i10 (f 8) ∧ i10 (f 9) ∧ i10 (f 10))) ∧ (f 11 = -1 ∨ i10 (f 11)) ∧ (f 12 = -1 ∨ (i10 (f 12) ∧ i10 (f 13))) ∧ (f 14 = -1 ∨ i10 (f 14))

set_option maxHeartbeats 4000000 in
set_option maxRecDepth 100000 in
theorem c_p_lim69 {p a : Int} {rs : List PR} (hp : isPT ty p) (hK : isKT ty a) (hd : a + 5 < p ∨ p + 1 < a) (hO : kLimOK (h a)) (hP : PrR h p rs) (hl : (semT (rs ++ lmF4 (h a))).length ≤ 1501) (hq : ∀ h', Fr p (p + 1) h h' → PrR h' p (rs ++ lmF4 (h a)) → Q none ty sz h') : zX D mX4_addLimits (d + 4) 0 0 69 [(0, rV p), (1, rV a)] [] ty sz h Q := by
  have hp0 := hp
  obtain ⟨p9, p0, p1⟩ := hp
  have hK0 := hK
  obtain ⟨k9, k0, k1, k2, k3, k4, k5⟩ := hK
  have hO0 := hO
  obtain ⟨o1, o2, o3, o4⟩ := hO
  refine x_aload_n (pc := 69) dX4_addLimits_69 rfl ?_
  refine y_getI 14 (pc := 70) dX4_addLimits_70 f_RX4_77 (by assumption) rfl (fun b_70 => ?_)
  refine x_iconst (pc := 73) dX4_addLimits_73 ?_
  refine x_icmp_eq (pc := 74) 89 dX4_addLimits_74 rfl (fun c_74 => ?_) (fun c_74 => ?_)
  · (try simp (disch := omega) only [zb_e0, zb_n0, w32_id, w64_id, ne_eq, Classical.not_not] at c_74)
    refine x_ret (pc := 89) ⟨dX4_addLimits_89, rfl⟩ ?_
    first
      | exact hq g2 hF2 hP2
      | (rw [show lmF4 (h a) = [] from if_pos c_74, List.append_nil] at hq
         exact hq h (Fr.rf _ _ _) hP)
  · (try simp (disch := omega) only [zb_e0, zb_n0, w32_id, w64_id, ne_eq, Classical.not_not] at c_74)
    refine x_aload_n (pc := 77) dX4_addLimits_77 rfl ?_
    refine x_bipush (pc := 78) dX4_addLimits_78 (by decide) ?_
    refine x_aload_n (pc := 80) dX4_addLimits_80 rfl ?_
    refine y_getI 14 (pc := 81) dX4_addLimits_81 f_RX4_77 (by assumption) rfl (fun b_81 => ?_)
    refine x_iconst (pc := 84) dX4_addLimits_84 ?_
    refine x_iconst (pc := 85) dX4_addLimits_85 ?_
    refine x_callV4 (pc := 86) dX4_addLimits_86 (k_RX4_19 _ rfl) tmv_X4_addRow (by assumption) rfl rfl rfl ?_
    have hs : lmF4 (h a) = [(82, h a 14, -1, -1)] := if_neg c_74
    rw [hs] at hl hq
    have hl2 : (semT (rs ++ [(82, h a 14, -1, -1)])).length ≤ 1501 := hl
    refine c_p_row hp0 (by omega) (by omega) (by omega) (by omega) hP hl2 (fun g2 hF2 hP2 => ?_)
    dsimp only [Option.toList, List.cons_append, List.nil_append]
    refine x_ret (pc := 89) ⟨dX4_addLimits_89, rfl⟩ ?_
    first
      | exact hq g2 hF2 hP2
      | (rw [show lmF4 (h a) = [] from if_pos c_74, List.append_nil] at hq
         exact hq h (Fr.rf _ _ _) hP)

set_option maxHeartbeats 4000000 in
set_option maxRecDepth 100000 in
theorem c_p_lim46 {p a : Int} {rs : List PR} (hp : isPT ty p) (hK : isKT ty a) (hd : a + 5 < p ∨ p + 1 < a) (hO : kLimOK (h a)) (hP : PrR h p rs) (hl : (semT (rs ++ (lmF3 (h a) ++ lmF4 (h a)))).length ≤ 1501) (hq : ∀ h', Fr p (p + 1) h h' → PrR h' p (rs ++ (lmF3 (h a) ++ lmF4 (h a))) → Q none ty sz h') : zX D mX4_addLimits (d + 4) 0 0 46 [(0, rV p), (1, rV a)] [] ty sz h Q := by
  have hp0 := hp
  obtain ⟨p9, p0, p1⟩ := hp
  have hK0 := hK
  obtain ⟨k9, k0, k1, k2, k3, k4, k5⟩ := hK
  have hO0 := hO
  obtain ⟨o1, o2, o3, o4⟩ := hO
  refine x_aload_n (pc := 46) dX4_addLimits_46 rfl ?_
  refine y_getI 12 (pc := 47) dX4_addLimits_47 f_RX4_71 (by assumption) rfl (fun b_47 => ?_)
  refine x_iconst (pc := 50) dX4_addLimits_50 ?_
  refine x_icmp_eq (pc := 51) 69 dX4_addLimits_51 rfl (fun c_51 => ?_) (fun c_51 => ?_)
  · (try simp (disch := omega) only [zb_e0, zb_n0, w32_id, w64_id, ne_eq, Classical.not_not] at c_51)
    first
      | (have e : g2 a = h a := hF2 a (by omega)
         rw [← List.append_assoc] at hl hq
         exact x_loc _ (by exact ⟨rfl, rfl, trivial⟩) (c_p_lim69 (h := g2) hp0 hK0 hd (by rw [e]; exact hO0) hP2 (by rw [e]; exact hl) (fun h' hf hp' => hq h' (Fr.t hF2 hf) (by rw [e] at hp'; exact hp'))))
      | (rw [show lmF3 (h a) = [] from if_pos c_51, List.nil_append] at hq hl
         exact x_loc _ (by exact ⟨rfl, rfl, trivial⟩) (c_p_lim69 hp0 hK0 hd hO0 hP hl hq))
  · (try simp (disch := omega) only [zb_e0, zb_n0, w32_id, w64_id, ne_eq, Classical.not_not] at c_51)
    refine x_aload_n (pc := 54) dX4_addLimits_54 rfl ?_
    refine x_bipush (pc := 55) dX4_addLimits_55 (by decide) ?_
    refine x_aload_n (pc := 57) dX4_addLimits_57 rfl ?_
    refine y_getI 12 (pc := 58) dX4_addLimits_58 f_RX4_71 (by assumption) rfl (fun b_58 => ?_)
    refine x_aload_n (pc := 61) dX4_addLimits_61 rfl ?_
    refine y_getI 13 (pc := 62) dX4_addLimits_62 f_RX4_74 (by assumption) rfl (fun b_62 => ?_)
    refine x_iconst (pc := 65) dX4_addLimits_65 ?_
    refine x_callV4 (pc := 66) dX4_addLimits_66 (k_RX4_19 _ rfl) tmv_X4_addRow (by assumption) rfl rfl rfl ?_
    have hs : lmF3 (h a) = [(70, h a 12, h a 13, -1)] := if_neg c_51
    rw [hs] at hl hq
    have hl2 : (semT (rs ++ [(70, h a 12, h a 13, -1)])).length ≤ 1501 := by rw [← List.append_assoc] at hl; exact Nat.le_trans (semT_le _ _) hl
    refine c_p_row hp0 (by omega) (by omega) (by omega) (by omega) hP hl2 (fun g2 hF2 hP2 => ?_)
    dsimp only [Option.toList, List.cons_append, List.nil_append]
    first
      | (have e : g2 a = h a := hF2 a (by omega)
         rw [← List.append_assoc] at hl hq
         exact x_loc _ (by exact ⟨rfl, rfl, trivial⟩) (c_p_lim69 (h := g2) hp0 hK0 hd (by rw [e]; exact hO0) hP2 (by rw [e]; exact hl) (fun h' hf hp' => hq h' (Fr.t hF2 hf) (by rw [e] at hp'; exact hp'))))
      | (rw [show lmF3 (h a) = [] from if_pos c_51, List.nil_append] at hq hl
         exact x_loc _ (by exact ⟨rfl, rfl, trivial⟩) (c_p_lim69 hp0 hK0 hd hO0 hP hl hq))

set_option maxHeartbeats 4000000 in
set_option maxRecDepth 100000 in
theorem c_p_lim26 {p a : Int} {rs : List PR} (hp : isPT ty p) (hK : isKT ty a) (hd : a + 5 < p ∨ p + 1 < a) (hO : kLimOK (h a)) (hP : PrR h p rs) (hl : (semT (rs ++ (lmF2 (h a) ++ (lmF3 (h a) ++ lmF4 (h a))))).length ≤ 1501) (hq : ∀ h', Fr p (p + 1) h h' → PrR h' p (rs ++ (lmF2 (h a) ++ (lmF3 (h a) ++ lmF4 (h a)))) → Q none ty sz h') : zX D mX4_addLimits (d + 4) 0 0 26 [(0, rV p), (1, rV a)] [] ty sz h Q := by
  have hp0 := hp
  obtain ⟨p9, p0, p1⟩ := hp
  have hK0 := hK
  obtain ⟨k9, k0, k1, k2, k3, k4, k5⟩ := hK
  have hO0 := hO
  obtain ⟨o1, o2, o3, o4⟩ := hO
  refine x_aload_n (pc := 26) dX4_addLimits_26 rfl ?_
  refine y_getI 11 (pc := 27) dX4_addLimits_27 f_RX4_68 (by assumption) rfl (fun b_27 => ?_)
  refine x_iconst (pc := 30) dX4_addLimits_30 ?_
  refine x_icmp_eq (pc := 31) 46 dX4_addLimits_31 rfl (fun c_31 => ?_) (fun c_31 => ?_)
  · (try simp (disch := omega) only [zb_e0, zb_n0, w32_id, w64_id, ne_eq, Classical.not_not] at c_31)
    first
      | (have e : g2 a = h a := hF2 a (by omega)
         rw [← List.append_assoc] at hl hq
         exact x_loc _ (by exact ⟨rfl, rfl, trivial⟩) (c_p_lim46 (h := g2) hp0 hK0 hd (by rw [e]; exact hO0) hP2 (by rw [e]; exact hl) (fun h' hf hp' => hq h' (Fr.t hF2 hf) (by rw [e] at hp'; exact hp'))))
      | (rw [show lmF2 (h a) = [] from if_pos c_31, List.nil_append] at hq hl
         exact x_loc _ (by exact ⟨rfl, rfl, trivial⟩) (c_p_lim46 hp0 hK0 hd hO0 hP hl hq))
  · (try simp (disch := omega) only [zb_e0, zb_n0, w32_id, w64_id, ne_eq, Classical.not_not] at c_31)
    refine x_aload_n (pc := 34) dX4_addLimits_34 rfl ?_
    refine x_bipush (pc := 35) dX4_addLimits_35 (by decide) ?_
    refine x_aload_n (pc := 37) dX4_addLimits_37 rfl ?_
    refine y_getI 11 (pc := 38) dX4_addLimits_38 f_RX4_68 (by assumption) rfl (fun b_38 => ?_)
    refine x_iconst (pc := 41) dX4_addLimits_41 ?_
    refine x_iconst (pc := 42) dX4_addLimits_42 ?_
    refine x_callV4 (pc := 43) dX4_addLimits_43 (k_RX4_19 _ rfl) tmv_X4_addRow (by assumption) rfl rfl rfl ?_
    have hs : lmF2 (h a) = [(77, h a 11, -1, -1)] := if_neg c_31
    rw [hs] at hl hq
    have hl2 : (semT (rs ++ [(77, h a 11, -1, -1)])).length ≤ 1501 := by rw [← List.append_assoc] at hl; exact Nat.le_trans (semT_le _ _) hl
    refine c_p_row hp0 (by omega) (by omega) (by omega) (by omega) hP hl2 (fun g2 hF2 hP2 => ?_)
    dsimp only [Option.toList, List.cons_append, List.nil_append]
    first
      | (have e : g2 a = h a := hF2 a (by omega)
         rw [← List.append_assoc] at hl hq
         exact x_loc _ (by exact ⟨rfl, rfl, trivial⟩) (c_p_lim46 (h := g2) hp0 hK0 hd (by rw [e]; exact hO0) hP2 (by rw [e]; exact hl) (fun h' hf hp' => hq h' (Fr.t hF2 hf) (by rw [e] at hp'; exact hp'))))
      | (rw [show lmF2 (h a) = [] from if_pos c_31, List.nil_append] at hq hl
         exact x_loc _ (by exact ⟨rfl, rfl, trivial⟩) (c_p_lim46 hp0 hK0 hd hO0 hP hl hq))

set_option maxHeartbeats 4000000 in
set_option maxRecDepth 100000 in
theorem c_p_lim {p a : Int} {rs : List PR} (hp : isPT ty p) (hK : isKT ty a) (hd : a + 5 < p ∨ p + 1 < a) (hO : kLimOK (h a)) (hP : PrR h p rs) (hl : (semT (rs ++ (lmF1 (h a) ++ (lmF2 (h a) ++ (lmF3 (h a) ++ lmF4 (h a)))))).length ≤ 1501) (hq : ∀ h', Fr p (p + 1) h h' → PrR h' p (rs ++ (lmF1 (h a) ++ (lmF2 (h a) ++ (lmF3 (h a) ++ lmF4 (h a))))) → Q none ty sz h') : zXM D mX4_addLimits (d + 4) 0 0 [rV p, rV a] ty sz h Q := by
  have hp0 := hp
  obtain ⟨p9, p0, p1⟩ := hp
  have hK0 := hK
  obtain ⟨k9, k0, k1, k2, k3, k4, k5⟩ := hK
  have hO0 := hO
  obtain ⟨o1, o2, o3, o4⟩ := hO
  refine x_aload_n (pc := 0) dX4_addLimits_0 rfl ?_
  refine y_getI 8 (pc := 1) dX4_addLimits_1 f_RX4_59 (by assumption) rfl (fun b_1 => ?_)
  refine x_iconst (pc := 4) dX4_addLimits_4 ?_
  refine x_icmp_eq (pc := 5) 26 dX4_addLimits_5 rfl (fun c_5 => ?_) (fun c_5 => ?_)
  · (try simp (disch := omega) only [zb_e0, zb_n0, w32_id, w64_id, ne_eq, Classical.not_not] at c_5)
    first
      | (have e : g2 a = h a := hF2 a (by omega)
         rw [← List.append_assoc] at hl hq
         exact x_loc _ (by exact ⟨rfl, rfl, trivial⟩) (c_p_lim26 (h := g2) hp0 hK0 hd (by rw [e]; exact hO0) hP2 (by rw [e]; exact hl) (fun h' hf hp' => hq h' (Fr.t hF2 hf) (by rw [e] at hp'; exact hp'))))
      | (rw [show lmF1 (h a) = [] from if_pos c_5, List.nil_append] at hq hl
         exact x_loc _ (by exact ⟨rfl, rfl, trivial⟩) (c_p_lim26 hp0 hK0 hd hO0 hP hl hq))
  · (try simp (disch := omega) only [zb_e0, zb_n0, w32_id, w64_id, ne_eq, Classical.not_not] at c_5)
    refine x_aload_n (pc := 8) dX4_addLimits_8 rfl ?_
    refine x_bipush (pc := 9) dX4_addLimits_9 (by decide) ?_
    refine x_aload_n (pc := 11) dX4_addLimits_11 rfl ?_
    refine y_getI 8 (pc := 12) dX4_addLimits_12 f_RX4_59 (by assumption) rfl (fun b_12 => ?_)
    refine x_aload_n (pc := 15) dX4_addLimits_15 rfl ?_
    refine y_getI 9 (pc := 16) dX4_addLimits_16 f_RX4_62 (by assumption) rfl (fun b_16 => ?_)
    refine x_aload_n (pc := 19) dX4_addLimits_19 rfl ?_
    refine y_getI 10 (pc := 20) dX4_addLimits_20 f_RX4_65 (by assumption) rfl (fun b_20 => ?_)
    refine x_callV4 (pc := 23) dX4_addLimits_23 (k_RX4_19 _ rfl) tmv_X4_addRow (by assumption) rfl rfl rfl ?_
    have hs : lmF1 (h a) = [(68, h a 8, h a 9, h a 10)] := if_neg c_5
    rw [hs] at hl hq
    have hl2 : (semT (rs ++ [(68, h a 8, h a 9, h a 10)])).length ≤ 1501 := by rw [← List.append_assoc] at hl; exact Nat.le_trans (semT_le _ _) hl
    refine c_p_row hp0 (by omega) (by omega) (by omega) (by omega) hP hl2 (fun g2 hF2 hP2 => ?_)
    dsimp only [Option.toList, List.cons_append, List.nil_append]
    first
      | (have e : g2 a = h a := hF2 a (by omega)
         rw [← List.append_assoc] at hl hq
         exact x_loc _ (by exact ⟨rfl, rfl, trivial⟩) (c_p_lim26 (h := g2) hp0 hK0 hd (by rw [e]; exact hO0) hP2 (by rw [e]; exact hl) (fun h' hf hp' => hq h' (Fr.t hF2 hf) (by rw [e] at hp'; exact hp'))))
      | (rw [show lmF1 (h a) = [] from if_pos c_5, List.nil_append] at hq hl
         exact x_loc _ (by exact ⟨rfl, rfl, trivial⟩) (c_p_lim26 hp0 hK0 hd hO0 hP hl hq))

def kPrOK (h : zH) (a : Int) : Prop := (0 ≤ h a 1 ∧ h a 1 ≤ 10) ∧ (∀ i, 0 ≤ i → i < h a 1 → i10 (h (a + 1) i) ∧ i10 (h (a + 2) i)) ∧ (∀ i, 0 ≤ i → i < 10 → h (a + 3) i = -1 ∨ i10 (h (a + 3) i)) ∧ (∀ i, 0 ≤ i → i < 10 → h (a + 4) i = -1 ∨ i10 (h (a + 4) i)) ∧ kLimOK (h a)
theorem kPrOK_fr {h' : zH} {a : Int} (ea : ∀ q, a ≤ q → q ≤ a + 5 → h' q = h q) : kPrOK h' a = kPrOK h a := by
  unfold kPrOK
  rw [ea a (by omega) (by omega), ea (a + 1) (by omega) (by omega), ea (a + 2) (by omega) (by omega), ea (a + 3) (by omega) (by omega), ea (a + 4) (by omega) (by omega)]
noncomputable def kPR2 (h : zH) (a : Int) : List PR := gL (nmF (h (a + 3)) 90) 10 ++ (gL (nmF (h (a + 4)) 88) 10 ++ (gL (exF (h (a + 5))) 10 ++ (lmF1 (h a) ++ (lmF2 (h a) ++ (lmF3 (h a) ++ lmF4 (h a))))))
theorem kPR_eq (h : zH) (a k : Int) : kPR h a k = [(75, k, -1, -1)] ++ (gL (stF (h (a + 1)) (h (a + 2))) (h a 1).toNat ++ kPR2 h a) := rfl

set_option maxHeartbeats 4000000 in
set_option maxRecDepth 100000 in
theorem c_p_kind53 {p a k : Int} {rs : List PR} (hp : isPT ty p) (hK : isKT ty a) (hd : a + 5 < p ∨ p + 1 < a) (hO : kPrOK h a) (hP : PrR h p rs) (hl : (semT (rs ++ kPR2 h a)).length ≤ 1501) (hq : ∀ h', Fr p (p + 1) h h' → PrR h' p (rs ++ kPR2 h a) → Q none ty sz h') : zX D mX4_addKind (d + 5) 0 0 53 [(0, rV p), (1, iV k), (2, rV a)] [] ty sz h Q := by
  have hp0 := hp
  obtain ⟨p9, p0, p1⟩ := hp
  have hK0 := hK
  obtain ⟨k9, k0, k1, k2, k3, k4, k5⟩ := hK
  have hO0 := hO
  obtain ⟨o1, o2, o3, o4, o5⟩ := hO
  unfold kPR2 at hl hq
  simp only [← List.append_assoc] at hl hq
  have le4 := semT_le (rs ++ gL (nmF (h (a + 3)) 90) 10 ++ gL (nmF (h (a + 4)) 88) 10 ++ gL (exF (h (a + 5))) 10) (lmF1 (h a) ++ (lmF2 (h a) ++ (lmF3 (h a) ++ lmF4 (h a))))
  simp only [← List.append_assoc] at le4
  have le3 := semT_le (rs ++ gL (nmF (h (a + 3)) 90) 10 ++ gL (nmF (h (a + 4)) 88) 10) (gL (exF (h (a + 5))) 10)
  have le2 := semT_le (rs ++ gL (nmF (h (a + 3)) 90) 10) (gL (nmF (h (a + 4)) 88) 10)
  refine x_aload_n (pc := 53) dX4_addKind_53 rfl ?_
  refine x_bipush (pc := 54) dX4_addKind_54 (by decide) ?_
  refine x_aload_n (pc := 56) dX4_addKind_56 rfl ?_
  refine x_getF (pc := 57) dX4_addKind_57 f_RX4_38 (by assumption) (by rfl) ?_
  refine x_callV2 (pc := 60) dX4_addKind_60 (k_RX4_41 _ rfl) tmv_X4_addNamed (by assumption) rfl rfl rfl ?_
  refine c_p_named hp0 (by omega) ⟨by omega, by assumption⟩ (by omega) o3 hP (by omega) (fun g1 hF1 hP1 => ?_)
  have e4 : g1 (a + 4) = h (a + 4) := hF1 _ (by omega)
  have e5 : g1 (a + 5) = h (a + 5) := hF1 _ (by omega)
  have e0 : g1 a = h a := hF1 _ (by omega)
  dsimp only [Option.toList, List.cons_append, List.nil_append]
  refine x_aload_n (pc := 63) dX4_addKind_63 rfl ?_
  refine x_bipush (pc := 64) dX4_addKind_64 (by decide) ?_
  refine x_aload_n (pc := 66) dX4_addKind_66 rfl ?_
  refine x_getF (pc := 67) dX4_addKind_67 f_RX4_45 (by assumption) (by rfl) ?_
  refine x_callV2 (pc := 70) dX4_addKind_70 (k_RX4_41 _ rfl) tmv_X4_addNamed (by assumption) rfl rfl rfl ?_
  refine c_p_named hp0 (by omega) ⟨by omega, by assumption⟩ (by omega) (by rw [e4]; exact o4) hP1 (by rw [e4]; omega) (fun g2 hF2 hP2 => ?_)
  rw [e4] at hP2
  have e52 : g2 (a + 5) = h (a + 5) := (hF2 _ (by omega)).trans e5
  have e02 : g2 a = h a := (hF2 _ (by omega)).trans e0
  dsimp only [Option.toList, List.cons_append, List.nil_append]
  refine x_aload_n (pc := 73) dX4_addKind_73 rfl ?_
  refine x_aload_n (pc := 74) dX4_addKind_74 rfl ?_
  refine x_callV1 (pc := 75) dX4_addKind_75 (k_RX4_48 _ rfl) tmv_X4_addExclusions (by assumption) rfl rfl rfl ?_
  refine c_p_excl hp0 hK0 hd hP2 (by rw [e52]; omega) (fun g3 hF3 hP3 => ?_)
  rw [e52] at hP3
  have e03 : g3 a = h a := (hF3 _ (by omega)).trans e02
  dsimp only [Option.toList, List.cons_append, List.nil_append]
  refine x_aload_n (pc := 78) dX4_addKind_78 rfl ?_
  refine x_aload_n (pc := 79) dX4_addKind_79 rfl ?_
  refine x_callV1 (pc := 80) dX4_addKind_80 (k_RX4_52 _ rfl) tmv_X4_addLimits (by assumption) rfl rfl rfl ?_
  refine c_p_lim hp0 hK0 hd (by rw [e03]; exact o5) hP3 (by rw [e03]; simp only [← List.append_assoc]; exact hl) (fun g4 hF4 hP4 => ?_)
  rw [e03] at hP4
  simp only [← List.append_assoc] at hP4
  dsimp only [Option.toList, List.cons_append, List.nil_append]
  refine x_ret (pc := 83) ⟨dX4_addKind_83, rfl⟩ ?_
  exact hq g4 (Fr.t (Fr.t (Fr.t hF1 hF2) hF3) hF4) hP4

set_option maxHeartbeats 4000000 in
set_option maxRecDepth 100000 in
theorem c_p_kind16 {p a k : Int} {rs : List PR} (hp : isPT ty p) (hK : isKT ty a) (hd : a + 5 < p ∨ p + 1 < a) (hO : kPrOK h a) (hl : (semT (rs ++ gL (stF (h (a + 1)) (h (a + 2))) (h a 1).toNat ++ kPR2 h a)).length ≤ 1501) (hq : ∀ h', Fr p (p + 1) h h' → PrR h' p (rs ++ gL (stF (h (a + 1)) (h (a + 2))) (h a 1).toNat ++ kPR2 h a) → Q none ty sz h') : ∀ (n : Nat) (i : Nat) (g : zH), (i : Int) ≤ h a 1 → Fr p (p + 1) h g → PrR g p (rs ++ gL (stF (h (a + 1)) (h (a + 2))) i) → h a 1 - i < n → zX D mX4_addKind (d + 5) 0 0 16 [(3, iV (i : Int)), (0, rV p), (1, iV k), (2, rV a)] [] ty sz g Q := by
  intro n
  induction n with
  | zero =>
    intro i g h1 hF hP hm
    exfalso
    omega
  | succ n ih =>
    intro i g h1 hF hP hm
    have hp0 := hp
    obtain ⟨p9, p0, p1⟩ := hp
    have hK0 := hK
    obtain ⟨k9, k0, k1, k2, k3, k4, k5⟩ := hK
    have hO0 := hO
    obtain ⟨o1, o2, o3, o4, o5⟩ := hO
    have e0 : g a = h a := hF _ (by omega)
    have e1 : g (a + 1) = h (a + 1) := hF _ (by omega)
    have e2 : g (a + 2) = h (a + 2) := hF _ (by omega)
    refine x_iload_n (pc := 16) dX4_addKind_16 rfl ?_
    refine x_aload_n (pc := 17) dX4_addKind_17 rfl ?_
    refine y_getI 1 (pc := 18) dX4_addKind_18 f_RX4_23 (by assumption) rfl (fun b_18 => ?_)
    rw [e0] at b_18 ⊢
    refine x_icmp_ge (pc := 21) 53 dX4_addKind_21 rfl (fun c_21 => ?_) (fun c_21 => ?_)
    · (try simp (disch := omega) only [zb_e0, zb_n0, w32_id, w64_id, ne_eq, Classical.not_not] at c_21)
      have ei : (h a 1).toNat = i := by omega
      rw [ei] at hl hq
      have ea : ∀ q, a ≤ q → q ≤ a + 5 → g q = h q := fun q q1 q2 => hF q (by omega)
      have ek : kPR2 g a = kPR2 h a := by unfold kPR2; rw [e0, ea (a + 3) (by omega) (by omega), ea (a + 4) (by omega) (by omega), ea (a + 5) (by omega) (by omega)]
      exact x_loc _ (by exact ⟨rfl, rfl, rfl, trivial⟩) (c_p_kind53 (h := g) hp0 hK0 hd (by rw [kPrOK_fr ea]; exact hO0) hP (by rw [ek]; exact hl) (fun h' hf hp' => hq h' (Fr.t hF hf) (by rw [← ek]; exact hp')))
    · (try simp (disch := omega) only [zb_e0, zb_n0, w32_id, w64_id, ne_eq, Classical.not_not] at c_21)
      refine x_aload_n (pc := 24) dX4_addKind_24 rfl ?_
      refine x_bipush (pc := 25) dX4_addKind_25 (by decide) ?_
      refine x_aload_n (pc := 27) dX4_addKind_27 rfl ?_
      refine x_getF (pc := 28) dX4_addKind_28 f_RX4_28 (by assumption) (by rfl) ?_
      refine x_iload_n (pc := 31) dX4_addKind_31 rfl ?_
      refine x_callS2 (pc := 32) dX4_addKind_32 (k_RX4_31 _ rfl) tms_X6_cell rfl rfl ?_
      refine c_cellIn (N := 10) (by omega) (by omega) (by assumption) (by decide) (by omega) (fun bb => ?_)
      rw [e1]
      dsimp only [Option.toList, List.cons_append, List.nil_append]
      refine x_aload_n (pc := 35) dX4_addKind_35 rfl ?_
      refine x_getF (pc := 36) dX4_addKind_36 f_RX4_35 (by assumption) (by rfl) ?_
      refine x_iload_n (pc := 39) dX4_addKind_39 rfl ?_
      refine x_callS2 (pc := 40) dX4_addKind_40 (k_RX4_31 _ rfl) tms_X6_cell rfl rfl ?_
      refine c_cellIn (N := 10) (by omega) (by omega) (by assumption) (by decide) (by omega) (fun bb2 => ?_)
      rw [e2]
      dsimp only [Option.toList, List.cons_append, List.nil_append]
      refine x_iconst (pc := 43) dX4_addKind_43 ?_
      refine x_callV4 (pc := 44) dX4_addKind_44 (k_RX4_19 _ rfl) tmv_X4_addRow (by assumption) rfl rfl rfl ?_
      have hb := o2 i (by omega) (by omega)
      have hgl := gL_le (f := stF (h (a + 1)) (h (a + 2))) rs (show i + 1 ≤ (h a 1).toNat by omega)
      have hgl2 := semT_le (rs ++ gL (stF (h (a + 1)) (h (a + 2))) (h a 1).toNat) (kPR2 h a)
      refine c_p_row hp0 (by omega) hb.1 (Or.inr hb.2) (Or.inl rfl) hP (by rw [List.append_assoc]; exact Nat.le_trans hgl (by omega)) (fun g2 hF2 hP2 => ?_)
      dsimp only [Option.toList, List.cons_append, List.nil_append]
      refine x_iinc (pc := 47) dX4_addKind_47 rfl (by decide) ?_
      refine x_goto (pc := 50) 16 dX4_addKind_50 rfl ?_
      refine x_loc _ (by exact ⟨rfl, rfl, rfl, rfl, trivial⟩) (ih (i + 1) g2 (by omega) (Fr.t hF hF2) (by rw [List.append_assoc] at hP2; exact hP2) (by omega))

set_option maxHeartbeats 4000000 in
set_option maxRecDepth 100000 in
theorem c_p_kind {p a k : Int} {rs : List PR} (hp : isPT ty p) (hK : isKT ty a) (hd : a + 5 < p ∨ p + 1 < a) (hk : i10 k) (hO : kPrOK h a) (hP : PrR h p rs) (hl : (semT (rs ++ kPR h a k)).length ≤ 1501) (hq : ∀ h', Fr p (p + 1) h h' → PrR h' p (rs ++ kPR h a k) → Q none ty sz h') : zXM D mX4_addKind (d + 5) 0 0 [rV p, iV k, rV a] ty sz h Q := by
  have hp0 := hp
  obtain ⟨p9, p0, p1⟩ := hp
  have hK0 := hK
  obtain ⟨k9, k0, k1, k2, k3, k4, k5⟩ := hK
  rw [kPR_eq] at hl hq
  simp only [← List.append_assoc] at hl hq
  have le1 := semT_le (rs ++ [(75, k, -1, -1)] ++ gL (stF (h (a + 1)) (h (a + 2))) (h a 1).toNat) (kPR2 h a)
  have le2 := semT_le (rs ++ [(75, k, -1, -1)]) (gL (stF (h (a + 1)) (h (a + 2))) (h a 1).toNat)
  refine x_aload_n (pc := 0) dX4_addKind_0 rfl ?_
  refine x_ifnonnull (pc := 1) 5 dX4_addKind_1 rfl (fun c_1 => ?_) (fun c_1 => ?_)
  · (try simp (disch := omega) only [zb_e0, zb_n0, w32_id, w64_id, ne_eq, Classical.not_not] at c_1)
    refine x_aload_n (pc := 5) dX4_addKind_5 rfl ?_
    refine x_bipush (pc := 6) dX4_addKind_6 (by decide) ?_
    refine x_iload_n (pc := 8) dX4_addKind_8 rfl ?_
    refine x_iconst (pc := 9) dX4_addKind_9 ?_
    refine x_iconst (pc := 10) dX4_addKind_10 ?_
    refine x_callV4 (pc := 11) dX4_addKind_11 (k_RX4_19 _ rfl) tmv_X4_addRow (by assumption) rfl rfl rfl ?_
    refine c_p_row hp0 (by omega) hk (Or.inl rfl) (Or.inl rfl) hP (by omega) (fun g hF hP2 => ?_)
    have ea : ∀ q, a ≤ q → q ≤ a + 5 → g q = h q := fun q q1 q2 => hF q (by omega)
    have e0 : g a = h a := ea a (by omega) (by omega)
    have e1 : g (a + 1) = h (a + 1) := ea _ (by omega) (by omega)
    have e2 : g (a + 2) = h (a + 2) := ea _ (by omega) (by omega)
    have ek : kPR2 g a = kPR2 h a := by unfold kPR2; rw [e0, ea (a + 3) (by omega) (by omega), ea (a + 4) (by omega) (by omega), ea (a + 5) (by omega) (by omega)]
    dsimp only [Option.toList, List.cons_append, List.nil_append]
    refine x_iconst (pc := 14) dX4_addKind_14 ?_
    refine x_istore_n (pc := 15) dX4_addKind_15 (by decide) ?_
    exact x_loc _ (by exact ⟨rfl, rfl, rfl, rfl, trivial⟩) (c_p_kind16 (h := g) hp0 hK0 hd (by rw [kPrOK_fr ea]; exact hO) (by rw [ek, e0, e1, e2]; exact hl) (fun h' hf hp' => hq h' (Fr.t hF hf) (by rw [ek, e0, e1, e2] at hp'; exact hp')) 11 0 g (by have := hO.1; rw [e0]; omega) (Fr.rf _ _ _) (by rw [show gL (stF (g (a + 1)) (g (a + 2))) 0 = [] from rfl, List.append_nil]; exact hP2) (by have := hO.1; rw [e0]; omega))
  · (try simp (disch := omega) only [zb_e0, zb_n0, w32_id, w64_id, ne_eq, Classical.not_not] at c_1)
    omega

end C9
