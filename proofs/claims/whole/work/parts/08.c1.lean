section C1
variable {D : va_G} {d : Nat} {ty : zT} {sz : Nat} {h : zH} {Q : zQ}
noncomputable def zb (p : Prop) : Int := @ite _ p (Classical.propDecidable p) 1 0
theorem zb_t {p : Prop} (hp : p) : zb p = 1 := if_pos hp
theorem zb_f {p : Prop} (hp : ¬ p) : zb p = 0 := if_neg hp
theorem zb_01 (p : Prop) : zb p = 0 ∨ zb p = 1 := by
  by_cases hp : p
  · exact Or.inr (zb_t hp)
  · exact Or.inl (zb_f hp)
theorem zb_c {p q : Prop} (e : p ↔ q) : zb p = zb q := by rw [propext e]
theorem zb_e0 (p : Prop) : (w32 (zb p) = 0) = ¬ p := by
  by_cases hp : p
  · rw [zb_t hp]; simp [hp, w32]
  · rw [zb_f hp]; simp [hp, w32]
theorem zb_n0 (p : Prop) : (w32 (zb p) ≠ 0) = p := by
  rw [ne_eq, zb_e0, Classical.not_not]
def zcl (h : zH) (row : Int) (N : Nat) (i : Int) : Int := if 0 ≤ i ∧ i < N then h row i else -1
theorem zcl_in {h : zH} {row : Int} {N : Nat} {i : Int} (h0 : 0 ≤ i) (h1 : i < N) : zcl h row N i = h row i := if_pos ⟨h0, h1⟩
def zfil (h : zH) (row : Int) (n : Int) (v : Int) : zH := fun a k => if a = row ∧ 0 ≤ k ∧ k < n then v else h a k
def zdu (v dv : Int) : Int := if 0 < dv then (v + dv - 1).tdiv dv else 0
/-- outside lo .. hi nothing has changed -/
def Fr (lo hi : Int) (h h' : zH) : Prop := ∀ a, a < lo ∨ hi < a → h' a = h a
theorem Fr.rf (lo hi : Int) (h : zH) : Fr lo hi h h := fun _ _ => rfl
theorem Fr.tr {l1 h1 l2 h2 lo hi : Int} {a b c : zH} (x : Fr l1 h1 a b) (y : Fr l2 h2 b c) (e1 : lo ≤ l1) (e2 : h1 ≤ hi) (e3 : lo ≤ l2) (e4 : h2 ≤ hi) : Fr lo hi a c := fun q hq => (y q (by omega)).trans (x q (by omega))
theorem Fr.wd {l1 h1 lo hi : Int} {a b : zH} (x : Fr l1 h1 a b) (e1 : lo ≤ l1) (e2 : h1 ≤ hi) : Fr lo hi a b := fun q hq => x q (by omega)
theorem Fr.up {lo hi a k v : Int} {h h' : zH} (x : Fr lo hi h h') (h1 : lo ≤ a) (h2 : a ≤ hi) : Fr lo hi h (zup h' a k v) := by
  intro q hq
  rw [zup_ne (by omega), x q hq]
def isKT (ty : zT) (a : Int) : Prop := 0 ≤ a ∧ ty a = some (3, 15, fun i => if i = 2 then some (a + 1) else if i = 3 then some (a + 2) else if i = 4 then some (a + 3) else if i = 5 then some (a + 4) else if i = 6 then some (a + 5) else none) ∧ ty (a + 1) = some (8, 10, zn) ∧ ty (a + 2) = some (8, 10, zn) ∧ ty (a + 3) = some (8, 10, zn) ∧ ty (a + 4) = some (8, 10, zn) ∧ ty (a + 5) = some (8, 10, zn)
def isIT (ty : zT) (a : Int) : Prop := 0 ≤ a ∧ ty a = some (2, 6, zn)

set_option maxHeartbeats 4000000 in
set_option maxRecDepth 100000 in
theorem c_isWithin {x lo hi : Int} (hx : i32 x) (hl : i32 lo) (hh : i32 hi) (hq : Q (some (iV (zb (lo ≤ x ∧ x ≤ hi)))) ty sz h) : zXM D mX6_isWithin d 0 0 [iV x, iV lo, iV hi] ty sz h Q := by
  refine x_iload_n (pc := 0) dX6_isWithin_0 rfl ?_
  refine x_iload_n (pc := 1) dX6_isWithin_1 rfl ?_
  refine x_icmp_lt (pc := 2) 14 dX6_isWithin_2 rfl (fun c_2 => ?_) (fun c_2 => ?_)
  · (try simp (disch := omega) only [zb_e0, zb_n0, w32_id, w64_id, ne_eq, Classical.not_not] at c_2)
    refine x_iconst (pc := 14) dX6_isWithin_14 ?_
    refine x_retv (pc := 15) ⟨dX6_isWithin_15, Or.inr ⟨rfl, (by decide)⟩⟩ ?_
    first | rw [zb_t (by omega)] at hq | rw [zb_f (by omega)] at hq
    exact hq
  · (try simp (disch := omega) only [zb_e0, zb_n0, w32_id, w64_id, ne_eq, Classical.not_not] at c_2)
    refine x_iload_n (pc := 5) dX6_isWithin_5 rfl ?_
    refine x_iload_n (pc := 6) dX6_isWithin_6 rfl ?_
    refine x_icmp_gt (pc := 7) 14 dX6_isWithin_7 rfl (fun c_7 => ?_) (fun c_7 => ?_)
    · (try simp (disch := omega) only [zb_e0, zb_n0, w32_id, w64_id, ne_eq, Classical.not_not] at c_7)
      refine x_iconst (pc := 14) dX6_isWithin_14 ?_
      refine x_retv (pc := 15) ⟨dX6_isWithin_15, Or.inr ⟨rfl, (by decide)⟩⟩ ?_
      first | rw [zb_t (by omega)] at hq | rw [zb_f (by omega)] at hq
      exact hq
    · (try simp (disch := omega) only [zb_e0, zb_n0, w32_id, w64_id, ne_eq, Classical.not_not] at c_7)
      refine x_iconst (pc := 10) dX6_isWithin_10 ?_
      refine x_goto (pc := 11) 15 dX6_isWithin_11 rfl ?_
      refine x_retv (pc := 15) ⟨dX6_isWithin_15, Or.inr ⟨rfl, (by decide)⟩⟩ ?_
      first | rw [zb_t (by omega)] at hq | rw [zb_f (by omega)] at hq
      exact hq

set_option maxHeartbeats 4000000 in
set_option maxRecDepth 100000 in
theorem c_isName {x : Int} (hx : i32 x) (hq : Q (some (iV (zb (0 ≤ x ∧ x ≤ 9)))) ty sz h) : zXM D mX6_isName (d + 1) 0 0 [iV x] ty sz h Q := by
  refine x_iload_n (pc := 0) dX6_isName_0 rfl ?_
  refine x_iconst (pc := 1) dX6_isName_1 ?_
  refine x_bipush (pc := 2) dX6_isName_2 (by decide) ?_
  refine x_callS3 (pc := 4) dX6_isName_4 (k_RX6_46 _ rfl) tms_X6_isWithin rfl rfl ?_
  refine c_isWithin (by omega) (by omega) (by omega) ?_
  dsimp only [Option.toList, List.cons_append, List.nil_append]
  refine x_retv (pc := 7) ⟨dX6_isName_7, Or.inr ⟨rfl, (zb_01 _)⟩⟩ ?_
  exact hq

set_option maxHeartbeats 4000000 in
set_option maxRecDepth 100000 in
theorem c_isMeasure {x : Int} (hx : i32 x) (hq : Q (some (iV (zb (1 ≤ x ∧ x ≤ 100000)))) ty sz h) : zXM D mX6_isMeasure (d + 1) 0 0 [iV x] ty sz h Q := by
  refine x_iload_n (pc := 0) dX6_isMeasure_0 rfl ?_
  refine x_iconst (pc := 1) dX6_isMeasure_1 ?_
  refine x_ldc (pc := 2) dX6_isMeasure_2 (100000) tc_RX6_169 (by decide) ?_
  refine x_callS3 (pc := 4) dX6_isMeasure_4 (k_RX6_46 _ rfl) tms_X6_isWithin rfl rfl ?_
  refine c_isWithin (by omega) (by omega) (by omega) ?_
  dsimp only [Option.toList, List.cons_append, List.nil_append]
  refine x_retv (pc := 7) ⟨dX6_isMeasure_7, Or.inr ⟨rfl, (zb_01 _)⟩⟩ ?_
  exact hq

set_option maxHeartbeats 4000000 in
set_option maxRecDepth 100000 in
theorem c_cell {row i : Int} {N : Nat} (hi : i32 i) (ht : ty row = some (8, N, zn)) (hN : N ≤ 10000) (h0 : 0 ≤ row) (hq : i32 (zcl h row N i) → Q (some (iV (zcl h row N i))) ty sz h) : zXM D mX6_cell d 0 0 [rV row, iV i] ty sz h Q := by
  refine x_aload_n (pc := 0) dX6_cell_0 rfl ?_
  refine x_ifnull (pc := 1) 20 dX6_cell_1 rfl (fun c_1 => ?_) (fun c_1 => ?_)
  · (try simp (disch := omega) only [zb_e0, zb_n0, w32_id, w64_id, ne_eq, Classical.not_not] at c_1)
    refine x_iconst (pc := 20) dX6_cell_20 ?_
    refine x_retv (pc := 21) ⟨dX6_cell_21, Or.inl rfl⟩ ?_
    first | (exfalso; omega) | (rw [zcl_in (by omega) (by omega)] at hq; exact hq (by omega)) | (rw [show zcl h row N i = -1 from if_neg (by omega)] at hq; exact hq (by omega))
  · (try simp (disch := omega) only [zb_e0, zb_n0, w32_id, w64_id, ne_eq, Classical.not_not] at c_1)
    refine x_iload_n (pc := 4) dX6_cell_4 rfl ?_
    refine x_if_lt (pc := 5) 20 dX6_cell_5 rfl (fun c_5 => ?_) (fun c_5 => ?_)
    · (try simp (disch := omega) only [zb_e0, zb_n0, w32_id, w64_id, ne_eq, Classical.not_not] at c_5)
      refine x_iconst (pc := 20) dX6_cell_20 ?_
      refine x_retv (pc := 21) ⟨dX6_cell_21, Or.inl rfl⟩ ?_
      first | (exfalso; omega) | (rw [zcl_in (by omega) (by omega)] at hq; exact hq (by omega)) | (rw [show zcl h row N i = -1 from if_neg (by omega)] at hq; exact hq (by omega))
    · (try simp (disch := omega) only [zb_e0, zb_n0, w32_id, w64_id, ne_eq, Classical.not_not] at c_5)
      refine x_iload_n (pc := 8) dX6_cell_8 rfl ?_
      refine x_aload_n (pc := 9) dX6_cell_9 rfl ?_
      refine x_alen (pc := 10) dX6_cell_10 (by assumption) (by decide) ?_
      refine x_icmp_ge (pc := 11) 20 dX6_cell_11 rfl (fun c_11 => ?_) (fun c_11 => ?_)
      · (try simp (disch := omega) only [zb_e0, zb_n0, w32_id, w64_id, ne_eq, Classical.not_not] at c_11)
        refine x_iconst (pc := 20) dX6_cell_20 ?_
        refine x_retv (pc := 21) ⟨dX6_cell_21, Or.inl rfl⟩ ?_
        first | (exfalso; omega) | (rw [zcl_in (by omega) (by omega)] at hq; exact hq (by omega)) | (rw [show zcl h row N i = -1 from if_neg (by omega)] at hq; exact hq (by omega))
      · (try simp (disch := omega) only [zb_e0, zb_n0, w32_id, w64_id, ne_eq, Classical.not_not] at c_11)
        refine x_aload_n (pc := 14) dX6_cell_14 rfl ?_
        refine x_iload_n (pc := 15) dX6_cell_15 rfl ?_
        refine x_iald (pc := 16) dX6_cell_16 (by assumption) (by omega) (by omega) (fun b_16 => ?_)
        refine x_goto (pc := 17) 21 dX6_cell_17 rfl ?_
        refine x_retv (pc := 21) ⟨dX6_cell_21, Or.inl rfl⟩ ?_
        first | (exfalso; omega) | (rw [zcl_in (by omega) (by omega)] at hq; exact hq (by omega)) | (rw [show zcl h row N i = -1 from if_neg (by omega)] at hq; exact hq (by omega))

theorem c_cellIn {row i : Int} {N : Nat} (h0 : 0 ≤ i) (h1 : i < N) (ht : ty row = some (8, N, zn)) (hN : N ≤ 10000) (hr : 0 ≤ row) (hq : i32 (h row i) → Q (some (iV (h row i))) ty sz h) : zXM D mX6_cell d 0 0 [rV row, iV i] ty sz h Q := c_cell (by omega) ht hN hr (by rw [zcl_in h0 h1]; exact hq)
set_option maxHeartbeats 4000000 in
set_option maxRecDepth 100000 in
theorem c_put {row i v : Int} {N : Nat} (hi : 0 ≤ i) (hi2 : i < N) (hv : i32 v) (ht : ty row = some (8, N, zn)) (hN : N ≤ 10000) (h0 : 0 ≤ row) (hq : Q none ty sz (zup h row i v)) : zXM D mX6_put d 0 0 [rV row, iV i, iV v] ty sz h Q := by
  refine x_aload_n (pc := 0) dX6_put_0 rfl ?_
  refine x_ifnull (pc := 1) 18 dX6_put_1 rfl (fun c_1 => ?_) (fun c_1 => ?_)
  · (try simp (disch := omega) only [zb_e0, zb_n0, w32_id, w64_id, ne_eq, Classical.not_not] at c_1)
    refine x_ret (pc := 18) ⟨dX6_put_18, rfl⟩ ?_
    first | (exfalso; omega) | exact hq
  · (try simp (disch := omega) only [zb_e0, zb_n0, w32_id, w64_id, ne_eq, Classical.not_not] at c_1)
    refine x_iload_n (pc := 4) dX6_put_4 rfl ?_
    refine x_if_lt (pc := 5) 18 dX6_put_5 rfl (fun c_5 => ?_) (fun c_5 => ?_)
    · (try simp (disch := omega) only [zb_e0, zb_n0, w32_id, w64_id, ne_eq, Classical.not_not] at c_5)
      refine x_ret (pc := 18) ⟨dX6_put_18, rfl⟩ ?_
      first | (exfalso; omega) | exact hq
    · (try simp (disch := omega) only [zb_e0, zb_n0, w32_id, w64_id, ne_eq, Classical.not_not] at c_5)
      refine x_iload_n (pc := 8) dX6_put_8 rfl ?_
      refine x_aload_n (pc := 9) dX6_put_9 rfl ?_
      refine x_alen (pc := 10) dX6_put_10 (by assumption) (by decide) ?_
      refine x_icmp_ge (pc := 11) 18 dX6_put_11 rfl (fun c_11 => ?_) (fun c_11 => ?_)
      · (try simp (disch := omega) only [zb_e0, zb_n0, w32_id, w64_id, ne_eq, Classical.not_not] at c_11)
        refine x_ret (pc := 18) ⟨dX6_put_18, rfl⟩ ?_
        first | (exfalso; omega) | exact hq
      · (try simp (disch := omega) only [zb_e0, zb_n0, w32_id, w64_id, ne_eq, Classical.not_not] at c_11)
        refine x_aload_n (pc := 14) dX6_put_14 rfl ?_
        refine x_iload_n (pc := 15) dX6_put_15 rfl ?_
        refine x_iload_n (pc := 16) dX6_put_16 rfl ?_
        refine x_iast (pc := 17) dX6_put_17 (by assumption) (by omega) (by omega) (by rfl) (by omega) ?_
        refine x_ret (pc := 18) ⟨dX6_put_18, rfl⟩ ?_
        first | (exfalso; omega) | exact hq

theorem zfil_0 (h : zH) (row v : Int) : zfil h row 0 v = h := by funext a k; unfold zfil; rw [if_neg (by omega)]
theorem zfil_s (h : zH) (row v i : Int) (h0 : 0 ≤ i) : zup (zfil h row i v) row i v = zfil h row (i + 1) v := by
  funext a k
  unfold zup zfil
  by_cases ha : a = row
  · by_cases hk : k = i
    · rw [if_pos ⟨ha, hk⟩, if_pos ⟨ha, by omega, by omega⟩]
    · rw [if_neg (fun q => hk q.2)]
      by_cases hk2 : 0 ≤ k ∧ k < i
      · rw [if_pos ⟨ha, hk2⟩, if_pos ⟨ha, by omega, by omega⟩]
      · rw [if_neg (fun q => hk2 q.2), if_neg (fun q => by omega)]
  · rw [if_neg (fun q => ha q.1), if_neg (fun q => ha q.1), if_neg (fun q => ha q.1)]
set_option maxHeartbeats 4000000 in
set_option maxRecDepth 100000 in
theorem c_fill_l {row v : Int} {N : Nat} (hv : i32 v) (ht : ty row = some (8, N, zn)) (hN : N ≤ 10000) (h0 : 0 ≤ row) (hq : Q none ty sz (zfil h row N v)) : ∀ (n : Nat) (i : Int) (g : zH), 0 ≤ i → N - i = n → g = zfil h row i v → zX D mX6_fill d 0 0 2 [(2, iV i), (0, rV row), (1, iV v)] [] ty sz g Q := by
  intro n
  induction n with
  | zero =>
    intro i g h1 h2 hg
    have hi : i = N := by omega
    subst hi
    subst hg
    refine x_aload_n (pc := 2) dX6_fill_2 rfl ?_
    refine x_ifnull (pc := 3) 22 dX6_fill_3 rfl (fun c => by omega) (fun c => ?_)
    refine x_iload_n (pc := 6) dX6_fill_6 rfl ?_
    refine x_aload_n (pc := 7) dX6_fill_7 rfl ?_
    refine x_alen (pc := 8) dX6_fill_8 ht (by decide) ?_
    refine x_icmp_ge (pc := 9) 22 dX6_fill_9 rfl (fun c => ?_) (fun c => by simp (disch := omega) only [w32_id] at c; omega)
    exact x_ret (pc := 22) ⟨dX6_fill_22, rfl⟩ hq
  | succ n ih =>
    intro i g h1 h2 hg
    refine x_aload_n (pc := 2) dX6_fill_2 rfl ?_
    refine x_ifnull (pc := 3) 22 dX6_fill_3 rfl (fun c_3 => ?_) (fun c_3 => ?_)
    · (try simp (disch := omega) only [zb_e0, zb_n0, w32_id, w64_id, ne_eq, Classical.not_not] at c_3)
      omega
    · (try simp (disch := omega) only [zb_e0, zb_n0, w32_id, w64_id, ne_eq, Classical.not_not] at c_3)
      refine x_iload_n (pc := 6) dX6_fill_6 rfl ?_
      refine x_aload_n (pc := 7) dX6_fill_7 rfl ?_
      refine x_alen (pc := 8) dX6_fill_8 (by assumption) (by decide) ?_
      refine x_icmp_ge (pc := 9) 22 dX6_fill_9 rfl (fun c_9 => ?_) (fun c_9 => ?_)
      · (try simp (disch := omega) only [zb_e0, zb_n0, w32_id, w64_id, ne_eq, Classical.not_not] at c_9)
        omega
      · (try simp (disch := omega) only [zb_e0, zb_n0, w32_id, w64_id, ne_eq, Classical.not_not] at c_9)
        refine x_aload_n (pc := 12) dX6_fill_12 rfl ?_
        refine x_iload_n (pc := 13) dX6_fill_13 rfl ?_
        refine x_iload_n (pc := 14) dX6_fill_14 rfl ?_
        refine x_iast (pc := 15) dX6_fill_15 (by assumption) (by omega) (by omega) (by rfl) (by omega) ?_
        refine x_iinc (pc := 16) dX6_fill_16 rfl (by decide) ?_
        refine x_goto (pc := 19) 2 dX6_fill_19 rfl ?_
        exact x_loc _ (by exact ⟨rfl, rfl, rfl, trivial⟩) (ih (i + 1) _ (by omega) (by omega) (by rw [hg, zfil_s h row v i h1]))

set_option maxHeartbeats 4000000 in
set_option maxRecDepth 100000 in
theorem c_fill {row v : Int} {N : Nat} (hv : i32 v) (ht : ty row = some (8, N, zn)) (hN : N ≤ 10000) (h0 : 0 ≤ row) (hq : Q none ty sz (zfil h row N v)) : zXM D mX6_fill d 0 0 [rV row, iV v] ty sz h Q := by
  refine x_iconst (pc := 0) dX6_fill_0 ?_
  refine x_istore_n (pc := 1) dX6_fill_1 (by decide) ?_
  exact x_loc _ (by exact ⟨rfl, rfl, rfl, trivial⟩) (c_fill_l hv ht hN h0 hq N 0 h (by omega) (by omega) (zfil_0 h row v).symm)

set_option maxHeartbeats 4000000 in
set_option maxRecDepth 100000 in
theorem c_dividedUp {a b : Int} (ha : 0 ≤ a) (ha2 : a ≤ 2000000000000000) (hb : 0 ≤ b) (hb2 : b ≤ 1000000000000000) (hq : Q (some (lV (zdu a b))) ty sz h) : zXM D mX6_dividedUp d 0 0 [lV a, lV b] ty sz h Q := by
  refine x_lload_n (pc := 0) dX6_dividedUp_0 rfl ?_
  refine x_lconst (pc := 1) dX6_dividedUp_1 0 (by decide) ?_
  refine x_lcmp_le (pc := 2) 16 dX6_dividedUp_2 dX6_dividedUp_3 rfl (fun c_2 => ?_) (fun c_2 => ?_)
  · (try simp (disch := omega) only [zb_e0, zb_n0, w32_id, w64_id, ne_eq, Classical.not_not] at c_2)
    refine x_lconst (pc := 16) dX6_dividedUp_16 0 (by decide) ?_
    refine x_retv (pc := 17) ⟨dX6_dividedUp_17, rfl⟩ ?_
    unfold zdu at hq
    first
      | (rw [if_pos (by omega)] at hq; rw [w64_id (by omega) (by omega), w64_id (by omega) (by omega)]; exact hq)
      | (rw [if_neg (by omega)] at hq; exact hq)
  · (try simp (disch := omega) only [zb_e0, zb_n0, w32_id, w64_id, ne_eq, Classical.not_not] at c_2)
    refine x_lload_n (pc := 6) dX6_dividedUp_6 rfl ?_
    refine x_lload_n (pc := 7) dX6_dividedUp_7 rfl ?_
    refine x_ladd (pc := 8) dX6_dividedUp_8 ?_
    refine x_lconst (pc := 9) dX6_dividedUp_9 1 (by decide) ?_
    refine x_lsub (pc := 10) dX6_dividedUp_10 ?_
    refine x_lload_n (pc := 11) dX6_dividedUp_11 rfl ?_
    refine x_ldiv (pc := 12) dX6_dividedUp_12 (by rw [w64_id (by omega) (by omega)]; omega) ?_
    refine x_goto (pc := 13) 17 dX6_dividedUp_13 rfl ?_
    refine x_retv (pc := 17) ⟨dX6_dividedUp_17, rfl⟩ ?_
    unfold zdu at hq
    first
      | (rw [if_pos (by omega)] at hq; rw [w64_id (by omega) (by omega), w64_id (by omega) (by omega)]; exact hq)
      | (rw [if_neg (by omega)] at hq; exact hq)

end C1
