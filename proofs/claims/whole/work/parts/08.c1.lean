section C1
variable {D : va_G} {d : Nat} {ty : zT} {sz : Nat} {h : zH} {Q : zQ}
abbrev i32 (x : Int) : Prop := -2147483648 ≤ x ∧ x ≤ 2147483647
def zb (p : Prop) [Decidable p] : Int := if p then 1 else 0
theorem zb_t {p : Prop} [Decidable p] (hp : p) : zb p = 1 := if_pos hp
theorem zb_f {p : Prop} [Decidable p] (hp : ¬ p) : zb p = 0 := if_neg hp
theorem zb_01 (p : Prop) [Decidable p] : zb p = 0 ∨ zb p = 1 := by unfold zb; split <;> simp
theorem zb_c {p q : Prop} [Decidable p] [Decidable q] (e : p ↔ q) : zb p = zb q := by unfold zb; simp only [e]
def zcl (h : zH) (row : Int) (N : Nat) (i : Int) : Int := if 0 ≤ i ∧ i < N then h row i else -1
theorem zcl_in {h : zH} {row : Int} {N : Nat} {i : Int} (h0 : 0 ≤ i) (h1 : i < N) : zcl h row N i = h row i := if_pos ⟨h0, h1⟩
def zfil (h : zH) (row : Int) (n : Int) (v : Int) : zH := fun a k => if a = row ∧ 0 ≤ k ∧ k < n then v else h a k
def zdu (v dv : Int) : Int := if 0 < dv then (v + dv - 1) / dv else 0

set_option maxHeartbeats 4000000 in
set_option maxRecDepth 100000 in
theorem c_isWithin {x lo hi : Int} (hx : i32 x) (hl : i32 lo) (hh : i32 hi) (hq : Q (some (iV (zb (lo ≤ x ∧ x ≤ hi)))) ty sz h) : zXM D mX6_isWithin d 0 0 [iV x, iV lo, iV hi] ty sz h Q := by
  refine x_iload_n (pc := 0) dX6_isWithin_0 rfl ?_
  refine x_iload_n (pc := 1) dX6_isWithin_1 rfl ?_
  refine x_icmp_lt (pc := 2) 14 dX6_isWithin_2 rfl (fun c_2 => ?_) (fun c_2 => ?_)
  · (try simp (disch := omega) only [w32_id, w64_id] at c_2)
    refine x_iconst (pc := 14) dX6_isWithin_14 ?_
    refine x_retv (pc := 15) ⟨dX6_isWithin_15, Or.inr ⟨rfl, (by decide)⟩⟩ ?_
    first | rw [zb_t (by omega)] at hq | rw [zb_f (by omega)] at hq
    exact hq
  · (try simp (disch := omega) only [w32_id, w64_id] at c_2)
    refine x_iload_n (pc := 5) dX6_isWithin_5 rfl ?_
    refine x_iload_n (pc := 6) dX6_isWithin_6 rfl ?_
    refine x_icmp_gt (pc := 7) 14 dX6_isWithin_7 rfl (fun c_7 => ?_) (fun c_7 => ?_)
    · (try simp (disch := omega) only [w32_id, w64_id] at c_7)
      refine x_iconst (pc := 14) dX6_isWithin_14 ?_
      refine x_retv (pc := 15) ⟨dX6_isWithin_15, Or.inr ⟨rfl, (by decide)⟩⟩ ?_
      first | rw [zb_t (by omega)] at hq | rw [zb_f (by omega)] at hq
      exact hq
    · (try simp (disch := omega) only [w32_id, w64_id] at c_7)
      refine x_iconst (pc := 10) dX6_isWithin_10 ?_
      refine x_goto (pc := 11) 15 dX6_isWithin_11 rfl ?_
      refine x_retv (pc := 15) ⟨dX6_isWithin_15, Or.inr ⟨rfl, (by decide)⟩⟩ ?_
      first | rw [zb_t (by omega)] at hq | rw [zb_f (by omega)] at hq
      exact hq

set_option maxHeartbeats 4000000 in
set_option maxRecDepth 100000 in
theorem c_isName {x : Int} (hx : i32 x) (hq : Q (some (iV (zb (0 ≤ x ∧ x ≤ 9)))) ty sz h) : zXM D mX6_isName (d + 1) 0 0 [iV x] ty sz h Q := by
  refine x_iload_n (pc := 0) dX6_isName_0 rfl ?_
  refine x_iconst (pc := 1) dX6_isName_1 ?_
  refine x_bipush (pc := 2) dX6_isName_2 (by decide) ?_
  refine x_callS3 (pc := 4) dX6_isName_4 (k_RX6_46 _ rfl) tms_X6_isWithin rfl rfl ?_
  refine c_isWithin (by omega) (by omega) (by omega) ?_
  dsimp only [Option.toList, List.cons_append, List.nil_append]
  refine x_retv (pc := 7) ⟨dX6_isName_7, Or.inr ⟨rfl, (zb_01 _)⟩⟩ ?_
  exact hq

set_option maxHeartbeats 4000000 in
set_option maxRecDepth 100000 in
theorem c_isMeasure {x : Int} (hx : i32 x) (hq : Q (some (iV (zb (1 ≤ x ∧ x ≤ 100000)))) ty sz h) : zXM D mX6_isMeasure (d + 1) 0 0 [iV x] ty sz h Q := by
  refine x_iload_n (pc := 0) dX6_isMeasure_0 rfl ?_
  refine x_iconst (pc := 1) dX6_isMeasure_1 ?_
  refine x_ldc (pc := 2) dX6_isMeasure_2 (100000) tc_RX6_169 (by decide) ?_
  refine x_callS3 (pc := 4) dX6_isMeasure_4 (k_RX6_46 _ rfl) tms_X6_isWithin rfl rfl ?_
  refine c_isWithin (by omega) (by omega) (by omega) ?_
  dsimp only [Option.toList, List.cons_append, List.nil_append]
  refine x_retv (pc := 7) ⟨dX6_isMeasure_7, Or.inr ⟨rfl, (zb_01 _)⟩⟩ ?_
  exact hq

set_option maxHeartbeats 4000000 in
set_option maxRecDepth 100000 in
theorem c_cell {row i : Int} {N : Nat} (hi : i32 i) (ht : ty row = some (8, N, zn)) (hN : N ≤ 10000) (h0 : 0 ≤ row) (hq : Q (some (iV (zcl h row N i))) ty sz h) : zXM D mX6_cell d 0 0 [rV row, iV i] ty sz h Q := by
  refine x_aload_n (pc := 0) dX6_cell_0 rfl ?_
  refine x_ifnull (pc := 1) 20 dX6_cell_1 rfl (fun c_1 => ?_) (fun c_1 => ?_)
  · (try simp (disch := omega) only [w32_id, w64_id] at c_1)
    refine x_iconst (pc := 20) dX6_cell_20 ?_
    refine x_retv (pc := 21) ⟨dX6_cell_21, Or.inl rfl⟩ ?_
    first | (rw [zcl_in (by omega) (by omega)] at hq; exact hq) | (rw [show zcl h row N i = -1 from if_neg (by omega)] at hq; exact hq) | (exfalso; omega)
  · (try simp (disch := omega) only [w32_id, w64_id] at c_1)
    refine x_iload_n (pc := 4) dX6_cell_4 rfl ?_
    refine x_if_lt (pc := 5) 20 dX6_cell_5 rfl (fun c_5 => ?_) (fun c_5 => ?_)
    · (try simp (disch := omega) only [w32_id, w64_id] at c_5)
      refine x_iconst (pc := 20) dX6_cell_20 ?_
      refine x_retv (pc := 21) ⟨dX6_cell_21, Or.inl rfl⟩ ?_
      first | (rw [zcl_in (by omega) (by omega)] at hq; exact hq) | (rw [show zcl h row N i = -1 from if_neg (by omega)] at hq; exact hq) | (exfalso; omega)
    · (try simp (disch := omega) only [w32_id, w64_id] at c_5)
      refine x_iload_n (pc := 8) dX6_cell_8 rfl ?_
      refine x_aload_n (pc := 9) dX6_cell_9 rfl ?_
      refine x_alen (pc := 10) dX6_cell_10 (by assumption) (by decide) ?_
      refine x_icmp_ge (pc := 11) 20 dX6_cell_11 rfl (fun c_11 => ?_) (fun c_11 => ?_)
      · (try simp (disch := omega) only [w32_id, w64_id] at c_11)
        refine x_iconst (pc := 20) dX6_cell_20 ?_
        refine x_retv (pc := 21) ⟨dX6_cell_21, Or.inl rfl⟩ ?_
        first | (rw [zcl_in (by omega) (by omega)] at hq; exact hq) | (rw [show zcl h row N i = -1 from if_neg (by omega)] at hq; exact hq) | (exfalso; omega)
      · (try simp (disch := omega) only [w32_id, w64_id] at c_11)
        refine x_aload_n (pc := 14) dX6_cell_14 rfl ?_
        refine x_iload_n (pc := 15) dX6_cell_15 rfl ?_
        refine x_iald (pc := 16) dX6_cell_16 (by assumption) (by omega) (by omega) ?_
        refine x_goto (pc := 17) 21 dX6_cell_17 rfl ?_
        refine x_retv (pc := 21) ⟨dX6_cell_21, Or.inl rfl⟩ ?_
        first | (rw [zcl_in (by omega) (by omega)] at hq; exact hq) | (rw [show zcl h row N i = -1 from if_neg (by omega)] at hq; exact hq) | (exfalso; omega)

set_option maxHeartbeats 4000000 in
set_option maxRecDepth 100000 in
theorem c_put {row i v : Int} {N : Nat} (hi : 0 ≤ i) (hi2 : i < N) (ht : ty row = some (8, N, zn)) (hN : N ≤ 10000) (h0 : 0 ≤ row) (hq : Q none ty sz (zup h row i v)) : zXM D mX6_put d 0 0 [rV row, iV i, iV v] ty sz h Q := by
  refine x_aload_n (pc := 0) dX6_put_0 rfl ?_
  refine x_ifnull (pc := 1) 18 dX6_put_1 rfl (fun c_1 => ?_) (fun c_1 => ?_)
  · (try simp (disch := omega) only [w32_id, w64_id] at c_1)
    refine x_ret (pc := 18) ⟨dX6_put_18, rfl⟩ ?_
    first | exact hq | (exfalso; omega)
  · (try simp (disch := omega) only [w32_id, w64_id] at c_1)
    refine x_iload_n (pc := 4) dX6_put_4 rfl ?_
    refine x_if_lt (pc := 5) 18 dX6_put_5 rfl (fun c_5 => ?_) (fun c_5 => ?_)
    · (try simp (disch := omega) only [w32_id, w64_id] at c_5)
      refine x_ret (pc := 18) ⟨dX6_put_18, rfl⟩ ?_
      first | exact hq | (exfalso; omega)
    · (try simp (disch := omega) only [w32_id, w64_id] at c_5)
      refine x_iload_n (pc := 8) dX6_put_8 rfl ?_
      refine x_aload_n (pc := 9) dX6_put_9 rfl ?_
      refine x_alen (pc := 10) dX6_put_10 (by assumption) (by decide) ?_
      refine x_icmp_ge (pc := 11) 18 dX6_put_11 rfl (fun c_11 => ?_) (fun c_11 => ?_)
      · (try simp (disch := omega) only [w32_id, w64_id] at c_11)
        refine x_ret (pc := 18) ⟨dX6_put_18, rfl⟩ ?_
        first | exact hq | (exfalso; omega)
      · (try simp (disch := omega) only [w32_id, w64_id] at c_11)
        refine x_aload_n (pc := 14) dX6_put_14 rfl ?_
        refine x_iload_n (pc := 15) dX6_put_15 rfl ?_
        refine x_iload_n (pc := 16) dX6_put_16 rfl ?_
        refine x_iast (pc := 17) dX6_put_17 (by assumption) (by omega) (by omega) rfl ?_
        refine x_ret (pc := 18) ⟨dX6_put_18, rfl⟩ ?_
        first | exact hq | (exfalso; omega)

end C1
