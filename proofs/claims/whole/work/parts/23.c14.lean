section C14
variable {D : va_G} {d : Nat} {ty : zT} {sz : Nat} {h : zH} {Q : zQ}
/-- a row's numbers: fault, or the place behind them and they themselves -/
noncomputable def rdN (T : List Int) (l : List Row) (c : Int) : Nat → Int → Int → Int → List Int → Int ⊕ (Int × List Int)
  | 0, _, p, _, acc => .inr (p, acc)
  | k + 1, n, p, a, acc => @ite _ (0 < n ∧ lookT T p ≠ 32) (Classical.propDecidable _) (.inl p) (@ite _ ((numR T (if 0 < n then p + 1 else p)).2 = (if 0 < n then p + 1 else p) ∨ ¬ okN l c n (numR T (if 0 < n then p + 1 else p)).1 a) (Classical.propDecidable _) (.inl (if 0 < n then p + 1 else p)) (rdN T l c k (n + 1) (numR T (if 0 < n then p + 1 else p)).2 (if n = 0 then (numR T (if 0 < n then p + 1 else p)).1 else a) (acc ++ [(numR T (if 0 < n then p + 1 else p)).1])))
theorem rdN_sep {T : List Int} {l : List Row} {c : Int} {k : Nat} {n p a : Int} {acc : List Int} (h : 0 < n ∧ lookT T p ≠ 32) : rdN T l c (k + 1) n p a acc = .inl p := if_pos h
theorem rdN_bad {T : List Int} {l : List Row} {c : Int} {k : Nat} {n p a q : Int} {acc : List Int} (h : ¬ (0 < n ∧ lookT T p ≠ 32)) (hq : q = if 0 < n then p + 1 else p) (hb : (numR T q).2 = q ∨ ¬ okN l c n (numR T q).1 a) : rdN T l c (k + 1) n p a acc = .inl q := by
  subst hq
  exact (if_neg h).trans (if_pos hb)
theorem rdN_ok {T : List Int} {l : List Row} {c : Int} {k : Nat} {n p a q : Int} {acc : List Int} (h : ¬ (0 < n ∧ lookT T p ≠ 32)) (hq : q = if 0 < n then p + 1 else p) (hb : ¬ ((numR T q).2 = q ∨ ¬ okN l c n (numR T q).1 a)) : rdN T l c (k + 1) n p a acc = rdN T l c k (n + 1) (numR T q).2 (if n = 0 then (numR T q).1 else a) (acc ++ [(numR T q).1]) := by
  subst hq
  exact (if_neg h).trans (if_neg hb)
/-- what a row is: its fault, or the place behind it and the row -/
noncomputable def rowS (T : List Int) (p : Int) (l : List Row) : Int ⊕ (Int × Row) := @ite _ (mayB l (lookT T p)) (Classical.propDecidable _) (match rdN T l (lookT T p) (nms (lookT T p)).toNat 0 (p + 1) 0 [] with
    | .inl f => .inl f
    | .inr (p', acc) => .inr (p', cRow (lookT T p) (acc.getD 0 0) (acc.getD 1 0) (acc.getD 2 0))) (.inl p)
theorem rowS_n {T : List Int} {p : Int} {l : List Row} (h : ¬ mayB l (lookT T p)) : rowS T p l = .inl p := if_neg h
theorem rowS_f {T : List Int} {p f : Int} {l : List Row} (h : mayB l (lookT T p)) (hr : rdN T l (lookT T p) (nms (lookT T p)).toNat 0 (p + 1) 0 [] = .inl f) : rowS T p l = .inl f := by
  unfold rowS
  rw [if_pos h, hr]
theorem rowS_k {T : List Int} {p p' : Int} {acc : List Int} {l : List Row} (h : mayB l (lookT T p)) (hr : rdN T l (lookT T p) (nms (lookT T p)).toNat 0 (p + 1) 0 [] = .inr (p', acc)) : rowS T p l = .inr (p', cRow (lookT T p) (acc.getD 0 0) (acc.getD 1 0) (acc.getD 2 0)) := by
  unfold rowS
  rw [if_pos h, hr]
theorem nms_v (c : Int) : nms c = 1 ∨ nms c = 2 ∨ nms c = 3 := by
  unfold nms
  split
  · omega
  · split <;> omega
/-- the numbers that were read are as said -/
theorem rdN_good {T : List Int} {l : List Row} {c : Int} : ∀ (k : Nat) (n p a : Int) (acc : List Int), 0 ≤ p → p ≤ T.length → 0 ≤ n → acc.length = n.toNat → (n ≠ 0 → a = acc.getD 0 0) → (∀ i : Nat, i < acc.length → i10 (acc.getD i 0) ∧ okN l c i (acc.getD i 0) (if i = 0 then 0 else acc.getD 0 0)) → (n = 0 → a = 0) → ∀ p' acc', rdN T l c k n p a acc = .inr (p', acc') → acc'.length = n.toNat + k ∧ p ≤ p' ∧ p' ≤ T.length ∧ (0 < k → p < p') ∧ (∀ i : Nat, i < acc'.length → i10 (acc'.getD i 0) ∧ okN l c i (acc'.getD i 0) (if i = 0 then 0 else acc'.getD 0 0))
  | 0, n, p, a, acc, h0, h1, h2, h3, h4, h5, h6, p', acc', hr => by
    unfold rdN at hr
    cases hr
    exact ⟨by omega, Int.le_refl _, h1, fun q => absurd q (by omega), h5⟩
  | k + 1, n, p, a, acc, h0, h1, h2, h3, h4, h5, h6, p', acc', hr => by
    by_cases hs : 0 < n ∧ lookT T p ≠ 32
    · rw [rdN_sep hs] at hr; cases hr
    · generalize hq : (if 0 < n then p + 1 else p) = q
      by_cases hb : (numR T q).2 = q ∨ ¬ okN l c n (numR T q).1 a
      · rw [rdN_bad hs hq.symm hb] at hr; cases hr
      · rw [rdN_ok hs hq.symm hb] at hr
        have hq2 : p ≤ q ∧ q ≤ T.length := by
          by_cases hn : 0 < n
          · rw [if_pos hn] at hq
            have h32 : lookT T p = 32 := Classical.not_not.mp (fun z => hs ⟨hn, z⟩)
            have : p < T.length := by
              rcases Int.lt_or_le p T.length with z | z
              · exact z
              · rw [lookT_out z] at h32; omega
            omega
          · rw [if_neg hn] at hq; omega
        have hnr := numR_r T (p := q) (by omega) hq2.2
        have hb1 : (numR T q).2 ≠ q := fun z => hb (Or.inl z)
        have hb2 : okN l c n (numR T q).1 a := Classical.not_not.mp (fun z => hb (Or.inr z))
        have hget : ∀ i : Nat, (acc ++ [(numR T q).1]).getD i 0 = if i < acc.length then acc.getD i 0 else if i = acc.length then (numR T q).1 else 0 := by
          intro i
          simp only [List.getD_eq_getElem?_getD]
          by_cases hi : i < acc.length
          · rw [if_pos hi, List.getElem?_append_left hi]
          · rw [if_neg hi, List.getElem?_append_right (by omega)]
            by_cases hi2 : i = acc.length
            · rw [if_pos hi2, hi2]; simp
            · rw [if_neg hi2, List.getElem?_eq_none (by simp; omega)]; rfl
        have ih := rdN_good k (n + 1) (numR T q).2 (if n = 0 then (numR T q).1 else a) (acc ++ [(numR T q).1]) (by omega) hnr.2.2 (by omega) (by simp; omega) (fun _ => ?_) (fun i hi => ?_) (fun z => by omega) p' acc' hr
        · refine ⟨by omega, by omega, ih.2.2.1, fun _ => by omega, ih.2.2.2.2⟩
        · rw [hget]
          by_cases hn : n = 0
          · rw [if_pos hn, if_neg (by omega), if_pos (by omega)]
          · rw [if_neg hn, if_pos (by omega)]
            exact h4 hn
        · simp only [hget]
          simp only [List.length_append, List.length_singleton] at hi
          by_cases hi2 : i < acc.length
          · rw [if_pos hi2, if_pos (show 0 < acc.length by omega)]
            exact h5 i hi2
          · have e : i = acc.length := by omega
            rw [if_neg hi2, if_pos e]
            refine ⟨hnr.1, ?_⟩
            have en : (i : Int) = n := by omega
            rw [en]
            by_cases hn : n = 0
            · rw [if_pos (by omega)]
              rw [h6 hn] at hb2
              exact hb2
            · rw [if_neg (by omega), if_pos (by omega)]
              rw [h4 hn] at hb2
              exact hb2
theorem rowS_good {T : List Int} {p p' : Int} {l : List Row} {R : Row} (h0 : 0 ≤ p) (hr : rowS T p l = .inr (p', R)) : okRow l R ∧ p + 1 < p' ∧ p' ≤ T.length := by
  by_cases hm : mayB l (lookT T p)
  · have hp : p < T.length := by
      rcases Int.lt_or_le p T.length with z | z
      · exact z
      · rw [lookT_out z] at hm
        have := mayB_l hm
        unfold isRowL at this
        omega
    cases hd : rdN T l (lookT T p) (nms (lookT T p)).toNat 0 (p + 1) 0 [] with
    | inl f => rw [rowS_f hm hd] at hr; cases hr
    | inr q =>
      obtain ⟨p2, acc⟩ := q
      rw [rowS_k hm hd] at hr
      cases hr
      have hg := rdN_good _ 0 (p + 1) 0 [] (by omega) (by omega) (by omega) rfl (fun z => absurd rfl z) (fun i hi => absurd hi (by simp)) (fun _ => rfl) _ _ hd
      obtain ⟨g1, g2, g3, g4, g5⟩ := hg
      have hz : i10 0 := by omega
      generalize lookT T p = c at *
      refine ⟨?_, by have := nms_v c; have := g4 (by omega); omega, g3⟩
      rcases nms_v c with e | e | e
      · have := g5 0 (by omega)
        refine ⟨hm, this.1, ?_, ?_, ?_, ?_, ?_⟩
        · simp only [cRow, e, if_true]; exact hz
        · simp only [cRow, e, show ¬ ((1 : Int) = 3) by decide, if_false]; exact hz
        · simpa [cRow] using this.2
        · simp [cRow, e]
        · simp [cRow, e]
      · have t0 := g5 0 (by omega)
        have t1 := g5 1 (by omega)
        refine ⟨hm, t0.1, ?_, ?_, ?_, ?_, ?_⟩
        · simp only [cRow, e, show ¬ ((2 : Int) = 1) by decide, if_false]; exact t1.1
        · simp only [cRow, e, show ¬ ((2 : Int) = 3) by decide, if_false]; exact hz
        · simpa [cRow] using t0.2
        · simp only [cRow, e, show ¬ ((2 : Int) = 1) by decide, if_false]; simpa using t1.2
        · simp [cRow, e]
      · have t0 := g5 0 (by omega)
        have t1 := g5 1 (by omega)
        have t2 := g5 2 (by omega)
        refine ⟨hm, t0.1, ?_, ?_, ?_, ?_, ?_⟩
        · simp only [cRow, e, show ¬ ((3 : Int) = 1) by decide, if_false]; exact t1.1
        · simp only [cRow, e, if_true]; exact t2.1
        · simpa [cRow] using t0.2
        · simp only [cRow, e, show ¬ ((3 : Int) = 1) by decide, if_false]; simpa using t1.2
        · simp only [cRow, e, if_true]; simpa using t2.2
  · rw [rowS_n hm] at hr; cases hr

set_option maxHeartbeats 4000000 in
set_option maxRecDepth 100000 in
theorem c_r_row74F {r c a b : Int} (hR : isRT ty r) (h3 : h r 3 ≠ -1) (hq : Q none ty sz h) : zX D mX5_readRow (d + 5) 0 0 74 [(3, iV a), (2, iV b), (0, rV r), (1, iV c)] [] ty sz h Q := by
  obtain ⟨r9, r0, r1, r2⟩ := hR
  refine x_aload_n (pc := 74) dX5_readRow_74 rfl ?_
  refine y_getI 3 (pc := 75) dX5_readRow_75 f_RX5_42 (by assumption) rfl (fun b_75 => ?_)
  refine x_iconst (pc := 78) dX5_readRow_78 ?_
  refine x_icmp_ne (pc := 79) 87 dX5_readRow_79 rfl (fun c_79 => ?_) (fun c_79 => ?_)
  · (try simp (disch := omega) only [zb_e0, zb_n0, w32_id, w64_id, ne_eq, Classical.not_not] at c_79)
    refine x_ret (pc := 87) ⟨dX5_readRow_87, rfl⟩ ?_
    exact hq
  · (try simp (disch := omega) only [zb_e0, zb_n0, w32_id, w64_id, ne_eq, Classical.not_not] at c_79)
    exact absurd c_79 h3

set_option maxHeartbeats 4000000 in
set_option maxRecDepth 100000 in
theorem c_r_row39F {r c a b : Int} (hR : isRT ty r) (hab : (0 ≤ a ∧ a ≤ 3) ∧ 0 ≤ b ∧ b ≤ 3) (h3 : h r 3 ≠ -1) (hq : Q none ty sz h) : zX D mX5_readRow (d + 5) 0 0 39 [(3, iV a), (2, iV b), (0, rV r), (1, iV c)] [] ty sz h Q := by
  have hR0 := hR
  obtain ⟨r9, r0, r1, r2⟩ := hR
  refine x_iload_n (pc := 39) dX5_readRow_39 rfl ?_
  refine x_iload_n (pc := 40) dX5_readRow_40 rfl ?_
  refine x_icmp_ge (pc := 41) 74 dX5_readRow_41 rfl (fun c_41 => ?_) (fun c_41 => ?_)
  · (try simp (disch := omega) only [zb_e0, zb_n0, w32_id, w64_id, ne_eq, Classical.not_not] at c_41)
    exact c_r_row74F hR0 h3 hq
  · (try simp (disch := omega) only [zb_e0, zb_n0, w32_id, w64_id, ne_eq, Classical.not_not] at c_41)
    refine x_aload_n (pc := 44) dX5_readRow_44 rfl ?_
    refine y_getI 3 (pc := 45) dX5_readRow_45 f_RX5_42 (by assumption) rfl (fun b_45 => ?_)
    refine x_iconst (pc := 48) dX5_readRow_48 ?_
    refine x_icmp_ne (pc := 49) 74 dX5_readRow_49 rfl (fun c_49 => ?_) (fun c_49 => ?_)
    · (try simp (disch := omega) only [zb_e0, zb_n0, w32_id, w64_id, ne_eq, Classical.not_not] at c_49)
      exact c_r_row74F hR0 h3 hq
    · (try simp (disch := omega) only [zb_e0, zb_n0, w32_id, w64_id, ne_eq, Classical.not_not] at c_49)
      exact absurd c_49 h3

theorem cRow_c {c n0 n1 n2 a0 a1 a2 : Int} (h0 : n0 = a0) (h1 : nms c ≠ 1 → n1 = a1) (h2 : nms c = 3 → n2 = a2) : cRow c n0 n1 n2 = cRow c a0 a1 a2 := by
  unfold cRow
  rw [h0]
  by_cases e1 : nms c = 1
  · rw [if_pos e1, if_pos e1, if_neg (by omega), if_neg (by omega)]
  · rw [if_neg e1, if_neg e1, h1 e1]
    by_cases e3 : nms c = 3
    · rw [if_pos e3, if_pos e3, h2 e3]
    · rw [if_neg e3, if_neg e3]

set_option maxHeartbeats 4000000 in
set_option maxRecDepth 100000 in
theorem c_r_row39 {r e c p0 : Int} {l : List Row} {T : List Int} (hR : isRT ty r) (hE : isET ty e) (hd : e + 61 < r ∨ r + 2 < e) (hT : TxOK T) (hm : mayB l c) (hp0 : 0 ≤ p0) (hc0 : c = lookT T p0) (hqF : ∀ f, rowS T p0 l = .inl f → ∀ h', Fr2 r e h h' → h' r 3 = f → 0 ≤ f → h' r 1 = h r 1 → h' (r + 1) = h (r + 1) → Q none ty sz h') (hqK : ∀ p' R, rowS T p0 l = .inr (p', R) → ∀ h', Fr2 r e h h' → RdK h' r e (l ++ [R]) → h' r 2 = p' → h' r 3 = -1 → PrIs h' r T → Q none ty sz h') : ∀ (k : Nat) (n p a : Int) (acc : List Int) (g : zH), 0 ≤ n → n + k = nms c → 0 ≤ p → p ≤ T.length → acc.length = n.toNat → (n ≠ 0 → a = acc.getD 0 0) → (n = 0 → a = 0) → (∀ i : Nat, i < acc.length → g (r + 2) i = acc.getD i 0 ∧ i10 (acc.getD i 0)) → (c = 69 → n ≠ 0 → acc.getD 0 0 ≤ 9) → rdN T l c k n p a acc = rdN T l c (nms c).toNat 0 (p0 + 1) 0 [] → Fr2 r e h g → RdK g r e l → PrIs g r T → g r 2 = p → g r 3 = -1 → g r 1 = h r 1 → g (r + 1) = h (r + 1) → zX D mX5_readRow (d + 5) 0 0 39 [(3, iV n), (2, iV (nms c)), (0, rV r), (1, iV c)] [] ty sz g Q := by
  intro k
  induction k with
  | zero =>
    intro n p a acc g hn0 hnk hp hpT hal hacc hacc0 hnum h69 hrd hF hk hP h2 h3 h1e htx
    have hR0 := hR
    obtain ⟨r9, r0, r1, r2⟩ := hR
    have hT1 := hT.1
    have hnv := nms_v c
    have hml := mayB_l hm
    have hml2 := hml
    unfold isRowL at hml2
    refine x_iload_n (pc := 39) dX5_readRow_39 rfl ?_
    refine x_iload_n (pc := 40) dX5_readRow_40 rfl ?_
    refine x_icmp_ge (pc := 41) 74 dX5_readRow_41 rfl (fun c_41 => ?_) (fun c_41 => ?_)
    · have hS : rowS T p0 l = .inr (p, cRow c (acc.getD 0 0) (acc.getD 1 0) (acc.getD 2 0)) := by
        rw [hc0] at hm hrd ⊢
        exact rowS_k hm hrd.symm
      have ho := (rowS_good hp0 hS).1
      have eR : cRow c (acc.getD 0 0) (acc.getD 1 0) (acc.getD 2 0) = cRow c (g (r + 2) 0) (g (r + 2) 1) (g (r + 2) 2) :=
        cRow_c (hnum 0 (by omega)).1.symm (fun z => (hnum 1 (by omega)).1.symm) (fun z => (hnum 2 (by omega)).1.symm)
      rw [eR] at hS ho
      refine x_aload_n (pc := 74) dX5_readRow_74 rfl ?_
      refine y_getI 3 (pc := 75) dX5_readRow_75 f_RX5_42 (by assumption) rfl (fun b_75 => ?_)
      rw [h3]
      refine x_iconst (pc := 78) dX5_readRow_78 ?_
      refine x_icmp_ne (pc := 79) 87 dX5_readRow_79 rfl (fun c_79 => absurd rfl c_79) (fun c_79 => ?_)
      refine x_aload_n (pc := 82) dX5_readRow_82 rfl ?_
      refine x_iload_n (pc := 83) dX5_readRow_83 rfl ?_
      refine x_callV1 (pc := 84) dX5_readRow_84 (k_RX5_73 _ rfl) tmv_X5_take (by assumption) rfl rfl rfl ?_
      have hi00 : g (r + 2) 0 = acc.getD 0 0 := (hnum 0 (by omega)).1
      have hi0 : i10 (g (r + 2) 0) := by rw [hi00]; exact (hnum 0 (by omega)).2
      refine x_room (d' := d + 3) (by omega) (Nat.le_refl _) (Nat.le_refl _) (c_r_take hR0 hE hd hk ⟨rfl, rfl, rfl⟩ hi0 ho (fun h' hF2 hk2 e2 e3 e4 e5 => ?_))
      dsimp only [Option.toList, List.cons_append, List.nil_append]
      refine x_ret (pc := 87) ⟨dX5_readRow_87, rfl⟩ ?_
      exact hqK _ _ hS h' (hF.t hF2) hk2 (by rw [e2]; exact h2) (by rw [e3]; exact h3) ⟨by rw [e4]; exact hP.1, fun i q hi => by rw [e5]; exact hP.2 i q hi⟩
    · simp (disch := omega) only [w32_id] at c_41
      omega
  | succ k ih =>
    intro n p a acc g hn0 hnk hp hpT hal hacc hacc0 hnum h69 hrd hF hk hP h2 h3 h1e htx
    have hR0 := hR
    obtain ⟨r9, r0, r1, r2⟩ := hR
    have hT1 := hT.1
    have hnv := nms_v c
    have hml := mayB_l hm
    have hml2 := hml
    unfold isRowL at hml2
    -- a number that is read from q on, in the heap g2
    have NUM : ∀ (q : Int) (g2 : zH), ¬ (0 < n ∧ lookT T p ≠ 32) → q = (if 0 < n then p + 1 else p) → 0 ≤ q → q ≤ T.length → Fr2 r e h g2 → RdK g2 r e l → PrIs g2 r T → g2 r 2 = q → g2 r 3 = -1 → g2 (r + 2) = g (r + 2) → g2 r 1 = h r 1 → g2 (r + 1) = h (r + 1) → zX D mX5_readRow (d + 5) 0 0 62 [(3, iV n), (2, iV (nms c)), (0, rV r), (1, iV c)] [] ty sz g2 Q := by
      intro q g2 hs hq hq0 hqT hF2 hk2 hP2 e2 e3 en e1 et
      have hnr := numR_r T hq0 hqT
      refine x_aload_n (pc := 62) dX5_readRow_62 rfl ?_
      refine x_iload_n (pc := 63) dX5_readRow_63 rfl ?_
      refine x_iload_n (pc := 64) dX5_readRow_64 rfl ?_
      refine x_callV2 (pc := 65) dX5_readRow_65 (k_RX5_69 _ rfl) tmv_X5_readNumber (by assumption) rfl rfl rfl ?_
      refine c_r_num (a0 := a) hR0 hE hd hk2 hP2 hT ⟨e2, hq0, hqT⟩ e3 hml (by
          by_cases h75 : c = 75
          · exact Or.inl h75
          · refine Or.inr (fun z => ?_)
            subst z
            unfold mayB at hm
            simp at hm
            exact h75 hm) (by omega) (by
          by_cases hnz : n = 0
          · exact Or.inl hnz
          · have := hnum 0 (by omega)
            have ha := hacc hnz
            refine Or.inr ⟨?_, ?_, fun z => ?_⟩
            · rw [en, ha]; exact this.1
            · rw [ha]; exact this.2
            · rw [ha]; exact h69 z hnz) (fun hb => ?_) (fun hb1 hb2 => ?_)
      · dsimp only [Option.toList, List.cons_append, List.nil_append]
        refine x_iinc (pc := 68) dX5_readRow_68 rfl (by decide) ?_
        refine x_goto (pc := 71) 39 dX5_readRow_71 rfl ?_
        have hS : rowS T p0 l = .inl q := by
          rw [rdN_bad hs hq hb] at hrd
          rw [hc0] at hm hrd
          exact rowS_f hm hrd.symm
        refine x_loc [(3, iV (n + 1)), (2, iV (nms c)), (0, rV r), (1, iV c)] ⟨rfl, rfl, rfl, rfl, trivial⟩ (c_r_row39F hR0 (by omega) (by simp [zup_app]; omega) ?_)
        refine hqF q hS _ (hF2.t (Fr2.l (((Fr.rf r r g2).up (by omega) (by omega)).up (by omega) (by omega)) (by omega) (by omega))) (by simp [zup_app]) hq0 (by simp [zup_app, e1]) ?_
        rw [zup_ne (by omega), zup_ne (by omega)]
        exact et
      · dsimp only [Option.toList, List.cons_append, List.nil_append]
        refine x_iinc (pc := 68) dX5_readRow_68 rfl (by decide) ?_
        refine x_goto (pc := 71) 39 dX5_readRow_71 rfl ?_
        have hbn : ¬ ((numR T q).2 = q ∨ ¬ okN l c n (numR T q).1 a) := by
          intro z
          rcases z with z | z
          · exact hb1 z
          · exact z hb2
        rw [rdN_ok hs hq hbn] at hrd
        have hget : ∀ i : Nat, (acc ++ [(numR T q).1]).getD i 0 = if i < acc.length then acc.getD i 0 else if i = acc.length then (numR T q).1 else 0 := by
          intro i
          simp only [List.getD_eq_getElem?_getD]
          by_cases hi : i < acc.length
          · rw [if_pos hi, List.getElem?_append_left hi]
          · rw [if_neg hi, List.getElem?_append_right (by omega)]
            by_cases hi2 : i = acc.length
            · rw [if_pos hi2, hi2]; simp
            · rw [if_neg hi2, List.getElem?_eq_none (by simp; omega)]; rfl
        refine x_loc [(3, iV (n + 1)), (2, iV (nms c)), (0, rV r), (1, iV c)] ⟨rfl, rfl, rfl, rfl, trivial⟩ (ih (n + 1) (numR T q).2 (if n = 0 then (numR T q).1 else a) (acc ++ [(numR T q).1]) _ (by omega) (by omega) (by omega) (by omega) (by simp; omega) (fun _ => ?_) (fun z => by omega) (fun i hi => ?_) (fun z _ => ?_) hrd ?_ ?_ ?_ ?_ ?_ ?_ ?_)
        · rw [hget]
          by_cases hn : n = 0
          · rw [if_pos hn, if_neg (by omega), if_pos (by omega)]
          · rw [if_neg hn, if_pos (by omega)]
            exact hacc hn
        · simp only [List.length_append, List.length_singleton] at hi
          rw [hget]
          by_cases hi2 : i < acc.length
          · rw [if_pos hi2]
            have := hnum i hi2
            have ne : ¬ (i : Int) = n := by omega
            have ne2 : ¬ r + 2 = r := by omega
            refine ⟨?_, this.2⟩
            simp only [zup_app, ne, ne2, and_false, false_and, if_false]
            rw [en]
            exact this.1
          · have ei : i = acc.length := by omega
            rw [if_neg hi2, if_pos ei]
            have e9 : (i : Int) = n := by omega
            refine ⟨by simp [zup_app, e9], hnr.1⟩
        · rw [hget]
          by_cases hn : n = 0
          · rw [if_neg (by omega), if_pos (by omega)]
            subst z
            have := (okN_69 _ _ _ _).mp hb2
            omega
          · rw [if_pos (by omega)]
            exact h69 z hn
        · exact hF2.t (Fr2.l (lo := r) (hi := r + 2) (((Fr.rf _ _ _).up (by omega) (by omega)).up (by omega) (by omega)) (by omega) (by omega))
        · exact RdK_fr hk2 (by rw [zup_ne (by omega)]; simp [zup_app]) (by rw [zup_ne (by omega)]; simp [zup_app]) (fun z z1 z2 => by rw [zup_ne (by omega), zup_ne (by omega)])
        · have := PrIs_up (k := 2) (v := (numR T q).2) hP2 (by decide)
          exact ⟨by rw [zup_ne (by omega)]; exact this.1, fun i y hi => by rw [zup_ne (by omega)]; exact this.2 i y hi⟩
        · rw [zup_ne (by omega)]; simp [zup_app]
        · rw [zup_ne (by omega)]; simp [zup_app, e3]
        · rw [zup_ne (by omega)]; simp [zup_app, e1]
        · rw [zup_ne (by omega), zup_ne (by omega)]; exact et
    refine x_iload_n (pc := 39) dX5_readRow_39 rfl ?_
    refine x_iload_n (pc := 40) dX5_readRow_40 rfl ?_
    refine x_icmp_ge (pc := 41) 74 dX5_readRow_41 rfl (fun c_41 => ?_) (fun c_41 => ?_)
    · (try simp (disch := omega) only [zb_e0, zb_n0, w32_id, w64_id, ne_eq, Classical.not_not] at c_41)
      omega
    · (try simp (disch := omega) only [zb_e0, zb_n0, w32_id, w64_id, ne_eq, Classical.not_not] at c_41)
      refine x_aload_n (pc := 44) dX5_readRow_44 rfl ?_
      refine y_getI 3 (pc := 45) dX5_readRow_45 f_RX5_42 (by assumption) rfl (fun b_45 => ?_)
      refine x_iconst (pc := 48) dX5_readRow_48 ?_
      refine x_icmp_ne (pc := 49) 74 dX5_readRow_49 rfl (fun c_49 => ?_) (fun c_49 => ?_)
      · (try simp (disch := omega) only [zb_e0, zb_n0, w32_id, w64_id, ne_eq, Classical.not_not] at c_49)
        exact absurd h3 c_49
      · (try simp (disch := omega) only [zb_e0, zb_n0, w32_id, w64_id, ne_eq, Classical.not_not] at c_49)
        refine x_iload_n (pc := 52) dX5_readRow_52 rfl ?_
        refine x_if_le (pc := 53) 62 dX5_readRow_53 rfl (fun c_53 => ?_) (fun c_53 => ?_)
        · (try simp (disch := omega) only [zb_e0, zb_n0, w32_id, w64_id, ne_eq, Classical.not_not] at c_53)
          exact NUM p g (fun y => by omega) (by rw [if_neg (by omega)]) hp hpT hF hk hP h2 h3 rfl h1e htx
        · (try simp (disch := omega) only [zb_e0, zb_n0, w32_id, w64_id, ne_eq, Classical.not_not] at c_53)
          refine x_aload_n (pc := 56) dX5_readRow_56 rfl ?_
          refine x_bipush (pc := 57) dX5_readRow_57 (by decide) ?_
          refine x_callV1 (pc := 59) dX5_readRow_59 (k_RX5_48 _ rfl) tmv_X5_expect (by assumption) rfl rfl rfl ?_
          refine c_r_expect hR0 hP hT (by omega) (by omega) (fun z => absurd h3 z) (fun _ z => ?_) (fun _ z => ?_)
          · dsimp only [Option.toList, List.cons_append, List.nil_append]
            have hpl : p < T.length := by
              rcases Int.lt_or_le p T.length with y | y
              · exact y
              · rw [h2, lookT_out y] at z; omega
            rw [h2] at z
            refine NUM (p + 1) _ (fun y => y.2 z) (by rw [if_pos (by omega)]) (by omega) (by omega) (hF.t (Fr2.l ((Fr.rf r r g).up (by omega) (by omega)) (by omega) (by omega))) (RdK_fr hk (by simp [zup_app]) (by simp [zup_app]) (fun y y1 y2 => zup_ne (by omega))) (PrIs_up hP (by decide)) (by simp [zup_app, h2]) (by simp [zup_app, h3]) (zup_ne (by omega)) (by simp [zup_app, h1e]) (by rw [zup_ne (by omega)]; exact htx)
          · dsimp only [Option.toList, List.cons_append, List.nil_append]
            rw [h2] at z ⊢
            have hS : rowS T p0 l = .inl p := by
              rw [rdN_sep ⟨by omega, z⟩] at hrd
              rw [hc0] at hm hrd
              exact rowS_f hm hrd.symm
            refine x_aload_n (pc := 62) dX5_readRow_62 rfl ?_
            refine x_iload_n (pc := 63) dX5_readRow_63 rfl ?_
            refine x_iload_n (pc := 64) dX5_readRow_64 rfl ?_
            refine x_callV2 (pc := 65) dX5_readRow_65 (k_RX5_69 _ rfl) tmv_X5_readNumber (by assumption) rfl rfl rfl ?_
            refine c_r_numF hR0 (by simp [zup_app]; omega) ?_
            dsimp only [Option.toList, List.cons_append, List.nil_append]
            refine x_iinc (pc := 68) dX5_readRow_68 rfl (by decide) ?_
            refine x_goto (pc := 71) 39 dX5_readRow_71 rfl ?_
            refine x_loc [(3, iV (n + 1)), (2, iV (nms c)), (0, rV r), (1, iV c)] ⟨rfl, rfl, rfl, rfl, trivial⟩ (c_r_row39F hR0 (by omega) (by simp [zup_app]; omega) ?_)
            exact hqF p hS _ (hF.t (Fr2.l ((Fr.rf r r g).up (by omega) (by omega)) (by omega) (by omega))) (by simp [zup_app]) hp (by simp [zup_app, h1e]) (by rw [zup_ne (by omega)]; exact htx)

end C14
