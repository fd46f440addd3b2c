section C22
variable {D : va_G} {d : Nat} {ty : zT} {sz : Nat} {h : zH} {Q : zQ}
/-- the reference's object, with all that never moves -/
def isMT (ty : zT) (m : Int) : Prop := 0 ≤ m ∧ ty m = some (7, 31, fun i => if i = 1 then some (m + 1) else if i = 5 then some (m + 2) else if i = 6 then some (m + 3) else if i = 7 then some (m + 4) else if i = 8 then some (m + 5) else if i = 9 then some (m + 6) else if i = 13 then some (m + 7) else if i = 14 then some (m + 8) else if i = 15 then some (m + 9) else if i = 16 then some (m + 10) else if i = 17 then some (m + 11) else if i = 18 then some (m + 12) else if i = 20 then some (m + 13) else if i = 21 then some (m + 14) else if i = 22 then some (m + 15) else if i = 24 then some (m + 16) else if i = 26 then some (m + 17) else if i = 27 then some (m + 18) else if i = 28 then some (m + 19) else if i = 29 then some (m + 20) else if i = 30 then some (m + 21) else none)
  ∧ ty (m + 1) = some (8, 1500, zn) ∧ ty (m + 2) = some (8, 3120, zn) ∧ ty (m + 3) = some (8, 3120, zn) ∧ ty (m + 4) = some (8, 3120, zn) ∧ ty (m + 5) = some (8, 3120, zn) ∧ ty (m + 6) = some (8, 6, zn) ∧ ty (m + 7) = some (8, 100, zn) ∧ ty (m + 8) = some (8, 100, zn) ∧ ty (m + 9) = some (8, 100, zn) ∧ ty (m + 10) = some (8, 100, zn) ∧ ty (m + 11) = some (8, 100, zn) ∧ ty (m + 12) = some (10, 1000, zn) ∧ ty (m + 13) = some (8, 16, zn) ∧ ty (m + 14) = some (9, 16, zn) ∧ ty (m + 15) = some (8, 16, zn) ∧ ty (m + 16) = some (8, 2000, zn) ∧ ty (m + 17) = some (8, 2000, zn) ∧ ty (m + 18) = some (8, 2000, zn) ∧ ty (m + 19) = some (8, 16, zn) ∧ ty (m + 20) = some (9, 16, zn) ∧ ty (m + 21) = some (8, 16, zn)
theorem isMT.mono {ty ty' : zT} {m : Int} (ht : ∀ q y, ty q = some y → ty' q = some y) (h : isMT ty m) : isMT ty' m := by
  obtain ⟨h0, h1, a1, a2, a3, a4, a5, a6, a7, a8, a9, a10, a11, a12, a13, a14, a15, a16, a17, a18, a19, a20, a21⟩ := h
  exact ⟨h0, ht _ _ h1, ht _ _ a1, ht _ _ a2, ht _ _ a3, ht _ _ a4, ht _ _ a5, ht _ _ a6, ht _ _ a7, ht _ _ a8, ht _ _ a9, ht _ _ a10, ht _ _ a11, ht _ _ a12, ht _ _ a13, ht _ _ a14, ht _ _ a15, ht _ _ a16, ht _ _ a17, ht _ _ a18, ht _ _ a19, ht _ _ a20, ht _ _ a21⟩
/-- the text that the reference reads -/
def MTx (h : zH) (m : Int) (T : List Int) : Prop := h m 2 = T.length ∧ ∀ (i : Nat) (c : Int), T[i]? = some c → h (m + 1) i = c
/-- rows from a place on -/
def MR (h : zH) (m b : Int) (l : List Row) : Prop := ∀ (i : Nat) (r : Row), l[i]? = some r → h (m + 2) (b + i) = r.1 ∧ h (m + 3) (b + i) = r.2.1 ∧ h (m + 4) (b + i) = r.2.2.1 ∧ h (m + 5) (b + i) = r.2.2.2
theorem MR.fr {h h' : zH} {m b : Int} {l : List Row} (hR : MR h m b l) (e : ∀ q, m + 2 ≤ q → q ≤ m + 5 → h' q = h q) : MR h' m b l := by
  unfold MR at *
  rw [e (m + 2) (by omega) (by omega), e (m + 3) (by omega) (by omega), e (m + 4) (by omega) (by omega), e (m + 5) (by omega) (by omega)]
  exact hR
theorem MTx.fr {h h' : zH} {m : Int} {T : List Int} (hR : MTx h m T) (e0 : h' m 2 = h m 2) (e : h' (m + 1) = h (m + 1)) : MTx h' m T := by
  unfold MTx at *
  rw [e0, e]
  exact hR
theorem lookM_in {T : List Int} {p : Int} {h : zH} {m : Int} (hP : MTx h m T) (h0 : 0 ≤ p) (h1 : p < T.length) : h (m + 1) p = lookT T p := by
  unfold lookT
  have hl : p.toNat < T.length := by omega
  have := hP.2 p.toNat T[p.toNat] (List.getElem?_eq_getElem hl)
  rw [List.getElem?_eq_getElem hl, Option.getD_some, ← this]
  congr 1
  omega

set_option maxHeartbeats 4000000 in
set_option maxRecDepth 100000 in
theorem c_m_look {m : Int} (hM : isMT ty m) {T : List Int} (hP : MTx h m T) (hT : TxOK T) (hp : 0 ≤ h m 3) (hq : Q (some (iV (lookT T (h m 3)))) ty sz h) : zXM D mX7_look d 0 0 [rV m] ty sz h Q := by
  have hM0 := hM
  obtain ⟨m9, m0, a1, a2, a3, a4, a5, a6, a7, a8, a9, a10, a11, a12, a13, a14, a15, a16, a17, a18, a19, a20, a21⟩ := hM
  have hl1 := hP.1
  have hT1 := hT.1
  refine x_aload_n (pc := 0) dX7_look_0 rfl ?_
  refine y_getI 3 (pc := 1) dX7_look_1 f_RX7_82 (by assumption) rfl (fun b_1 => ?_)
  refine x_aload_n (pc := 4) dX7_look_4 rfl ?_
  refine y_getI 2 (pc := 5) dX7_look_5 f_RX7_79 (by assumption) rfl (fun b_5 => ?_)
  rw [hl1] at b_5 ⊢
  refine x_icmp_ge (pc := 8) 23 dX7_look_8 rfl (fun c_8 => ?_) (fun c_8 => ?_)
  · (try simp (disch := omega) only [zb_e0, zb_n0, w32_id, w64_id, ne_eq, Classical.not_not] at c_8)
    --
    rw [lookT_out (by omega)] at hq
    refine x_iconst (pc := 23) dX7_look_23 ?_
    refine x_retv (pc := 24) ⟨dX7_look_24, Or.inl rfl⟩ ?_
    exact hq
  · (try simp (disch := omega) only [zb_e0, zb_n0, w32_id, w64_id, ne_eq, Classical.not_not] at c_8)
    refine x_aload_n (pc := 11) dX7_look_11 rfl ?_
    refine x_getF (pc := 12) dX7_look_12 f_RX7_7 (by assumption) (by rfl) ?_
    refine x_aload_n (pc := 15) dX7_look_15 rfl ?_
    refine y_getI 3 (pc := 16) dX7_look_16 f_RX7_82 (by assumption) rfl (fun b_16 => ?_)
    refine x_iald (pc := 19) dX7_look_19 (by assumption) (by omega) (by omega) (fun b_19 => ?_)
    rw [lookM_in hP hp (by omega)]
    refine x_goto (pc := 20) 24 dX7_look_20 rfl ?_
    refine x_retv (pc := 24) ⟨dX7_look_24, Or.inl rfl⟩ ?_
    exact hq


end C22
