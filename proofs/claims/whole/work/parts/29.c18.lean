section C18
variable {D : va_G} {d : Nat} {ty : zT} {sz : Nat} {h : zH} {Q : zQ}
theorem znew_old {q : Int} {k n : Nat} {y : Nat × Nat × zF} (hlt : ∀ a q, ty a = some q → 0 ≤ a ∧ a < sz) (hy : ty q = some y) : znew ty sz k n q = some y := by
  unfold znew
  rw [if_neg (by have := hlt _ _ hy; omega)]
  exact hy
def tyLe (ty ty' : zT) : Prop := ∀ q y, ty q = some y → ty' q = some y
theorem isKT.mono {ty ty' : zT} {a : Int} (ht : tyLe ty ty') (h : isKT ty a) : isKT ty' a := ⟨h.1, ht _ _ h.2.1, ht _ _ h.2.2.1, ht _ _ h.2.2.2.1, ht _ _ h.2.2.2.2.1, ht _ _ h.2.2.2.2.2.1, ht _ _ h.2.2.2.2.2.2⟩
theorem isET.mono {ty ty' : zT} {a : Int} (ht : tyLe ty ty') (h : isET ty a) : isET ty' a := ⟨h.1, ht _ _ h.2.1, ht _ _ h.2.2.1, fun k k0 k1 => (h.2.2.2 k k0 k1).mono ht⟩
theorem isBT.mono {ty ty' : zT} {a : Int} (ht : tyLe ty ty') (h : isBT ty a) : isBT ty' a := ⟨h.1, ht _ _ h.2.1, ht _ _ h.2.2.1, ht _ _ h.2.2.2.1, ht _ _ h.2.2.2.2⟩
theorem isPT.mono {ty ty' : zT} {a : Int} (ht : tyLe ty ty') (h : isPT ty a) : isPT ty' a := ⟨h.1, ht _ _ h.2.1, ht _ _ h.2.2⟩
theorem isRT.mono {ty ty' : zT} {a : Int} (ht : tyLe ty ty') (h : isRT ty a) : isRT ty' a := ⟨h.1, ht _ _ h.2.1, ht _ _ h.2.2.1, ht _ _ h.2.2.2⟩
theorem isXT.mono {ty ty' : zT} {x : Int} (ht : tyLe ty ty') (h : isXT ty x) : isXT ty' x := by
  obtain ⟨x9, x0, xR, xP, xB, xB2, x14, x15, xE⟩ := h
  exact ⟨x9, ht _ _ x0, xR.mono ht, xP.mono ht, xB.mono ht, xB2.mono ht, ht _ _ x14, ht _ _ x15, fun e e0 e1 => (xE e e0 e1).mono ht⟩
theorem S_item_out {S : CS} {a b c e f : Int} (hn : ¬ itArg a b c e f) : S_item S a b c e f = (S, -1000002) := if_neg hn
theorem S_item_room {S : CS} {a b c e f : Int} (hn : itArg a b c e f) (hl : (cI S).length = 100) : S_item S a b c e f = (S, -1000004) := by unfold S_item; rw [if_pos hn, if_pos hl]
theorem S_item_in {S : CS} {a b c e f : Int} (hn : itArg a b c e f) (hl : (cI S).length ≠ 100) : S_item S a b c e f = ((cT S, cE S, cI S ++ [(a, b, c, e, f, 0)], S.2.2.2), ((cI S).length : Int)) := by unfold S_item; rw [if_pos hn, if_neg hl]

set_option maxHeartbeats 4000000 in
set_option maxRecDepth 100000 in
theorem C_item {a b c e f : Int} {x lo : Int} {S : CS} (hA : zAbs ty h x lo S) (hlo : lo ≤ sz) (hi : i32 a ∧ i32 b ∧ i32 c ∧ i32 e ∧ i32 f) (hq : ∀ ty' sz' h', sz ≤ sz' → sz' ≤ sz + 1 → (∀ q y, ty q = some y → ty' q = some y) → FrX x lo h h' → zAbs ty' h' x lo (S_item S a b c e f).1 → Q (some (iV (S_item S a b c e f).2)) ty' sz' h') : zXM D mX6_item (d + 2) 1 6 [rV x, iV a, iV b, iV c, iV e, iV f] ty sz h Q := by
  have hA0 := hA
  obtain ⟨hX, hL, hT, hE, hI, hB, hP⟩ := hA
  have hX0 := hX
  obtain ⟨x9, x0, xR, xP, xB, xB2, x14, x15, xE⟩ := hX
  have hE1 := hE.1
  have hE2 := hE.2.1
  have hI1 := hI.1
  have hI2 := hI.2.1
  have hP1 := hP.1.1
  have hP2 := hP.2
  refine x_lt (fun hlt => ?_)
  refine x_iload_n (pc := 0) dX6_item_0 rfl ?_
  refine x_callS1 (pc := 1) dX6_item_1 (k_RX6_70 _ rfl) tms_X6_isName rfl rfl ?_
  refine c_isName (by omega) ?_
  dsimp only [Option.toList, List.cons_append, List.nil_append]
  refine x_if_eq (pc := 4) 37 dX6_item_4 rfl (fun c_4 => ?_) (fun c_4 => ?_)
  · (try simp (disch := omega) only [zb_e0, zb_n0, w32_id, w64_id, ne_eq, Classical.not_not] at c_4)
    rw [S_item_out (S := S) (a := a) (b := b) (c := c) (e := e) (f := f) (by unfold itArg; omega)] at hq
    refine x_ldc (pc := 37) dX6_item_37 (-1000002) tc_RX6_77 (by decide) ?_
    refine x_retv (pc := 39) ⟨dX6_item_39, Or.inl rfl⟩ ?_
    exact hq ty sz h (Nat.le_refl _) (by omega) (fun _ _ z => z) (FrX.rf _ _ _) hA0
  · (try simp (disch := omega) only [zb_e0, zb_n0, w32_id, w64_id, ne_eq, Classical.not_not] at c_4)
    refine x_iload_n (pc := 7) dX6_item_7 rfl ?_
    refine x_callS1 (pc := 8) dX6_item_8 (k_RX6_74 _ rfl) tms_X6_isMeasure rfl rfl ?_
    refine c_isMeasure (by omega) ?_
    dsimp only [Option.toList, List.cons_append, List.nil_append]
    refine x_if_eq (pc := 11) 37 dX6_item_11 rfl (fun c_11 => ?_) (fun c_11 => ?_)
    · (try simp (disch := omega) only [zb_e0, zb_n0, w32_id, w64_id, ne_eq, Classical.not_not] at c_11)
      rw [S_item_out (S := S) (a := a) (b := b) (c := c) (e := e) (f := f) (by unfold itArg; omega)] at hq
      refine x_ldc (pc := 37) dX6_item_37 (-1000002) tc_RX6_77 (by decide) ?_
      refine x_retv (pc := 39) ⟨dX6_item_39, Or.inl rfl⟩ ?_
      exact hq ty sz h (Nat.le_refl _) (by omega) (fun _ _ z => z) (FrX.rf _ _ _) hA0
    · (try simp (disch := omega) only [zb_e0, zb_n0, w32_id, w64_id, ne_eq, Classical.not_not] at c_11)
      refine x_iload_n (pc := 14) dX6_item_14 rfl ?_
      refine x_callS1 (pc := 15) dX6_item_15 (k_RX6_74 _ rfl) tms_X6_isMeasure rfl rfl ?_
      refine c_isMeasure (by omega) ?_
      dsimp only [Option.toList, List.cons_append, List.nil_append]
      refine x_if_eq (pc := 18) 37 dX6_item_18 rfl (fun c_18 => ?_) (fun c_18 => ?_)
      · (try simp (disch := omega) only [zb_e0, zb_n0, w32_id, w64_id, ne_eq, Classical.not_not] at c_18)
        rw [S_item_out (S := S) (a := a) (b := b) (c := c) (e := e) (f := f) (by unfold itArg; omega)] at hq
        refine x_ldc (pc := 37) dX6_item_37 (-1000002) tc_RX6_77 (by decide) ?_
        refine x_retv (pc := 39) ⟨dX6_item_39, Or.inl rfl⟩ ?_
        exact hq ty sz h (Nat.le_refl _) (by omega) (fun _ _ z => z) (FrX.rf _ _ _) hA0
      · (try simp (disch := omega) only [zb_e0, zb_n0, w32_id, w64_id, ne_eq, Classical.not_not] at c_18)
        refine x_iload (pc := 21) dX6_item_21 rfl ?_
        refine x_callS1 (pc := 23) dX6_item_23 (k_RX6_74 _ rfl) tms_X6_isMeasure rfl rfl ?_
        refine c_isMeasure (by omega) ?_
        dsimp only [Option.toList, List.cons_append, List.nil_append]
        refine x_if_eq (pc := 26) 37 dX6_item_26 rfl (fun c_26 => ?_) (fun c_26 => ?_)
        · (try simp (disch := omega) only [zb_e0, zb_n0, w32_id, w64_id, ne_eq, Classical.not_not] at c_26)
          rw [S_item_out (S := S) (a := a) (b := b) (c := c) (e := e) (f := f) (by unfold itArg; omega)] at hq
          refine x_ldc (pc := 37) dX6_item_37 (-1000002) tc_RX6_77 (by decide) ?_
          refine x_retv (pc := 39) ⟨dX6_item_39, Or.inl rfl⟩ ?_
          exact hq ty sz h (Nat.le_refl _) (by omega) (fun _ _ z => z) (FrX.rf _ _ _) hA0
        · (try simp (disch := omega) only [zb_e0, zb_n0, w32_id, w64_id, ne_eq, Classical.not_not] at c_26)
          refine x_iload (pc := 29) dX6_item_29 rfl ?_
          refine x_callS1 (pc := 31) dX6_item_31 (k_RX6_74 _ rfl) tms_X6_isMeasure rfl rfl ?_
          refine c_isMeasure (by omega) ?_
          dsimp only [Option.toList, List.cons_append, List.nil_append]
          refine x_if_ne (pc := 34) 40 dX6_item_34 rfl (fun c_34 => ?_) (fun c_34 => ?_)
          · (try simp (disch := omega) only [zb_e0, zb_n0, w32_id, w64_id, ne_eq, Classical.not_not] at c_34)
            refine x_aload_n (pc := 40) dX6_item_40 rfl ?_
            refine y_getI 5 (pc := 41) dX6_item_41 f_RX6_78 (by assumption) rfl (fun b_41 => ?_)
            rw [hI1]
            refine x_if_lt (pc := 44) 59 dX6_item_44 rfl (fun c_44 => ?_) (fun c_44 => ?_)
            · (try simp (disch := omega) only [zb_e0, zb_n0, w32_id, w64_id, ne_eq, Classical.not_not] at c_44)
              refine x_ldc (pc := 59) dX6_item_59 (-1000004) tc_RX6_62 (by decide) ?_
              refine x_retv (pc := 61) ⟨dX6_item_61, Or.inl rfl⟩ ?_
              rw [S_item_room (S := S) (a := a) (b := b) (c := c) (e := e) (f := f) (by unfold itArg; omega) (by omega)] at hq
              exact hq ty sz h (Nat.le_refl _) (by omega) (fun _ _ z => z) (FrX.rf _ _ _) hA0
            · (try simp (disch := omega) only [zb_e0, zb_n0, w32_id, w64_id, ne_eq, Classical.not_not] at c_44)
              refine x_aload_n (pc := 47) dX6_item_47 rfl ?_
              refine y_getI 5 (pc := 48) dX6_item_48 f_RX6_78 (by assumption) rfl (fun b_48 => ?_)
              rw [hI1]
              refine x_aload_n (pc := 51) dX6_item_51 rfl ?_
              refine x_getF (pc := 52) dX6_item_52 f_RX6_35 (by assumption) (by rfl) ?_
              refine x_alen (pc := 55) dX6_item_55 (by assumption) (by decide) ?_
              refine x_icmp_lt (pc := 56) 62 dX6_item_56 rfl (fun c_56 => ?_) (fun c_56 => ?_)
              · (try simp (disch := omega) only [zb_e0, zb_n0, w32_id, w64_id, ne_eq, Classical.not_not] at c_56)
                refine x_aload_n (pc := 62) dX6_item_62 rfl ?_
                refine x_getF (pc := 63) dX6_item_63 f_RX6_35 (by assumption) (by rfl) ?_
                refine x_aload_n (pc := 66) dX6_item_66 rfl ?_
                refine y_getI 5 (pc := 67) dX6_item_67 f_RX6_78 (by assumption) rfl (fun b_67 => ?_)
                rw [hI1]
                refine x_new (pc := 70) (k := 0) (n := 0) dX6_item_70 (ci := 2) rfl (by decide) tcl_RX6_33 tin_RX2 tini_RX2 iX2 ?_
                refine x_dup (pc := 73) dX6_item_73 rfl ?_
                refine x_iload_n (pc := 74) dX6_item_74 rfl ?_
                refine x_iload_n (pc := 75) dX6_item_75 rfl ?_
                refine x_iload_n (pc := 76) dX6_item_76 rfl ?_
                refine x_iload (pc := 77) dX6_item_77 rfl ?_
                refine x_iload (pc := 79) dX6_item_79 rfl ?_
                refine x_callI5 (pc := 81) 0 0 dX6_item_81 (k_RX6_81 _ rfl) tmi_X2_init (by omega) rfl rfl ?_
                refine c_item_init (it := sz) ⟨by omega, by simp [znew]⟩ hi ?_
                have hO : ∀ {q : Int} {y : Nat × Nat × zF}, ty q = some y → znew ty sz 2 6 q = some y := fun hy => znew_old hlt hy
                generalize hg : zup (zup (zup (zup (zup (zrow h sz (zdef 2)) sz 0 a) sz 1 b) sz 2 c) sz 3 e) sz 4 f = g
                have hgo : ∀ q : Int, q ≠ sz → g q = h q := fun q hq1 => by
                  rw [← hg, zup_ne hq1, zup_ne hq1, zup_ne hq1, zup_ne hq1, zup_ne hq1]
                  funext k
                  simp [zrow, hq1]
                have hgi : ItIs g sz (a, b, c, e, f, 0) := by
                  rw [← hg]
                  refine ⟨by simp [zup_app], by simp [zup_app], by simp [zup_app], by simp [zup_app], by simp [zup_app], ?_⟩
                  simp only [zup_app, zrow, zdef]
                  rfl
                have hgx : g x = h x := hgo x (by have := hlt _ _ x0; omega)
                have hg14 : g (x + 14) = h (x + 14) := hgo _ (by have := hlt _ _ x14; omega)
                have x14' := hO x14
                have x0' := hO x0
                have hsz : znew ty sz 2 6 sz = some (2, 6, zn) := by simp [znew]
                dsimp only [Option.toList, List.cons_append, List.nil_append]
                refine x_aast (pc := 84) dX6_item_84 x14' (by decide) hsz (by omega) (by omega) (by rfl) ?_
                refine x_aload_n (pc := 85) dX6_item_85 rfl ?_
                refine x_dup (pc := 86) dX6_item_86 rfl ?_
                refine y_getI 5 (pc := 87) dX6_item_87 f_RX6_78 (by assumption) rfl (fun b_87 => ?_)
                rw [show zup g (x + 14) ((cI S).length : Int) sz x 5 = (cI S).length by rw [zup_ne (by omega), hgx, hI1]]
                refine x_iconst (pc := 90) dX6_item_90 ?_
                refine x_iadd (pc := 91) dX6_item_91 ?_
                refine y_putI 5 (pc := 92) dX6_item_92 f_RX6_78 (by assumption) rfl (by rfl) (by omega) rfl ?_
                refine x_aload_n (pc := 95) dX6_item_95 rfl ?_
                refine y_getI 5 (pc := 96) dX6_item_96 f_RX6_78 (by assumption) rfl (fun b_96 => ?_)
                rw [show zup (zup g (x + 14) ((cI S).length : Int) sz) x 5 ((cI S).length + 1) x 5 = (cI S).length + 1 by simp [zup_app]]
                refine x_iconst (pc := 99) dX6_item_99 ?_
                refine x_isub (pc := 100) dX6_item_100 ?_
                refine x_retv (pc := 101) ⟨dX6_item_101, Or.inl rfl⟩ ?_
                rw [S_item_in (S := S) (a := a) (b := b) (c := c) (e := e) (f := f) (by unfold itArg; omega) (by omega)] at hq
                rw [show ((cI S).length : Int) + 1 - 1 = (cI S).length by omega]
                have hh : ∀ q : Int, q ≠ sz → q ≠ x → q ≠ x + 14 → zup (zup g (x + 14) ((cI S).length : Int) sz) x 5 ((cI S).length + 1) q = h q := fun q q1 q2 q3 => by rw [zup_ne q2, zup_ne q3, hgo q q1]
                have hxs := (hlt _ _ x14).2
                have hll : (cI S ++ [(a, b, c, e, f, 0)]).length = (cI S).length + 1 := by simp
                refine hq _ _ _ (by omega) (by omega) (fun q y hy => hO hy) (fun q q1 q2 => hh q (by omega) (by omega) (by omega)) ⟨hX0.mono (fun q y hy => hO hy), hL, aT.fr hT (fun q q0 q1 => hh q (by omega) (by omega) (by omega)), (show aE _ x (cE S) from aE.fr hE (by rw [zup_app, if_neg (by omega), zup_ne (by omega), hgx]) (fun q q0 q1 => hh q (by omega) (by omega) (by omega))), ⟨?_, ?_, ?_, ?_⟩, aB.fr hB (fun q q0 q1 => hh q (by omega) (by omega) (by omega)), aP.fr hP (fun q q0 q1 => hh q (by omega) (by omega) (by omega))⟩
                · show _ = ((cI S ++ [(a, b, c, e, f, 0)]).length : Int)
                  rw [hll]
                  simp [zup_app]
                · show (cI S ++ [(a, b, c, e, f, 0)]).length ≤ 100
                  omega
                · intro j it hj
                  replace hj : (cI S ++ [(a, b, c, e, f, 0)])[j]? = some it := hj
                  rw [zup_ne (show x + 14 ≠ x by omega)]
                  by_cases hjl : j < (cI S).length
                  · rw [List.getElem?_append_left hjl] at hj
                    obtain ⟨p1, p2, p3, p4⟩ := hI.2.2.1 j it hj
                    have e1 : zup g (x + 14) ((cI S).length : Int) sz (x + 14) j = h (x + 14) j := by
                      rw [zup_app, if_neg (by omega), hg14]
                    rw [e1]
                    have hps := hlt _ _ p2.2
                    refine ⟨p1, ⟨p2.1, hO p2.2⟩, ?_, p4⟩
                    unfold ItIs
                    rw [hh _ (by omega) (by omega) (by omega)]
                    exact p3
                  · rw [List.getElem?_append_right (by omega)] at hj
                    have h0 : j - (cI S).length = 0 := by
                      have := (List.getElem?_eq_some_iff.mp hj).1
                      simp at this
                      omega
                    rw [h0] at hj
                    cases hj
                    have e1 : zup g (x + 14) ((cI S).length : Int) sz (x + 14) j = sz := by
                      rw [zup_app, if_pos ⟨rfl, by omega⟩]
                    rw [e1]
                    refine ⟨by omega, ⟨by omega, by simp [znew]⟩, ?_, ⟨c_4, c_11, c_18, c_26, c_34, (by show (0 : Nat) < 1024; decide)⟩⟩
                    unfold ItIs
                    rw [zup_ne (by omega), zup_ne (by omega)]
                    exact hgi
                · intro i j hi1 hj1 hij
                  rw [zup_ne (show x + 14 ≠ x by omega)] at hij
                  replace hi1 : i < (cI S ++ [(a, b, c, e, f, 0)]).length := hi1
                  replace hj1 : j < (cI S ++ [(a, b, c, e, f, 0)]).length := hj1
                  have ev : ∀ j : Nat, j < (cI S).length → zup g (x + 14) ((cI S).length : Int) sz (x + 14) j = h (x + 14) j ∧ h (x + 14) j < sz := fun j hj => by
                    obtain ⟨p1, p2, p3, p4⟩ := hI.2.2.1 j _ (List.getElem?_eq_getElem hj)
                    exact ⟨by rw [zup_app, if_neg (by omega), hg14], (hlt _ _ p2.2).2⟩
                  have en : zup g (x + 14) ((cI S).length : Int) sz (x + 14) ((cI S).length : Int) = sz := by rw [zup_app, if_pos ⟨rfl, rfl⟩]
                  by_cases h1 : i < (cI S).length
                  · by_cases h2 : j < (cI S).length
                    · rw [(ev i h1).1, (ev j h2).1] at hij
                      exact hI.2.2.2 i j h1 h2 hij
                    · rw [show (j : Int) = ((cI S).length : Int) by omega, en, (ev i h1).1] at hij
                      have := (ev i h1).2
                      omega
                  · by_cases h2 : j < (cI S).length
                    · rw [show (i : Int) = ((cI S).length : Int) by omega, en, (ev j h2).1] at hij
                      have := (ev j h2).2
                      omega
                    · omega
              · (try simp (disch := omega) only [zb_e0, zb_n0, w32_id, w64_id, ne_eq, Classical.not_not] at c_56)
                refine x_ldc (pc := 59) dX6_item_59 (-1000004) tc_RX6_62 (by decide) ?_
                refine x_retv (pc := 61) ⟨dX6_item_61, Or.inl rfl⟩ ?_
                rw [S_item_room (S := S) (a := a) (b := b) (c := c) (e := e) (f := f) (by unfold itArg; omega) (by omega)] at hq
                exact hq ty sz h (Nat.le_refl _) (by omega) (fun _ _ z => z) (FrX.rf _ _ _) hA0
          · (try simp (disch := omega) only [zb_e0, zb_n0, w32_id, w64_id, ne_eq, Classical.not_not] at c_34)
            rw [S_item_out (S := S) (a := a) (b := b) (c := c) (e := e) (f := f) (by unfold itArg; omega)] at hq
            refine x_ldc (pc := 37) dX6_item_37 (-1000002) tc_RX6_77 (by decide) ?_
            refine x_retv (pc := 39) ⟨dX6_item_39, Or.inl rfl⟩ ?_
            exact hq ty sz h (Nat.le_refl _) (by omega) (fun _ _ z => z) (FrX.rf _ _ _) hA0

theorem S_service_none {S : CS} {i s : Int} (hn : S_it S i = none) : S_service S i s = (S, -1000001) := by unfold S_service; rw [hn]
theorem S_service_out {S : CS} {i s : Int} {it : IT} (hn : S_it S i = some it) (hs : ¬ (0 ≤ s ∧ s ≤ 9)) : S_service S i s = (S, -1000002) := by unfold S_service; rw [hn]; exact if_neg hs
theorem S_service_in {S : CS} {i s : Int} {it : IT} (hn : S_it S i = some it) (hs : 0 ≤ s ∧ s ≤ 9) : S_service S i s = ((cT S, cE S, (cI S).set i.toNat (itSrv it s), S.2.2.2), popc (it.2.2.2.2.2 ||| 2 ^ s.toNat) 10) := by unfold S_service; rw [hn]; exact if_pos hs
theorem S_it_some {S : CS} {i : Int} {it : IT} (h : S_it S i = some it) : 0 ≤ i ∧ (cI S)[i.toNat]? = some it := by
  unfold S_it at h
  split at h
  · exact ⟨by assumption, h⟩
  · cases h

set_option maxHeartbeats 4000000 in
set_option maxRecDepth 100000 in
theorem C_service {i s : Int} {x lo : Int} {S : CS} (hA : zAbs ty h x lo S) (hi : i32 i ∧ i32 s) (hq : ∀ h', FrX x lo h h' → zAbs ty h' x lo ((S_service S i s).1) → Q (some (iV (S_service S i s).2)) ty sz h') : zXM D mX6_service (d + 2) 0 0 [rV x, iV i, iV s] ty sz h Q := by
  have hA0 := hA
  obtain ⟨hX, hL, hT, hE, hI, hB, hP⟩ := hA
  have hX0 := hX
  obtain ⟨x9, x0, xR, xP, xB, xB2, x14, x15, xE⟩ := hX
  have hE1 := hE.1
  have hE2 := hE.2.1
  have hI1 := hI.1
  have hI2 := hI.2.1
  have hP1 := hP.1.1
  have hP2 := hP.2
  refine x_aload_n (pc := 0) dX6_service_0 rfl ?_
  refine x_iload_n (pc := 1) dX6_service_1 rfl ?_
  refine x_callV1 (pc := 2) dX6_service_2 (k_RX6_84 _ rfl) tmv_X6_itemOf (by assumption) rfl rfl rfl ?_
  refine c_itemOf1 (S := S) hX0 hi.1 hI (fun a ha => ?_)
  dsimp only [Option.toList, List.cons_append, List.nil_append]
  refine x_astore_n (pc := 5) dX6_service_5 (by decide) ?_
  refine x_aload_n (pc := 6) dX6_service_6 rfl ?_
  refine x_ifnonnull (pc := 7) 13 dX6_service_7 rfl (fun c_7 => ?_) (fun c_7 => ?_)
  · (try simp (disch := omega) only [zb_e0, zb_n0, w32_id, w64_id, ne_eq, Classical.not_not] at c_7)
    --
    rcases ha with ⟨a1, a2⟩ | ⟨it, a1, a2, a3, a4, a5, a7, a8⟩
    · omega
    refine x_iload_n (pc := 13) dX6_service_13 rfl ?_
    refine x_callS1 (pc := 14) dX6_service_14 (k_RX6_70 _ rfl) tms_X6_isName rfl rfl ?_
    refine c_isName (by omega) ?_
    dsimp only [Option.toList, List.cons_append, List.nil_append]
    refine x_if_ne (pc := 17) 23 dX6_service_17 rfl (fun c_17 => ?_) (fun c_17 => ?_)
    · (try simp (disch := omega) only [zb_e0, zb_n0, w32_id, w64_id, ne_eq, Classical.not_not] at c_17)
      refine x_aload_n (pc := 23) dX6_service_23 rfl ?_
      refine x_dup (pc := 24) dX6_service_24 rfl ?_
      refine y_getI 5 (pc := 25) dX6_service_25 f_RX6_89 a5.2 rfl (fun b_25 => ?_)
      rw [a7.2.2.2.2.2]
      refine x_iconst (pc := 28) dX6_service_28 ?_
      refine x_iload_n (pc := 29) dX6_service_29 rfl ?_
      refine x_ishl (pc := 30) dX6_service_30 ?_
      refine x_ior (pc := 31) dX6_service_31 ?_
      rw [zset a8.2.2.2.2.2 c_17.1 c_17.2]
      refine y_putI 5 (pc := 32) dX6_service_32 f_RX6_89 a5.2 rfl (by rfl) (by have := Nat.or_lt_two_pow (n := 10) a8.2.2.2.2.2 (pow10 c_17.1 c_17.2); omega) rfl ?_
      refine x_aload_n (pc := 35) dX6_service_35 rfl ?_
      refine y_getI 5 (pc := 36) dX6_service_36 f_RX6_89 a5.2 rfl (fun b_36 => ?_)
      refine x_callS1 (pc := 39) dX6_service_39 (k_RX6_92 _ rfl) tms_J6_bitCount_0f7a4 rfl rfl ?_
      rw [show zup h a 5 ((it.2.2.2.2.2 ||| 2 ^ s.toNat : Nat) : Int) a 5 = ((it.2.2.2.2.2 ||| 2 ^ s.toNat : Nat) : Int) by simp [zup_app]]
      refine c_bits (Nat.or_lt_two_pow (n := 10) a8.2.2.2.2.2 (pow10 c_17.1 c_17.2)) ?_
      dsimp only [Option.toList, List.cons_append, List.nil_append]
      refine x_retv (pc := 42) ⟨dX6_service_42, Or.inl rfl⟩ ?_
      rw [S_service_in a1 c_17] at hq
      obtain ⟨i0, hig⟩ := S_it_some a1
      have hup : ∀ q, q ≠ a → zup h a 5 ((it.2.2.2.2.2 ||| 2 ^ s.toNat : Nat) : Int) q = h q := fun q hq1 => zup_ne hq1
      refine hq _ (fun q q1 q2 => hup q (by omega)) ⟨hX0, hL, aT.fr hT (fun q q0 q1 => hup q (by omega)), (show aE _ x (cE S) from aE.fr hE (by rw [hup x (by omega)]) (fun q q0 q1 => hup q (by omega))), ⟨by rw [hup x (by omega), hI1]; show _ = (((cI S).set i.toNat (itSrv it s)).length : Int); rw [List.length_set], by show ((cI S).set i.toNat (itSrv it s)).length ≤ 100; rw [List.length_set]; exact hI2, fun j it2 hj => ?_, fun i2 j2 h1 h2 h3 => ?_⟩, aB.fr hB (fun q q0 q1 => hup q (by omega)), aP.fr hP (fun q q0 q1 => hup q (by omega))⟩
      · replace hj : ((cI S).set i.toNat (itSrv it s))[j]? = some it2 := hj
        rw [hup (x + 14) (by omega)]
        rw [List.getElem?_set] at hj
        by_cases hji : i.toNat = j
        · rw [if_pos hji, if_pos (by omega)] at hj
          cases hj
          have eij : (j : Int) = i := by omega
          rw [eij, ← a2]
          refine ⟨a4, a5, ?_, ⟨a8.1, a8.2.1, a8.2.2.1, a8.2.2.2.1, a8.2.2.2.2.1, Nat.or_lt_two_pow (n := 10) a8.2.2.2.2.2 (pow10 c_17.1 c_17.2)⟩⟩
          obtain ⟨z1, z2, z3, z4, z5, z6⟩ := a7
          simp [ItIs, zup_app, itSrv, z1, z2, z3, z4, z5]
        · rw [if_neg hji] at hj
          obtain ⟨p1, p2, p3, p4⟩ := hI.2.2.1 j it2 hj
          have hjl := (List.getElem?_eq_some_iff.mp hj).1
          have hne : h (x + 14) j ≠ a := fun z => hji (hI.2.2.2 i.toNat j (by omega) hjl (by rw [show ((i.toNat : Nat) : Int) = i by omega, z, a2]))
          refine ⟨p1, p2, ?_, p4⟩
          unfold ItIs
          rw [hup _ hne]
          exact p3
      · rw [hup (x + 14) (by omega)] at h3
        replace h1 : i2 < ((cI S).set i.toNat (itSrv it s)).length := h1
        replace h2 : j2 < ((cI S).set i.toNat (itSrv it s)).length := h2
        rw [List.length_set] at h1 h2
        exact hI.2.2.2 i2 j2 h1 h2 h3
    · (try simp (disch := omega) only [zb_e0, zb_n0, w32_id, w64_id, ne_eq, Classical.not_not] at c_17)
      refine x_ldc (pc := 20) dX6_service_20 (-1000002) tc_RX6_77 (by decide) ?_
      refine x_retv (pc := 22) ⟨dX6_service_22, Or.inl rfl⟩ ?_
      rw [S_service_out a1 c_17] at hq
      exact hq h (FrX.rf _ _ _) hA0
  · (try simp (disch := omega) only [zb_e0, zb_n0, w32_id, w64_id, ne_eq, Classical.not_not] at c_7)
    rcases ha with ⟨a1, a2⟩ | ⟨it, a1, a2, a3, a4, a5, a7, a8⟩
    · rw [S_service_none a1] at hq
      refine x_ldc (pc := 10) dX6_service_10 (-1000001) tc_RX6_88 (by decide) ?_
      refine x_retv (pc := 12) ⟨dX6_service_12, Or.inl rfl⟩ ?_
      exact hq h (FrX.rf _ _ _) hA0
    · have := a5.1
      omega

theorem S_price_none {S : CS} {i zone day : Int} (hn : S_it S i = none) : S_price S i zone day = (S, -1000001) := by unfold S_price; rw [hn]
theorem S_price_ref {S : CS} {i zone day : Int} {it : IT} (hn : S_it S i = some it) (hr : S_refuse S zone day ≠ 0) : S_price S i zone day = (S, S_refuse S zone day) := by unfold S_price; rw [hn]; exact if_pos hr
theorem S_price_in {S : CS} {i zone day : Int} {it : IT} (hn : S_it S i = some it) (hr : S_refuse S zone day = 0) : S_price S i zone day = ((cT S, cE S, cI S, (rBill (kR it.1 (S_last S)) it zone day).1, (rBill (kR it.1 (S_last S)) it zone day).2, cP S), (rBill (kR it.1 (S_last S)) it zone day).2) := by unfold S_price; rw [hn]; exact if_neg (fun z => z hr)
theorem S_least_none {S : CS} {i zone day : Int} (hn : S_it S i = none) : S_least S i zone day = -1000001 := by unfold S_least; rw [hn]
theorem S_least_ref {S : CS} {i zone day : Int} {it : IT} (hn : S_it S i = some it) (hr : S_refuse S zone day ≠ 0) : S_least S i zone day = S_refuse S zone day := by unfold S_least; rw [hn]; exact if_pos hr
theorem S_least_in {S : CS} {i zone day : Int} {it : IT} (hn : S_it S i = some it) (hr : S_refuse S zone day = 0) : S_least S i zone day = (lstS (S_last S) it zone day 10).1 := by unfold S_least; rw [hn]; exact if_neg (fun z => z hr)
theorem S_refuse_0 {S : CS} {zone day : Int} (h : S_refuse S zone day = 0) : (0 ≤ zone ∧ zone ≤ 9) ∧ (0 ≤ day ∧ day ≤ 9999999) ∧ cE S ≠ [] := by
  unfold S_refuse at h
  split at h
  · omega
  · split at h
    · omega
    · rename_i h1 h2
      exact ⟨by omega, by omega, h2⟩
theorem S_refuse_rng (S : CS) (zone day : Int) : -1000003 ≤ S_refuse S zone day ∧ S_refuse S zone day ≤ 0 := by
  unfold S_refuse
  split
  · omega
  · split <;> omega

set_option maxHeartbeats 4000000 in
set_option maxRecDepth 100000 in
theorem C_price {i zone day : Int} {x lo : Int} {S : CS} (hA : zAbs ty h x lo S) (hi : i32 i ∧ i32 zone ∧ i64 day) (hq : ∀ h', FrX x lo h h' → zAbs ty h' x lo ((S_price S i zone day).1) → Q (some (lV (S_price S i zone day).2)) ty sz h') : zXM D mX6_price (d + 4) 0 0 [rV x, iV i, iV zone, lV day] ty sz h Q := by
  have hA0 := hA
  obtain ⟨hX, hL, hT, hE, hI, hB, hP⟩ := hA
  have hX0 := hX
  obtain ⟨x9, x0, xR, xP, xB, xB2, x14, x15, xE⟩ := hX
  have hE1 := hE.1
  have hE2 := hE.2.1
  have hI1 := hI.1
  have hI2 := hI.2.1
  have hP1 := hP.1.1
  have hP2 := hP.2
  refine x_aload_n (pc := 0) dX6_price_0 rfl ?_
  refine x_iload_n (pc := 1) dX6_price_1 rfl ?_
  refine x_callV1 (pc := 2) dX6_price_2 (k_RX6_84 _ rfl) tmv_X6_itemOf (by assumption) rfl rfl rfl ?_
  refine c_itemOf1 (S := S) hX0 hi.1 hI (fun a ha => ?_)
  dsimp only [Option.toList, List.cons_append, List.nil_append]
  refine x_astore (pc := 5) dX6_price_5 (by decide) ?_
  refine x_aload (pc := 7) dX6_price_7 rfl ?_
  refine x_ifnonnull (pc := 9) 16 dX6_price_9 rfl (fun c_9 => ?_) (fun c_9 => ?_)
  · (try simp (disch := omega) only [zb_e0, zb_n0, w32_id, w64_id, ne_eq, Classical.not_not] at c_9)
    --
    rcases ha with ⟨a1, a2⟩ | ⟨it, a1, a2, a3, a4, a5, a7, a8⟩
    · omega
    have hrr := S_refuse_rng S zone day
    refine x_aload_n (pc := 16) dX6_price_16 rfl ?_
    refine x_iload_n (pc := 17) dX6_price_17 rfl ?_
    refine x_lload_n (pc := 18) dX6_price_18 rfl ?_
    refine x_callV2 (pc := 19) dX6_price_19 (k_RX6_100 _ rfl) tmv_X6_pricingRefusal (by assumption) rfl rfl rfl ?_
    refine x_room (d' := d + 2) (by omega) (Nat.le_refl _) (Nat.le_refl _) (c_refuse hX0 hi.2.1 hi.2.2 (by omega) ?_)
    rw [zRefuse_S hE]
    dsimp only [Option.toList, List.cons_append, List.nil_append]
    refine x_istore (pc := 22) dX6_price_22 (by decide) ?_
    refine x_iload (pc := 24) dX6_price_24 rfl ?_
    refine x_if_eq (pc := 26) 33 dX6_price_26 rfl (fun c_26 => ?_) (fun c_26 => ?_)
    · (try simp (disch := omega) only [zb_e0, zb_n0, w32_id, w64_id, ne_eq, Classical.not_not] at c_26)
      refine x_aload_n (pc := 33) dX6_price_33 rfl ?_
      refine x_getF (pc := 34) dX6_price_34 f_RX6_26 (by assumption) (by rfl) ?_
      refine x_aload (pc := 37) dX6_price_37 rfl ?_
      refine x_aload_n (pc := 39) dX6_price_39 rfl ?_
      refine x_callV0 (pc := 40) dX6_price_40 (k_RX6_104 _ rfl) tmv_X6_latest (by assumption) rfl rfl rfl ?_
      refine c_latest1 (S := S) hX0 hE (fun e he => ?_)
      dsimp only [Option.toList, List.cons_append, List.nil_append]
      refine x_aload (pc := 43) dX6_price_43 rfl ?_
      refine y_getI 0 (pc := 45) dX6_price_45 f_RX6_108 a5.2 rfl (fun b_45 => ?_)
      refine x_callS2 (pc := 48) dX6_price_48 (k_RX6_111 _ rfl) tms_X6_kindOf rfl rfl ?_
      rw [a7.1]
      rcases he with ⟨e1, -⟩ | ⟨e1, e2, e3, e4, e5, e6⟩
      · exact absurd e1 (S_refuse_0 c_26).2.2
      have hz9 := S_refuse_0 c_26
      have a80 := a8.1
      refine c_kindOf1 e4 (by have := a8.1; omega) e5 (fun k hk => ?_)
      dsimp only [Option.toList, List.cons_append, List.nil_append]
      refine x_iload_n (pc := 51) dX6_price_51 rfl ?_
      refine x_lload_n (pc := 52) dX6_price_52 rfl ?_
      refine x_callV4 (pc := 53) dX6_price_53 (k_RX6_115 _ rfl) tmv_X0_make xB.2.1 rfl rfl rfl ?_
      refine c_b_make xB (good_at e6 hk) a5 (itB_OK a7 a8) (by rcases hk with ⟨-, q⟩ | ⟨-, q, -⟩ <;> omega) (by omega) hz9.1 hz9.2.1 (fun h1 hF1 hB1 => ?_)
      rw [bill_at hk a7 hz9.1] at hB1
      dsimp only [Option.toList, List.cons_append, List.nil_append]
      refine x_aload_n (pc := 56) dX6_price_56 rfl ?_
      refine x_getF (pc := 57) dX6_price_57 f_RX6_26 (by assumption) (by rfl) ?_
      refine y_getL 4 (pc := 60) dX6_price_60 f_RX6_119 xB.2.1 rfl (fun b_60 => ?_)
      rw [hB1.2.1]
      refine x_retv (pc := 63) ⟨dX6_price_63, rfl⟩ ?_
      rw [S_price_in a1 c_26] at hq
      exact hq h1 (FrX.of hF1 (by omega) (by omega)) ⟨hX0, hL, (aT.fr hT (fun q q0 q1 => hF1 q (by omega))), (show aE h1 x (cE S) from (aE.fr hE (by rw [hF1 x (by omega)]) (fun q q0 q1 => hF1 q (by omega)))), (aI.fr hI (by rw [hF1 x (by omega)]) (hF1 _ (by omega)) (fun q q0 => hF1 q (by omega)) (fun _ _ z => z)), ⟨hB1, rBill_len _ _ _ _⟩, (aP.fr hP (fun q q0 q1 => hF1 q (by omega)))⟩
    · (try simp (disch := omega) only [zb_e0, zb_n0, w32_id, w64_id, ne_eq, Classical.not_not] at c_26)
      --
      rw [S_price_ref a1 c_26] at hq
      refine x_iload (pc := 29) dX6_price_29 rfl ?_
      refine x_i2l (pc := 31) dX6_price_31 ?_
      refine x_retv (pc := 32) ⟨dX6_price_32, rfl⟩ ?_
      rw [w32_id (by omega) (by omega)]
      exact hq h (FrX.rf _ _ _) hA0
  · (try simp (disch := omega) only [zb_e0, zb_n0, w32_id, w64_id, ne_eq, Classical.not_not] at c_9)
    rcases ha with ⟨a1, a2⟩ | ⟨it, a1, a2, a3, a4, a5, a7, a8⟩
    · rw [S_price_none a1] at hq
      refine x_ldc2 (pc := 12) dX6_price_12 (-1000001) tc_RX6_98 (by decide) ?_
      refine x_retv (pc := 15) ⟨dX6_price_15, rfl⟩ ?_
      exact hq h (FrX.rf _ _ _) hA0
    · have := a5.1
      omega

set_option maxHeartbeats 4000000 in
set_option maxRecDepth 100000 in
theorem C_least48 {zone day a e : Int} {it : IT} {x lo : Int} {S : CS} (hA : zAbs ty h x lo S) (hz : 0 ≤ zone ∧ zone ≤ 9) (hdy : 0 ≤ day ∧ day ≤ 9999999) (a4 : lo ≤ a) (a5 : isIT ty a) (a7 : ItIs h a it) (a8 : itB it) (e4 : isET ty e) (e5 : EdIs h e (S_last S)) (e6 : OKE (S_last S)) (e7 : x + 16 ≤ e ∧ e + 61 < lo) (hq : ∀ h', FrX x lo h h' → zAbs ty h' x lo S → Q (some (iV (lstS (S_last S) it zone day 10).1)) ty sz h') : ∀ (n : Nat) (k : Nat) (g : zH), k ≤ 10 → Fr (x + 10) (x + 13) h g → i64 (lstS (S_last S) it zone day k).2 → 10 - k < n → zX D mX6_least (d + 4) 0 0 48 [(11, iV (k : Int)), (9, lV (lstS (S_last S) it zone day k).2), (8, iV (lstS (S_last S) it zone day k).1), (7, rV e), (5, rV a), (0, rV x), (2, iV zone), (3, lV day)] [] ty sz g Q := by
  intro n
  induction n with
  | zero =>
    intro k g h1 hF hr hm
    exfalso
    omega
  | succ n ih =>
    intro k g h1 hF hr hm
    have hA0 := hA
    obtain ⟨hX, hL, hT, hE, hI, hB, hP⟩ := hA
    have hX0 := hX
    obtain ⟨x9, x0, xR, xP, xB, xB2, x14, x15, xE⟩ := hX
    have hE1 := hE.1
    have hE2 := hE.2.1
    have hI1 := hI.1
    have hI2 := hI.2.1
    have hP1 := hP.1.1
    have hP2 := hP.2
    have hlr := lstS_rng (l := S_last S) (it := it) (zone := zone) (day := day) k
    refine x_iload (pc := 48) dX6_least_48 rfl ?_
    refine x_bipush (pc := 50) dX6_least_50 (by decide) ?_
    refine x_icmp_ge (pc := 52) 125 dX6_least_52 rfl (fun c_52 => ?_) (fun c_52 => ?_)
    · (try simp (disch := omega) only [zb_e0, zb_n0, w32_id, w64_id, ne_eq, Classical.not_not] at c_52)
      refine x_iload (pc := 125) dX6_least_125 rfl ?_
      refine x_retv (pc := 127) ⟨dX6_least_127, Or.inl rfl⟩ ?_
      rw [show k = 10 by omega]
      exact hq g (FrX.of hF (by omega) (by omega)) ⟨hX0, hL, (aT.fr hT (fun q q0 q1 => hF q (by omega))), (aE.fr hE (by rw [hF x (by omega)]) (fun q q0 q1 => hF q (by omega))), (aI.fr hI (by rw [hF x (by omega)]) (hF _ (by omega)) (fun q q0 => hF q (by omega)) (fun _ _ z => z)), (aB.fr hB (fun q q0 q1 => hF q (by omega))), (aP.fr hP (fun q q0 q1 => hF q (by omega)))⟩
    · (try simp (disch := omega) only [zb_e0, zb_n0, w32_id, w64_id, ne_eq, Classical.not_not] at c_52)
      refine x_aload_n (pc := 55) dX6_least_55 rfl ?_
      refine x_getF (pc := 56) dX6_least_56 f_RX6_30 (by assumption) (by rfl) ?_
      refine x_aload (pc := 59) dX6_least_59 rfl ?_
      refine x_aload (pc := 61) dX6_least_61 rfl ?_
      refine x_iload (pc := 63) dX6_least_63 rfl ?_
      refine x_callS2 (pc := 65) dX6_least_65 (k_RX6_111 _ rfl) tms_X6_kindOf rfl rfl ?_
      refine c_kindOf1 e4 (by omega) (e5.fr (fun q q0 q1 => hF q (by omega))) (fun b hb => ?_)
      dsimp only [Option.toList, List.cons_append, List.nil_append]
      refine x_iload_n (pc := 68) dX6_least_68 rfl ?_
      refine x_lload_n (pc := 69) dX6_least_69 rfl ?_
      refine x_callV4 (pc := 70) dX6_least_70 (k_RX6_115 _ rfl) tmv_X0_make xB2.2.1 rfl rfl rfl ?_
      have a7g : ItIs g a it := by unfold ItIs; rw [hF a (by omega)]; exact a7
      refine c_b_make xB2 (good_at e6 hb) a5 (itB_OK a7g a8) (by rcases hb with ⟨-, q⟩ | ⟨-, q, -⟩ <;> omega) (by omega) hz hdy (fun g1 hF1 hB1 => ?_)
      rw [bill_at hb a7g hz] at hB1
      have hF2 : Fr (x + 10) (x + 13) h g1 := hF.t (fun q hq1 => hF1 q (by omega))
      dsimp only [Option.toList, List.cons_append, List.nil_append]
      refine x_aload_n (pc := 73) dX6_least_73 rfl ?_
      refine x_getF (pc := 74) dX6_least_74 f_RX6_30 (by assumption) (by rfl) ?_
      refine y_getL 4 (pc := 77) dX6_least_77 f_RX6_119 xB2.2.1 rfl (fun b_77 => ?_)
      rw [hB1.2.1] at b_77 ⊢
      refine x_ldc2 (pc := 80) dX6_least_80 (-1) tc_RX6_123 (by decide) ?_
      refine x_lcmp_eq (pc := 83) 119 dX6_least_83 dX6_least_84 rfl (fun c_83 => ?_) (fun c_83 => ?_)
      · (try simp (disch := omega) only [zb_e0, zb_n0, w32_id, w64_id, ne_eq, Classical.not_not] at c_83)
        refine x_iinc (pc := 119) dX6_least_119 rfl (by decide) ?_
        refine x_goto (pc := 122) 48 dX6_least_122 rfl ?_
        have hN : lstS (S_last S) it zone day (k + 1) = lstS (S_last S) it zone day (k + 1) := rfl
        first
        | (have hy := lstS_y (l := S_last S) (it := it) (zone := zone) (day := day) (n := k) (by omega)
           refine x_loc [(11, iV ((k : Int) + 1)), (9, lV (lstS (S_last S) it zone day (k + 1)).2), (8, iV (lstS (S_last S) it zone day (k + 1)).1), (7, rV e), (5, rV a), (0, rV x), (2, iV zone), (3, lV day)] (by rw [hy]; exact ⟨rfl, rfl, rfl, rfl, rfl, rfl, rfl, rfl, trivial⟩) (ih (k + 1) g1 (by omega) hF2 (by rw [hy]; exact b_77) (by omega)))
        | (have hy := lstS_n (l := S_last S) (it := it) (zone := zone) (day := day) (n := k) (by omega)
           refine x_loc [(11, iV ((k : Int) + 1)), (9, lV (lstS (S_last S) it zone day (k + 1)).2), (8, iV (lstS (S_last S) it zone day (k + 1)).1), (7, rV e), (5, rV a), (0, rV x), (2, iV zone), (3, lV day)] (by rw [hy]; exact ⟨rfl, rfl, rfl, rfl, rfl, rfl, rfl, rfl, trivial⟩) (ih (k + 1) g1 (by omega) hF2 (by rw [hy]; exact hr) (by omega)))
      · (try simp (disch := omega) only [zb_e0, zb_n0, w32_id, w64_id, ne_eq, Classical.not_not] at c_83)
        refine x_iload (pc := 87) dX6_least_87 rfl ?_
        refine x_iconst (pc := 89) dX6_least_89 ?_
        refine x_icmp_eq (pc := 90) 106 dX6_least_90 rfl (fun c_90 => ?_) (fun c_90 => ?_)
        · (try simp (disch := omega) only [zb_e0, zb_n0, w32_id, w64_id, ne_eq, Classical.not_not] at c_90)
          refine x_iload (pc := 106) dX6_least_106 rfl ?_
          refine x_istore (pc := 108) dX6_least_108 (by decide) ?_
          refine x_aload_n (pc := 110) dX6_least_110 rfl ?_
          refine x_getF (pc := 111) dX6_least_111 f_RX6_30 (by assumption) (by rfl) ?_
          refine y_getL 4 (pc := 114) dX6_least_114 f_RX6_119 xB2.2.1 rfl (fun b_114 => ?_)
          rw [hB1.2.1]
          refine x_lstore (pc := 117) dX6_least_117 (by decide) ?_
          refine x_iinc (pc := 119) dX6_least_119 rfl (by decide) ?_
          refine x_goto (pc := 122) 48 dX6_least_122 rfl ?_
          have hN : lstS (S_last S) it zone day (k + 1) = lstS (S_last S) it zone day (k + 1) := rfl
          first
          | (have hy := lstS_y (l := S_last S) (it := it) (zone := zone) (day := day) (n := k) (by omega)
             refine x_loc [(11, iV ((k : Int) + 1)), (9, lV (lstS (S_last S) it zone day (k + 1)).2), (8, iV (lstS (S_last S) it zone day (k + 1)).1), (7, rV e), (5, rV a), (0, rV x), (2, iV zone), (3, lV day)] (by rw [hy]; exact ⟨rfl, rfl, rfl, rfl, rfl, rfl, rfl, rfl, trivial⟩) (ih (k + 1) g1 (by omega) hF2 (by rw [hy]; exact b_77) (by omega)))
          | (have hy := lstS_n (l := S_last S) (it := it) (zone := zone) (day := day) (n := k) (by omega)
             refine x_loc [(11, iV ((k : Int) + 1)), (9, lV (lstS (S_last S) it zone day (k + 1)).2), (8, iV (lstS (S_last S) it zone day (k + 1)).1), (7, rV e), (5, rV a), (0, rV x), (2, iV zone), (3, lV day)] (by rw [hy]; exact ⟨rfl, rfl, rfl, rfl, rfl, rfl, rfl, rfl, trivial⟩) (ih (k + 1) g1 (by omega) hF2 (by rw [hy]; exact hr) (by omega)))
        · (try simp (disch := omega) only [zb_e0, zb_n0, w32_id, w64_id, ne_eq, Classical.not_not] at c_90)
          refine x_aload_n (pc := 93) dX6_least_93 rfl ?_
          refine x_getF (pc := 94) dX6_least_94 f_RX6_30 (by assumption) (by rfl) ?_
          refine y_getL 4 (pc := 97) dX6_least_97 f_RX6_119 xB2.2.1 rfl (fun b_97 => ?_)
          rw [hB1.2.1]
          refine x_lload (pc := 100) dX6_least_100 rfl ?_
          refine x_lcmp_ge (pc := 102) 119 dX6_least_102 dX6_least_103 rfl (fun c_102 => ?_) (fun c_102 => ?_)
          · (try simp (disch := omega) only [zb_e0, zb_n0, w32_id, w64_id, ne_eq, Classical.not_not] at c_102)
            refine x_iinc (pc := 119) dX6_least_119 rfl (by decide) ?_
            refine x_goto (pc := 122) 48 dX6_least_122 rfl ?_
            have hN : lstS (S_last S) it zone day (k + 1) = lstS (S_last S) it zone day (k + 1) := rfl
            first
            | (have hy := lstS_y (l := S_last S) (it := it) (zone := zone) (day := day) (n := k) (by omega)
               refine x_loc [(11, iV ((k : Int) + 1)), (9, lV (lstS (S_last S) it zone day (k + 1)).2), (8, iV (lstS (S_last S) it zone day (k + 1)).1), (7, rV e), (5, rV a), (0, rV x), (2, iV zone), (3, lV day)] (by rw [hy]; exact ⟨rfl, rfl, rfl, rfl, rfl, rfl, rfl, rfl, trivial⟩) (ih (k + 1) g1 (by omega) hF2 (by rw [hy]; exact b_77) (by omega)))
            | (have hy := lstS_n (l := S_last S) (it := it) (zone := zone) (day := day) (n := k) (by omega)
               refine x_loc [(11, iV ((k : Int) + 1)), (9, lV (lstS (S_last S) it zone day (k + 1)).2), (8, iV (lstS (S_last S) it zone day (k + 1)).1), (7, rV e), (5, rV a), (0, rV x), (2, iV zone), (3, lV day)] (by rw [hy]; exact ⟨rfl, rfl, rfl, rfl, rfl, rfl, rfl, rfl, trivial⟩) (ih (k + 1) g1 (by omega) hF2 (by rw [hy]; exact hr) (by omega)))
          · (try simp (disch := omega) only [zb_e0, zb_n0, w32_id, w64_id, ne_eq, Classical.not_not] at c_102)
            refine x_iload (pc := 106) dX6_least_106 rfl ?_
            refine x_istore (pc := 108) dX6_least_108 (by decide) ?_
            refine x_aload_n (pc := 110) dX6_least_110 rfl ?_
            refine x_getF (pc := 111) dX6_least_111 f_RX6_30 (by assumption) (by rfl) ?_
            refine y_getL 4 (pc := 114) dX6_least_114 f_RX6_119 xB2.2.1 rfl (fun b_114 => ?_)
            rw [hB1.2.1]
            refine x_lstore (pc := 117) dX6_least_117 (by decide) ?_
            refine x_iinc (pc := 119) dX6_least_119 rfl (by decide) ?_
            refine x_goto (pc := 122) 48 dX6_least_122 rfl ?_
            have hN : lstS (S_last S) it zone day (k + 1) = lstS (S_last S) it zone day (k + 1) := rfl
            first
            | (have hy := lstS_y (l := S_last S) (it := it) (zone := zone) (day := day) (n := k) (by omega)
               refine x_loc [(11, iV ((k : Int) + 1)), (9, lV (lstS (S_last S) it zone day (k + 1)).2), (8, iV (lstS (S_last S) it zone day (k + 1)).1), (7, rV e), (5, rV a), (0, rV x), (2, iV zone), (3, lV day)] (by rw [hy]; exact ⟨rfl, rfl, rfl, rfl, rfl, rfl, rfl, rfl, trivial⟩) (ih (k + 1) g1 (by omega) hF2 (by rw [hy]; exact b_77) (by omega)))
            | (have hy := lstS_n (l := S_last S) (it := it) (zone := zone) (day := day) (n := k) (by omega)
               refine x_loc [(11, iV ((k : Int) + 1)), (9, lV (lstS (S_last S) it zone day (k + 1)).2), (8, iV (lstS (S_last S) it zone day (k + 1)).1), (7, rV e), (5, rV a), (0, rV x), (2, iV zone), (3, lV day)] (by rw [hy]; exact ⟨rfl, rfl, rfl, rfl, rfl, rfl, rfl, rfl, trivial⟩) (ih (k + 1) g1 (by omega) hF2 (by rw [hy]; exact hr) (by omega)))

set_option maxHeartbeats 4000000 in
set_option maxRecDepth 100000 in
theorem C_least {i zone day : Int} {x lo : Int} {S : CS} (hA : zAbs ty h x lo S) (hi : i32 i ∧ i32 zone ∧ i64 day) (hq : ∀ h', FrX x lo h h' → zAbs ty h' x lo (S) → Q (some (iV (S_least S i zone day))) ty sz h') : zXM D mX6_least (d + 4) 0 0 [rV x, iV i, iV zone, lV day] ty sz h Q := by
  have hA0 := hA
  obtain ⟨hX, hL, hT, hE, hI, hB, hP⟩ := hA
  have hX0 := hX
  obtain ⟨x9, x0, xR, xP, xB, xB2, x14, x15, xE⟩ := hX
  have hE1 := hE.1
  have hE2 := hE.2.1
  have hI1 := hI.1
  have hI2 := hI.2.1
  have hP1 := hP.1.1
  have hP2 := hP.2
  refine x_aload_n (pc := 0) dX6_least_0 rfl ?_
  refine x_iload_n (pc := 1) dX6_least_1 rfl ?_
  refine x_callV1 (pc := 2) dX6_least_2 (k_RX6_84 _ rfl) tmv_X6_itemOf (by assumption) rfl rfl rfl ?_
  refine c_itemOf1 (S := S) hX0 hi.1 hI (fun a ha => ?_)
  dsimp only [Option.toList, List.cons_append, List.nil_append]
  refine x_astore (pc := 5) dX6_least_5 (by decide) ?_
  refine x_aload (pc := 7) dX6_least_7 rfl ?_
  refine x_ifnonnull (pc := 9) 15 dX6_least_9 rfl (fun c_9 => ?_) (fun c_9 => ?_)
  · (try simp (disch := omega) only [zb_e0, zb_n0, w32_id, w64_id, ne_eq, Classical.not_not] at c_9)
    --
    rcases ha with ⟨a1, a2⟩ | ⟨it, a1, a2, a3, a4, a5, a7, a8⟩
    · omega
    have hrr := S_refuse_rng S zone day
    refine x_aload_n (pc := 15) dX6_least_15 rfl ?_
    refine x_iload_n (pc := 16) dX6_least_16 rfl ?_
    refine x_lload_n (pc := 17) dX6_least_17 rfl ?_
    refine x_callV2 (pc := 18) dX6_least_18 (k_RX6_100 _ rfl) tmv_X6_pricingRefusal (by assumption) rfl rfl rfl ?_
    refine x_room (d' := d + 2) (by omega) (Nat.le_refl _) (Nat.le_refl _) (c_refuse hX0 hi.2.1 hi.2.2 (by omega) ?_)
    rw [zRefuse_S hE]
    dsimp only [Option.toList, List.cons_append, List.nil_append]
    refine x_istore (pc := 21) dX6_least_21 (by decide) ?_
    refine x_iload (pc := 23) dX6_least_23 rfl ?_
    refine x_if_eq (pc := 25) 31 dX6_least_25 rfl (fun c_25 => ?_) (fun c_25 => ?_)
    · (try simp (disch := omega) only [zb_e0, zb_n0, w32_id, w64_id, ne_eq, Classical.not_not] at c_25)
      refine x_aload_n (pc := 31) dX6_least_31 rfl ?_
      refine x_callV0 (pc := 32) dX6_least_32 (k_RX6_104 _ rfl) tmv_X6_latest (by assumption) rfl rfl rfl ?_
      refine c_latest1 (S := S) hX0 hE (fun e he => ?_)
      dsimp only [Option.toList, List.cons_append, List.nil_append]
      refine x_astore (pc := 35) dX6_least_35 (by decide) ?_
      refine x_iconst (pc := 37) dX6_least_37 ?_
      refine x_istore (pc := 38) dX6_least_38 (by decide) ?_
      refine x_ldc2 (pc := 40) dX6_least_40 (-1) tc_RX6_123 (by decide) ?_
      refine x_lstore (pc := 43) dX6_least_43 (by decide) ?_
      refine x_iconst (pc := 45) dX6_least_45 ?_
      refine x_istore (pc := 46) dX6_least_46 (by decide) ?_
      rcases he with ⟨e1, -⟩ | ⟨e1, e2, e3, e4, e5, e6⟩
      · exact absurd e1 (S_refuse_0 c_25).2.2
      have hz9 := S_refuse_0 c_25
      rw [S_least_in a1 c_25] at hq
      exact x_loc _ (by exact ⟨rfl, rfl, rfl, rfl, rfl, rfl, rfl, rfl, trivial⟩) (C_least48 (zone := zone) (day := day) (a := a) (e := e) (it := it) hA0 hz9.1 hz9.2.1 a4 a5 a7 a8 e4 e5 e6 (by omega) hq 11 0 h (by omega) (Fr.rf _ _ _) (by show i64 (-1); decide) (by omega))
    · (try simp (disch := omega) only [zb_e0, zb_n0, w32_id, w64_id, ne_eq, Classical.not_not] at c_25)
      --
      rw [S_least_ref a1 c_25] at hq
      refine x_iload (pc := 28) dX6_least_28 rfl ?_
      refine x_retv (pc := 30) ⟨dX6_least_30, Or.inl rfl⟩ ?_
      exact hq h (FrX.rf _ _ _) hA0
  · (try simp (disch := omega) only [zb_e0, zb_n0, w32_id, w64_id, ne_eq, Classical.not_not] at c_9)
    rcases ha with ⟨a1, a2⟩ | ⟨it, a1, a2, a3, a4, a5, a7, a8⟩
    · rw [S_least_none a1] at hq
      refine x_ldc (pc := 12) dX6_least_12 (-1000001) tc_RX6_88 (by decide) ?_
      refine x_retv (pc := 14) ⟨dX6_least_14, Or.inl rfl⟩ ?_
      exact hq h (FrX.rf _ _ _) hA0
    · have := a5.1
      omega

end C18
