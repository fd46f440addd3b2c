theorem tlk_RL_7 : Cond.methodLink RL 7 yX6_dimensional ∈ zTB := List.mem_filter.mpr ⟨List.mem_of_getElem? (i := 649) (by decide +kernel), by decide +kernel⟩
section DM3
variable {D : va_G} {d : Nat} {ty : zT} {sz : Nat} {h : zH} {Q : zQ}
theorem dimV_rng {v n : Int} (hi : i64 v ∧ i64 n) : i64 (dimV v n) := by
  unfold dimV
  split
  · decide
  · rename_i ho
    unfold dimOut at ho
    have := zdu_rng (a := v) (b := n) (by omega) (by omega) (by omega)
    omega
abbrev mL_dimensional : zM := (yL_dimensional, cL_dimensional, 7, some .int, none)

set_option maxHeartbeats 4000000 in
set_option maxRecDepth 100000 in
theorem C_x_dim {x v n : Int} (hi : i64 v ∧ i64 n) (h0 : dimT v n = 0) (hq : Q (some (lV (dimV v n))) ty sz h) : zXM D mX6_dimensional (d + 1) 0 0 [rV x, lV v, lV n] ty sz h Q := by
  have hT : ¬ (¬ dimOut v n ∧ n = 0) := fun z => by
    unfold dimT at h0
    rw [if_pos z] at h0
    exact absurd h0 (by decide)
  refine x_lload_n (pc := 0) dX6_dimensional_0 rfl ?_
  refine x_lconst (pc := 1) dX6_dimensional_1 0 (by decide) ?_
  refine x_lcmp_lt (pc := 2) 28 dX6_dimensional_2 dX6_dimensional_3 rfl (fun c_2 => ?_) (fun c_2 => ?_)
  · (try simp (disch := omega) only [zb_e0, zb_n0, w32_id, w64_id, ne_eq, Classical.not_not] at c_2)
    refine x_ldc2 (pc := 28) dX6_dimensional_28 (-1000002) tc_RX6_131 (by decide) ?_
    refine x_retv (pc := 31) ⟨dX6_dimensional_31, rfl⟩ ?_
    have ho : dimOut v n := by unfold dimOut; omega
    have hV : dimV v n = -1000002 := if_pos ho
    rw [hV] at hq
    exact hq
  · (try simp (disch := omega) only [zb_e0, zb_n0, w32_id, w64_id, ne_eq, Classical.not_not] at c_2)
    refine x_lload_n (pc := 6) dX6_dimensional_6 rfl ?_
    refine x_ldc2 (pc := 7) dX6_dimensional_7 (1000000000000000) tc_RX6_129 (by decide) ?_
    refine x_lcmp_gt (pc := 10) 28 dX6_dimensional_10 dX6_dimensional_11 rfl (fun c_10 => ?_) (fun c_10 => ?_)
    · (try simp (disch := omega) only [zb_e0, zb_n0, w32_id, w64_id, ne_eq, Classical.not_not] at c_10)
      refine x_ldc2 (pc := 28) dX6_dimensional_28 (-1000002) tc_RX6_131 (by decide) ?_
      refine x_retv (pc := 31) ⟨dX6_dimensional_31, rfl⟩ ?_
      have ho : dimOut v n := by unfold dimOut; omega
      have hV : dimV v n = -1000002 := if_pos ho
      rw [hV] at hq
      exact hq
    · (try simp (disch := omega) only [zb_e0, zb_n0, w32_id, w64_id, ne_eq, Classical.not_not] at c_10)
      refine x_lload_n (pc := 14) dX6_dimensional_14 rfl ?_
      refine x_lconst (pc := 15) dX6_dimensional_15 0 (by decide) ?_
      refine x_lcmp_lt (pc := 16) 28 dX6_dimensional_16 dX6_dimensional_17 rfl (fun c_16 => ?_) (fun c_16 => ?_)
      · (try simp (disch := omega) only [zb_e0, zb_n0, w32_id, w64_id, ne_eq, Classical.not_not] at c_16)
        refine x_ldc2 (pc := 28) dX6_dimensional_28 (-1000002) tc_RX6_131 (by decide) ?_
        refine x_retv (pc := 31) ⟨dX6_dimensional_31, rfl⟩ ?_
        have ho : dimOut v n := by unfold dimOut; omega
        have hV : dimV v n = -1000002 := if_pos ho
        rw [hV] at hq
        exact hq
      · (try simp (disch := omega) only [zb_e0, zb_n0, w32_id, w64_id, ne_eq, Classical.not_not] at c_16)
        refine x_lload_n (pc := 20) dX6_dimensional_20 rfl ?_
        refine x_ldc2 (pc := 21) dX6_dimensional_21 (1000000000000000) tc_RX6_129 (by decide) ?_
        refine x_lcmp_le (pc := 24) 32 dX6_dimensional_24 dX6_dimensional_25 rfl (fun c_24 => ?_) (fun c_24 => ?_)
        · (try simp (disch := omega) only [zb_e0, zb_n0, w32_id, w64_id, ne_eq, Classical.not_not] at c_24)
          refine x_lload_n (pc := 32) dX6_dimensional_32 rfl ?_
          refine x_lconst (pc := 33) dX6_dimensional_33 0 (by decide) ?_
          refine x_lcmp_ne (pc := 34) 48 dX6_dimensional_34 dX6_dimensional_35 rfl (fun c_34 => ?_) (fun c_34 => ?_)
          · (try simp (disch := omega) only [zb_e0, zb_n0, w32_id, w64_id, ne_eq, Classical.not_not] at c_34)
            refine x_lload_n (pc := 48) dX6_dimensional_48 rfl ?_
            refine x_lload_n (pc := 49) dX6_dimensional_49 rfl ?_
            refine x_callS2 (pc := 50) dX6_dimensional_50 (k_RX6_140 _ rfl) tms_X6_dividedUp rfl rfl ?_
            refine c_dividedUp (by omega) (by omega) (by omega) (by omega) ?_
            dsimp only [Option.toList, List.cons_append, List.nil_append]
            refine x_retv (pc := 53) ⟨dX6_dimensional_53, rfl⟩ ?_
            have ho : ¬ dimOut v n := by unfold dimOut; omega
            have hV : dimV v n = zdu v n := if_neg ho
            rw [hV] at hq
            exact hq
          · (try simp (disch := omega) only [zb_e0, zb_n0, w32_id, w64_id, ne_eq, Classical.not_not] at c_34)
            exact absurd ⟨by unfold dimOut; omega, by omega⟩ hT
        · (try simp (disch := omega) only [zb_e0, zb_n0, w32_id, w64_id, ne_eq, Classical.not_not] at c_24)
          refine x_ldc2 (pc := 28) dX6_dimensional_28 (-1000002) tc_RX6_131 (by decide) ?_
          refine x_retv (pc := 31) ⟨dX6_dimensional_31, rfl⟩ ?_
          have ho : dimOut v n := by unfold dimOut; omega
          have hV : dimV v n = -1000002 := if_pos ho
          rw [hV] at hq
          exact hq

set_option maxHeartbeats 4000000 in
set_option maxRecDepth 100000 in
theorem C_L_dim0 {x v n out : Int} {fz : zF} (hx : ty x = some (6, 8, fz)) (ho : ty out = some (9, 1, zn)) (hi : i64 v ∧ i64 n) (h0 : dimT v n = 0) (hq : Q (some (iV 0)) ty sz (zup h out 0 (dimV v n))) : zXM D mL_dimensional (d + 2) 0 0 [rV x, lV v, lV n, rV out] ty sz h Q := by
  have hrg := dimV_rng hi
  refine x_aload (pc := 0) dL_dimensional_0 rfl ?_
  refine x_iconst (pc := 2) dL_dimensional_2 ?_
  refine x_aload_n (pc := 3) dL_dimensional_3 rfl ?_
  refine x_lload_n (pc := 4) dL_dimensional_4 rfl ?_
  refine x_lload_n (pc := 5) dL_dimensional_5 rfl ?_
  refine x_callV2 (pc := 6) dL_dimensional_6 (k_RL_7 _ rfl) tmv_X6_dimensional (by assumption) rfl rfl rfl ?_
  refine C_x_dim hi h0 ?_
  dsimp only [Option.toList, List.cons_append, List.nil_append]
  refine x_last (pc := 9) dL_dimensional_9 (by assumption) (by omega) (by omega) (by rfl) hrg ?_
  refine x_goto (pc := 10) 17 dL_dimensional_10 rfl ?_
  refine x_iconst (pc := 17) dL_dimensional_17 ?_
  refine x_retv (pc := 18) ⟨dL_dimensional_18, Or.inl rfl⟩ ?_
  exact hq

def zwsL : List Cond := Cond.codeWith yL_dimensional cL_dimensional 7 (some .int) hhL :: zTB
theorem zwsL_good : GoodIn zTB zwsL := by
  intro w hw
  rcases List.mem_cons.mp hw with e | hw
  · subst e
    exact ⟨tcw_Ldim, good_of_word (zTB_good tcw_Ldim)⟩
  · exact ⟨hw, good_of_word (zTB_good hw)⟩
theorem z_metW {k n : Nat} {As : List zV} (hX : zXM D mL_dimensional d k n As ty sz h Q) (hL : zsum As ≤ 7) (l : Launch) : Met l yL_dimensional zwsL (zrm d k n) (va_Pc (As.map zcv) (zP D ty sz h)) (zQc D Q (zA ty sz)) k n (zA ty sz) := by
  refine Met_ofWH (cc := cL_dimensional) (maxL := 7) (ret := some .int) (hh := hhL) (by decide +kernel) rfl ?_
  intro p e s m args below meth c s₁ B hml hv
  obtain ⟨rfl, hW, hsz, hK, hAO⟩ := hv
  have hx := B.exec
  have hb := B.bytes
  have hr := B.returns
  have hts := atoms_spec (ws := zwsL) B.pre
  have hown : s.vm.findClass RL = some m.cls := findClass_of_methodNamed B.named
  have hlocks := B.notSynchronized
  have hin : meth.name = "dimensional" := (name_of_methodNamed B.named B.method).1
  have hl := lv_entry (As.map zcv) (n := 7) (by rw [zsum_sl]; exact hL)
  rw [lg_entry_eq]
  rw [zargs_loc] at hl
  generalize (lg_sl (As.map zcv) ++ List.replicate (7 - (lg_sl (As.map zcv)).length) Slot.unset).toArray = ls at hl ⊢
  refine hX p l e _ s m _ below meth c s.heap [] ls 0 0 k n (zA ty sz) s.heap _ ?_ ⟨⟨hW, hsz, fun a q ht => Or.inl ⟨a, q, ht, rfl⟩, va_S.rf⟩, hl, Nat.le_of_eq (Nat.zero_add k), Nat.le_of_eq (Nat.zero_add n)⟩ ?_
  · refine ⟨hx, hb, hr, hml, hown, fun w hw => hts w (List.mem_cons_of_mem _ hw), hlocks, hK, hin, fun q hq => Or.inr (by omega), Nat.le_refl _, Nat.le_refl _, Nat.le_refl _, Nat.le_refl _, fun b L xs hs => ?_, hAO⟩
    cases hs
  · intro v ty' sz' h' H' locs' ls' pc' hq hO hrt
    obtain ⟨hW', hsz', hA', hS'⟩ := hO
    have hend : ∀ t : State, t.heap = H' → zQc D Q (zA ty sz) (As.map zcv).toArray s (.returned (v.map zcv)) t := by
      intro t ht
      refine ⟨⟨v, ty', sz', h', rfl, hq, by rw [ht]; exact hW', by rw [ht]; exact hsz', hA'⟩, hS'.F ht⟩
    rcases v with _ | z | z | z
    · exact absurd hrt.2 (by decide)
    · exact W.iret hx hb hr (fun t ht hW => hend t ht) hS'.2.2 hrt.1
    · exact absurd hrt.2 (by decide)
    · obtain ⟨h1, C, h2⟩ := hrt
      cases h2
theorem zP_call {U : State} {g : JFrame} {mk : MethodId} {a : Array Value} (hp : zP D ty sz h U) : zP D ty sz h (U.calling g mk a) := (zP_blind a.toList D ty sz h a U g mk ⟨by simp, hp⟩).2
/-- the same heap, and some cells more -/
theorem zW_more {H H1 : Heap} (hW : zW D ty h H) (hz : H.size ≤ H1.size) (hq : ∀ q : Nat, q < H.size → H1[q]? = H[q]?) : zW D ty h H1 := by
  intro a k n z ht
  obtain ⟨h0, hc⟩ := hW a k n z ht
  refine ⟨h0, z_kept hc (hq _ ?_)⟩
  rcases hc.1 with ⟨-, r, -, -, cell, h1, -⟩ | ⟨-, -, -, h1⟩
  · exact (Array.getElem?_eq_some_iff.mp h1).1
  · exact (Array.getElem?_eq_some_iff.mp h1).1
/-- .. and thrown, caught by the law's own -/
theorem d_L {x v n out : Int} {fz : zF} (hx : ty x = some (6, 8, fz)) (ho : 0 ≤ out) (hv : 0 ≤ v ∧ v ≤ 1000000000000000) (hn : n = 0) (l : Launch) (hfl : l.stackTraces = false) : Met l yL_dimensional zwsL (zrm 7 1 6) (va_Pc ([rV x, lV v, lV n, rV out].map zcv) (fun U => zP D ty sz h U ∧ dTh ty sz U)) (zQc D (fun v ty' sz' h' => v = some (iV 1) ∧ ty' = ty ∧ h' = h ∧ sz ≤ sz') (zA ty sz)) 1 6 (zA ty sz) := by
  have hMX := d_x6 (D := D) (ty := ty) (sz := sz) (h := h) (x := x) hv hn l hfl
  refine Met_ofWH (cc := cL_dimensional) (maxL := 7) (ret := some .int) (hh := hhL) (by decide +kernel) rfl ?_
  intro p e s m args below meth c s₁ B hml hP
  have htab := vx_table (x := yL_dimensional) B (atoms_spec (ws := zwsL) B.pre _ List.mem_cons_self)
  obtain ⟨rfl, hPz, hTh⟩ := hP
  obtain ⟨hW, hsz, hK, hAO⟩ := id hPz
  have hxe := B.exec
  have hb : c.code = cL_dimensional := B.bytes
  have hr := B.returns
  have hts := atoms_spec (ws := zwsL) B.pre
  have hts2 : ∀ w ∈ zTB, w.before _ s = true := fun w hw => hts w (List.mem_cons_of_mem _ hw)
  have hown : s.vm.findClass RL = some m.cls := findClass_of_methodNamed B.named
  have hlocks := B.notSynchronized
  have hl := lv_entry ([rV x, lV v, lV n, rV out].map zcv) (n := 7) (by rw [zsum_sl]; exact Nat.le_of_ble_eq_true rfl)
  rw [lg_entry_eq]
  rw [zargs_loc] at hl
  generalize (lg_sl ([rV x, lV v, lV n, rV out].map zcv) ++ List.replicate (7 - (lg_sl ([rV x, lV v, lV n, rV out].map zcv)).length) Slot.unset).toArray = ls at hl ⊢
  obtain ⟨hx0, hcr⟩ := hW x 6 8 fz hx
  obtain ⟨-, cellB, g1, g2, g3, -⟩ := z_obj hcr (by decide) (r := (RX6, TX6, 8)) rfl
  have hrecv : ∃ cellB : Cell, s.heap[x.toNat]? = some cellB ∧ cellB.vm.isStatics = false ∧ s.vm.findClass RX6 = some cellB.cls := ⟨cellB, g1, by rw [g3]; rfl, by rw [g2]; exact (hK.1 6 _ rfl).2.1⟩
  have l5 := zlk_at (M := mL_dimensional) (i := 5) (v := rV out) hl rfl
  have l0 := zlk_at (M := mL_dimensional) (i := 0) (v := rV x) hl rfl
  rw [zcv_r ho] at l5
  rw [zcv_r hx0] at l0
  refine lv_aload hxe hb dL_dimensional_0 l5 ?_
  refine lv_iconst hxe hb dL_dimensional_2 (v := 0) (by decide) ?_
  refine lv_aload_n hxe hb dL_dimensional_3 rfl l0 ?_
  refine lv_lload_n hxe hb dL_dimensional_4 rfl (zlk_at (M := mL_dimensional) (i := 1) hl rfl) ?_
  refine lv_lload_n hxe hb dL_dimensional_5 rfl (zlk_at (M := mL_dimensional) (i := 3) hl rfl) ?_
  have fix : CallFix p m c cL_dimensional 7 s _ zTB RL := ⟨hxe, hb, hml, hown, hts2⟩
  have hMX2 : vx_Met l yX6_dimensional (zws mX6_dimensional) (zrm 6 1 6) (va_Pc (Value.ref x.toNat :: [Value.long (Int64.ofInt v), Value.long (Int64.ofInt n)]) (fun U => zP D ty sz h U ∧ dTh ty sz U)) (va_Ql (fun _ (_ : Unit) => False) (fun _ _ => True) (fun _ => False)) (vx_X dQX dBX (fun _ => False)) 1 6 (fun _ => False) := by
    rw [← zcv_r hx0]; exact hMX
  have hbl : FrameBlind (va_Pc (Value.ref x.toNat :: [Value.long (Int64.ofInt v), Value.long (Int64.ofInt n)]) (fun U => zP D ty sz h U ∧ dTh ty sz U)) := fun a U g mk q => ⟨q.1, zP_call q.2.1, dTh_call q.2.2⟩
  have hpre : ∀ U : State, U.heap = s.heap → s.WarmedH U.vm → va_Pc (Value.ref x.toNat :: [Value.long (Int64.ofInt v), Value.long (Int64.ofInt n)]) (fun U => zP D ty sz h U ∧ dTh ty sz U) (Value.ref x.toNat :: [Value.long (Int64.ofInt v), Value.long (Int64.ofInt n)]).toArray U := by
    intro U hU hWm
    refine ⟨rfl, ⟨by rw [hU]; exact hW, by rw [hU]; exact hsz, va_K.moved hWm.alike hK, zAO_warm hWm hAO⟩, ?_⟩
    obtain ⟨t1, ⟨sa, t2⟩, t3, t4⟩ := hTh
    exact ⟨fun w hw => face_at hWm (dWs_t w hw).1 (dWs_t w hw).2 (t1 w hw), ⟨sa, vk_R.warm hWm t2⟩, by rw [hU]; exact vx_Zq.moved hWm.alike t3, by rw [hU]; exact vx_Zq.moved hWm.alike t4⟩
  have hgl := zws_good tm_X6_dimensional
  have hrun := vx_runV (p := p) (e := e) (R := zrm 7 1 6) (below := below) (meth := meth) (H := s.heap) (locs := []) (cells := 0) (slots := 0) (C := RX6) (b := x.toNat) (As := [Value.long (Int64.ofInt v), Value.long (Int64.ofInt n)]) (rest := [Value.int 0, Value.ref out.toNat]) (g := F0 m 6 ls [Value.long (Int64.ofInt n), Value.long (Int64.ofInt v), Value.ref x.toNat, Value.int 0, Value.ref out.toNat]) fix hMX2 ⟨callB_of 2 hts2 hgl rfl rfl rfl (hts2 _ tini_RX6) (hts2 _ tlk_RL_7) ⟨by decide +kernel, by decide +kernel, by decide +kernel⟩ ⟨by decide, by decide⟩, hts2 _ tmv_X6_dimensional.2.1, hts2 _ tmv_X6_dimensional.2.2⟩ ⟨hbl, hrecv, hpre⟩ rfl rfl hl.1 rfl (lv_room (Nat.le_of_ble_eq_true rfl)) dL_dimensional_6 ⟨by decide, by decide⟩
  refine vx_calll hrun va_S.rf (A0 := zA ty sz) (fun q _ z => z.elim) (fun q z => z.elim) (fun q _ z => z.elim) ?_ (fun r u t H1 locs1 _ _ hp _ _ _ _ => hp.elim)
  intro E ce q9 u t H1 locs1 ht1 hal _ hE hz1 hk1 hS1 hc9 hv9 hcl9
  have hE2 : E = AEX := hE
  subst hE2
  refine vx_catch (own := RL) (name := AEX) hown [] ⟨0, 10, 13, 13⟩ [] htab (fun z hz => by cases hz) (by decide) (by decide) (hts2 _ tcl_RL_13) ?_ hc9 hv9 hcl9 ?_
  · exact va_tabs (u := s) (by decide) rfl (hTh.1 (Cond.castable AEX AEX) (by decide +kernel))
  · refine lv_astore hxe hb dL_dimensional_13 hl (by decide) rfl (fun ls' hl' => ?_)
    refine lv_iconst hxe hb dL_dimensional_15 (v := 1) (by decide) ?_
    refine W.iret hxe hb hr (fun t ht hW9 => ?_) hS1.2.2 dL_dimensional_16
    refine ⟨⟨some (iV 1), ty, H1.size, h, rfl, ⟨rfl, rfl, rfl, by omega⟩, by rw [ht]; exact zW_more hW hz1 (fun q hq => hk1 q hq (fun z => z)), by rw [ht], fun a y hy => Or.inl ⟨a, y, hy, rfl⟩⟩, ?_⟩
    exact ⟨by rw [ht]; exact hz1, fun q hq _ => by rw [ht]; exact hk1 q hq (fun z => z)⟩
end DM3

section DM4
variable {D : va_G} {d k nn : Nat} {L : List (Nat × zV)} {st : List zV} {ty : zT} {sz : Nat} {h : zH} {Q : zQ}
/-- the law's own frame -/
abbrev mLaw (b L : Nat) (xs : Nat → Int32) : zM := (yL_law, cL_law, 8, some .boolean, some (b, L, xs))
theorem x_dim {b9 L9 : Nat} {xs9 : Nat → Int32} {x v n out : Int} {fz : zF} (hx : ty x = some (6, 8, fz)) (ho : ty out = some (9, 1, zn)) (ho0 : 0 ≤ out) (hi : i64 v ∧ i64 n) (hst : zsum st ≤ 8) (k0 : dimT v n = 0 → zX D (mLaw b9 L9 xs9) (d + 8) k nn 495 L (iV 0 :: st) ty sz (zup h out 0 (dimV v n)) Q) (k1 : dimT v n = 1 → ∀ sz', sz ≤ sz' → zX D (mLaw b9 L9 xs9) (d + 8) k nn 495 L (iV 1 :: st) ty sz' h Q) : zX D (mLaw b9 L9 xs9) (d + 8) (k + 1) (nn + 6) 492 L (rV out :: lV n :: lV v :: rV x :: st) ty sz h Q := by
  intro p l e R s m args below meth c H locs ls cells slots mc ms A H0 G S Y hret
  have Y0 := Y
  obtain ⟨hO, hL, hk1, hk2⟩ := Y
  have hts := S.2.2.2.2.2.1
  have hK := S.2.2.2.2.2.2.2.1
  have hAO := S.2.2.2.2.2.2.2.2.2.2.2.2.2.2.2
  have hAll := S.2.2.2.2.2.2.2.2.2.1
  have hcov := z_cov hO hAll
  have hdd : d + 8 ≤ R.frames := S.2.2.2.2.2.2.2.2.2.2.1
  have hdl : 60 * (d + 8) ≤ R.locals := S.2.2.2.2.2.2.2.2.2.2.2.1
  have hcc : mc ≤ R.cells := S.2.2.2.2.2.2.2.2.2.2.2.2.1
  have hcs : ms ≤ R.slots := S.2.2.2.2.2.2.2.2.2.2.2.2.2.1
  have hE : zEx l s args A H0 := (S.2.2.2.2.2.2.2.2.2.2.2.2.2.2.1 b9 L9 xs9 rfl).2.2.2
  have fix : CallFix p m c cL_law 8 s args zTB RL := ⟨S.1, S.2.1, S.2.2.2.1, S.2.2.2.2.1, hts⟩
  have hrest : 2 * (F0 m 492 ls (st.map zcv)).monitorRoom + ((st.map zcv).map fun v => v.category).sum ≤ 8 := lv_room (by rw [z_sumc]; exact hst)
  have kkk : ∀ (Q' : zQ) (pq : ∀ v ty' sz' h', Q' v ty' sz' h' → zX D (mLaw b9 L9 xs9) (d + 8) k nn 495 L (v.toList ++ st) ty' sz' h' Q) v ty' sz' h' (H1 : Heap) (locs1 : List Loc), Q' v ty' sz' h' → zO D ty' sz' h' H1 locs1 A H0 → W p l e R s m args below meth c H1 locs1 (cells + 1) (slots + 6) G (F0 m (492 + 3) ls (v.toList.map zcv ++ st.map zcv)) := by
    intro Q' pq v ty' sz' h' H1 locs1 hq hO1
    have := pq v ty' sz' h' hq p l e R s m args below meth c H1 locs1 ls (cells + 1) (slots + 6) mc ms A H0 G S ⟨hO1, hL, by omega, by omega⟩ hret
    rw [List.map_append] at this
    exact this
  have hgi : GoodIn zTB (va_wsS RL 55 yL_dimensional zwsL) := by
    intro w hw
    unfold va_wsS at hw
    rcases List.mem_append.mp hw with hw | hw
    · have hz : w ∈ zTB := by
        rcases List.mem_cons.mp hw with e | hw
        · rw [e]; exact tlk_RL_55
        · rcases List.mem_cons.mp hw with e | hw
          · rw [e]; exact tst_Ldim
          · rw [List.mem_singleton.mp hw]; exact tini_RLL
      exact ⟨hz, good_of_word (zTB_good hz)⟩
    · exact zwsL_good w hw
  have cw : vx_CSW R s args RL 55 yL_dimensional cL_dimensional 7 (some .int) hhL zwsL (zrm 7 1 6) 1 6 4 := vx_cwSW 4 hts hgi rfl rfl rfl ⟨by decide +kernel, by decide +kernel, by decide +kernel⟩ ⟨by show 7 + 1 ≤ R.frames; omega, by show 8 + (7 + 11) + 60 * 7 ≤ R.locals; omega⟩
  have hargs : (rV out :: lV n :: lV v :: rV x :: st).map zcv = ([rV x, lV v, lV n, rV out].map zcv).reverse ++ st.map zcv := rfl
  rw [hargs]
  by_cases hT : dimT v n = 0
  · have hM := z_metW (D := D) (k := 1) (n := 6) (x_room (d' := 2) (by decide) (by decide) (by decide) (C_L_dim0 (d := 0) (Q := fun v' ty' sz' h' => v' = some (iV 0) ∧ ty' = ty ∧ sz' = sz ∧ h' = zup h out 0 (dimV v n)) hx ho hi hT ⟨rfl, rfl, rfl, rfl⟩) : zXM D mL_dimensional 7 1 6 [rV x, lV v, lV n, rV out] ty sz h _) (Nat.le_of_ble_eq_true rfl) l
    refine z_back (vx_runSW (As := [rV x, lV v, lV n, rV out].map zcv) (rest := st.map zcv) fix hM cw ⟨zP_blind _ D ty sz h, z_pre hO hK hAO⟩ rfl rfl hL.1 rfl hrest dL_law_492 ⟨by omega, by omega⟩) hO.2.2.2 hcov hcov (kkk _ (fun v' ty' sz' h' q => ?_))
    obtain ⟨rfl, rfl, rfl, rfl⟩ := q
    exact k0 hT
  · have hT1 : dimT v n = 1 := by
      unfold dimT at hT ⊢
      split
      · rfl
      · rename_i z
        rw [if_neg z] at hT
        exact absurd rfl hT
    have hon : ¬ dimOut v n ∧ n = 0 := Classical.byContradiction (fun z => hT (if_neg z))
    have hM := d_L (D := D) (ty := ty) (sz := sz) (h := h) hx ho0 (v := v) (n := n) (by have := hon.1; unfold dimOut at this; omega) hon.2 l hE.1
    refine z_back (vx_runSW (As := [rV x, lV v, lV n, rV out].map zcv) (rest := st.map zcv) fix hM cw ⟨fun a U g mk q => ⟨q.1, zP_call q.2.1, dTh_call q.2.2⟩, fun U hU hWm => ⟨rfl, (z_pre (As := []) hO hK hAO U hU hWm).2, dTh_law hE hK hO hAll hU hWm⟩⟩ rfl rfl hL.1 rfl hrest dL_law_492 ⟨by omega, by omega⟩) hO.2.2.2 hcov hcov (kkk _ (fun v' ty' sz' h' q => ?_))
    obtain ⟨rfl, rfl, rfl, q⟩ := q
    exact k1 hT1 sz' q
end DM4

