section DM1
/-! a division by 0: thrown by the class, caught by the law's own method -/
/-- a word of the tables that the machine's face keeps, at any later state -/
theorem face_at {args a' : Array Value} {s U : State} (hW : s.WarmedH U.vm) {c : Cond} (h1 : c.onTables = true) (h2 : c.keepsFace = true) (h : c.before args s = true) : c.before a' U = true :=
  va_tabs (u := s.setVm U.vm) h1 rfl (Cond.before_shiftedFace (State.Shifted.of_warmed hW) c h2 h)
abbrev AEX : String := "java/lang/ArithmeticException"
abbrev AEN : List String := ["java/lang/RuntimeException", "java/lang/Exception"]
def dWs : List Cond := vx_atS RX6 137 AEX AEN
theorem dWs_in : ∀ w ∈ dWs, w ∈ lw_tbl := by
  have h : dWs = [67, 640, 599, 602, 605, 607, 641, 642, 78, 79, 593, 598, 603, 610, 634, 611, 635, 612, 636, 594, 596, 637, 591, 592, 609, 637, 582, 583, 584, 585, 628, 585, 586, 587, 588, 630, 588, 589, 590, 591, 632, 657, 581, 626, 633, 601, 617, 619, 623, 615, 608, 638, 613].filterMap (fun i => lw_tbl[i]?) := by decide +kernel
  intro w hw
  rw [h] at hw
  obtain ⟨i, -, hi⟩ := List.mem_filterMap.mp hw
  exact List.mem_of_getElem? hi
theorem dWs_t : ∀ w ∈ dWs, w.onTables = true ∧ w.keepsFace = true := by
  intro w hw
  have h : dWs.all (fun w => w.onTables && w.keepsFace) = true := by decide +kernel
  have := List.all_eq_true.mp h w hw
  simp only [Bool.and_eq_true] at this
  exact this
theorem tcl_RX6_133 : Cond.classLink RX6 133 AEX ∈ zTB := List.mem_filter.mpr ⟨List.mem_of_getElem? (i := 655) (by decide +kernel), by decide +kernel⟩
theorem tini_AEX : Cond.initialized AEX ∈ zTB := List.mem_filter.mpr ⟨List.mem_of_getElem? (i := 70) (by decide +kernel), by decide +kernel⟩
theorem tcl_RL_13 : Cond.classLink RL 13 AEX ∈ zTB := List.mem_filter.mpr ⟨List.mem_of_getElem? (i := 580) (by decide +kernel), by decide +kernel⟩
theorem tlk_RL_55 : Cond.methodLink RL 55 yL_dimensional ∈ zTB := List.mem_filter.mpr ⟨List.mem_of_getElem? (i := 577) (by decide +kernel), by decide +kernel⟩
theorem tst_Ldim : Cond.static yL_dimensional ∈ zTB := List.mem_filter.mpr ⟨List.mem_of_getElem? (i := 578) (by decide +kernel), by decide +kernel⟩
theorem tini_RLL : Cond.initialized RL ∈ zTB := List.mem_filter.mpr ⟨List.mem_of_getElem? (i := 56) (by decide +kernel), by decide +kernel⟩
abbrev hhL : List (Nat × Nat × Nat × Nat) := [(0, 10, 13, 13)]
theorem tcw_Ldim : Cond.codeWith yL_dimensional cL_dimensional 7 (some .int) hhL ∈ zTB := List.mem_filter.mpr ⟨List.mem_of_getElem? (i := 579) (by decide +kernel), by decide +kernel⟩
theorem tla_U : Cond.laysStatic Bundle.tN "UNASSIGNED_STACK" Bundle.steD ∈ lw_tbl := List.mem_of_getElem? (i := 595) (by decide +kernel)
theorem tla_N : Cond.laysStatic Bundle.tN "SUPPRESSED_SENTINEL" Bundle.listD ∈ lw_tbl := List.mem_of_getElem? (i := 597) (by decide +kernel)
theorem tini_T : Cond.initialized Bundle.tN ∈ lw_tbl := List.mem_of_getElem? (i := 67) (by decide +kernel)
theorem tsr_135 : Cond.stringRef RX6 135 "the divisor is 0" ∈ lw_tbl := List.mem_of_getElem? (i := 656) (by decide +kernel)
/-- what a throw wants of the state -/
def dTh (ty : zT) (sz : Nat) (U : State) : Prop := (∀ w ∈ dWs, w.before #[] U = true) ∧ (∃ sa, vk_R RX6 135 "the divisor is 0" sa U) ∧ vx_Zq Bundle.tN "UNASSIGNED_STACK" Bundle.steD (zA ty sz) U U.heap ∧ vx_Zq Bundle.tN "SUPPRESSED_SENTINEL" Bundle.listD (zA ty sz) U U.heap
theorem dTh_call {ty : zT} {sz : Nat} {U : State} {g : JFrame} {mk : MethodId} {a : Array Value} (h : dTh ty sz U) : dTh ty sz (U.calling g mk a) := by
  obtain ⟨h1, ⟨sa, h2⟩, h3, h4⟩ := h
  have hal : Vm.Alike U.vm (U.calling g mk a).vm := Vm.Alike.refl U.vm
  exact ⟨fun w hw => va_tabs (u := U) (dWs_t w hw).1 rfl (h1 w hw), ⟨sa, vk_R.same rfl h2⟩, vx_Zq.moved hal h3, vx_Zq.moved hal h4⟩
/-- out of the law's own start -/
theorem dTh_law {D : va_G} {ty : zT} {sz : Nat} {h : zH} {l : Launch} {s U : State} {args : Array Value} {A : Nat → Prop} {H0 H : Heap} {locs : List Loc} (hE : zEx l s args A H0) (hK : va_K D zC (ztys D) s) (hO : zO D ty sz h H locs A H0) (hAll : ∀ q, H0.size ≤ q → A q) (hU : U.heap = H) (hW : s.WarmedH U.vm) : dTh ty sz U := by
  obtain ⟨hl, h0, hA, hts, hgv⟩ := hE
  have hcov := z_cov hO hAll
  subst h0
  have hfc : s.vm.findClass RX6 = some (D.1 6) := (hK.1 6 _ rfl).2.1
  have hfl := flat_of_before _ hgv
  have zq : ∀ (n d : String), Cond.laysStatic Bundle.tN n d ∈ lw_tbl → (Cond.isRef (.static Bundle.tN n d)).before args s = true → vx_Zq Bundle.tN n d (zA ty sz) U U.heap := by
    intro n d hla hr
    have z1 : vx_Zq Bundle.tN n d A s s.heap := vx_Zqof (hts _ hla) (hts _ tini_T) hr hA
    have z2 := z1.kept (fun a ha hna => hO.2.2.2.2.1 a ha hna)
    rw [hU]
    exact (vx_Zq.moved hW.alike z2).narrow hcov
  refine ⟨fun w hw => face_at hW (dWs_t w hw).1 (dWs_t w hw).2 (hts w (dWs_in w hw)), ?_, zq _ _ tla_U (hfl _ (by decide +kernel)), zq _ _ tla_N (hfl _ (by decide +kernel))⟩
  have hsr := hts _ tsr_135
  obtain ⟨-, -, -, sa, -, -, -, -, -, hev⟩ := Cond.stringRef_spec (first := s) (s := s) (o := none) (idx := []) (args := args) hfc hsr
  exact ⟨sa, vk_R.warm hW (vk_R.of hsr hev)⟩
/-- a method with handlers: its contract -/
theorem Met_ofWH {l : Launch} {y : MethodName} {ws ws' : List Cond} {rm : Room} {Pc : Array Value → State → Prop} {Qc : Array Value → State → Outcome → State → Prop} {mc ms : Nat} {free : Addr → Prop} {cc : ByteArray} {maxL : Nat} {ret : Option FieldType} {hh : List (Nat × Nat × Nat × Nat)}
    (hy : plainName y.cls = true) (hw : ws = Cond.codeWith y cc maxL ret hh :: ws')
    (body : ∀ p e s m args below meth c s₁, BodyLoose p l y (headSpec ws rm) cc maxL ret e s m args below meth c s₁ → c.maxLocals = maxL → Pc args s →
      W p l e (headSpec ws rm).room s m args below meth c s.heap [] 0 0 (MQ below Qc args s mc ms free) (entryFrame m args maxL)) : Met l y ws rm Pc Qc mc ms free := by
  refine MetFree.of_bodyS (code := cc) (maxLocals := maxL) (ret := ret) hy ?_ ?_
  · intro args s m h hn
    obtain ⟨m9, meth, c, hn9, h1, h2, h3, h4, -, h5, h6, -⟩ := Cond.codeWith_spec (atoms_spec (ws := ws) h _ (by rw [hw]; exact List.mem_cons_self))
    cases hn.symm.trans hn9
    exact ⟨meth, c, h1, h2, h3, h4, h5, h6⟩
  · intro p e s m args below meth c s₁ B hml hP _
    have hh0 : s₁.heap = s.heap := by rw [B.state]; rfl
    obtain ⟨t, a1, o, b1, b2, b3⟩ := body p e s m args below meth c s₁ B hml hP s₁ hh0 (Stand.of_body B)
    exact ⟨t, o, a1, b1, b2, ⟨b3.1, b3.2⟩⟩
end DM1
section DM2
variable {D : va_G} {ty : zT} {sz : Nat} {h : zH}

def dQX (_ : Unit) : Prop := True
def dBX (E : String) (_ : Unit) (_ : State) : Prop := E = AEX
theorem d_x6 {x v n : Int} (hv : 0 ≤ v ∧ v ≤ 1000000000000000) (hn : n = 0) (l : Launch) (hfl : l.stackTraces = false) : vx_Met l mX6_dimensional.1 (zws mX6_dimensional) (zrm 6 1 6) (va_Pc ([rV x, lV v, lV n].map zcv) (fun U => zP D ty sz h U ∧ dTh ty sz U)) (va_Ql (fun _ (_ : Unit) => False) (fun _ _ => True) (fun _ => False)) (vx_X dQX dBX (fun _ => False)) 1 6 (fun _ => False) := by
  refine vx_ofW (cc := mX6_dimensional.2.1) (maxL := 5) (ret := some .long) tm_X6_dimensional.2.2.2.2.2.1 rfl ?_
  intro p e s m args below meth c s₁ B hml hout hP
  obtain ⟨rfl, ⟨hW, hsz, hK, hAO⟩, hw9, ⟨sa, hst⟩, hZU, hZN⟩ := hP
  have hx := B.exec
  have hb : c.code = cX6_dimensional := B.bytes
  have hr := B.returns
  have hts := atoms_spec (ws := zws mX6_dimensional) B.pre
  have hown : s.vm.findClass RX6 = some m.cls := findClass_of_methodNamed B.named
  have hlocks := B.notSynchronized
  have hl := lv_entry ([rV x, lV v, lV n].map zcv) (n := 5) (by rw [zsum_sl]; exact Nat.le_of_ble_eq_true rfl)
  rw [lg_entry_eq]
  rw [zargs_loc] at hl
  generalize (lg_sl ([rV x, lV v, lV n].map zcv) ++ List.replicate (5 - (lg_sl ([rV x, lV v, lV n].map zcv)).length) Slot.unset).toArray = ls at hl ⊢
  refine lv_lload_n hx hb dX6_dimensional_0 rfl (zlk_at (M := mX6_dimensional) (i := 1) hl rfl) ?_
  refine lv_lconst hx hb dX6_dimensional_1 (v := Int64.ofInt 0) (by decide) ?_
  refine W.lcmp hx hb dX6_dimensional_2 (lv_if_lt hx hb dX6_dimensional_3 (tgt := 28) (by decide) (fun q => ?_) (fun q => ?_))
  · exfalso
    have e9 := z_lcmp (Int64.ofInt (v)) (Int64.ofInt (0))
    rw [z_ltL, z_leL, z_eqL, w64_id (z := v) (by omega) (by omega), w64_id (z := 0) (by omega) (by omega)] at e9
    have f9 := z_i0 (lg_cmp (Int64.ofInt (v)) (Int64.ofInt (0)))
    simp only [ne_eq, ge_iff_le, gt_iff_lt, f9.1, f9.2, e9.1, e9.2.1, e9.2.2] at q
    omega
  refine lv_lload_n hx hb dX6_dimensional_6 rfl (zlk_at (M := mX6_dimensional) (i := 1) hl rfl) ?_
  refine lv_ldc2 hx hb hown (hts _ (List.mem_cons_of_mem _ tc_RX6_129)) dX6_dimensional_7 ?_
  change W _ _ _ _ _ _ _ _ _ _ _ _ _ _ _ (F0 _ _ _ (Value.long (Int64.ofInt 1000000000000000) :: _))
  refine W.lcmp hx hb dX6_dimensional_10 (lv_if_gt hx hb dX6_dimensional_11 (tgt := 28) (by decide) (fun q => ?_) (fun q => ?_))
  · exfalso
    have e9 := z_lcmp (Int64.ofInt (v)) (Int64.ofInt (1000000000000000))
    rw [z_ltL, z_leL, z_eqL, w64_id (z := v) (by omega) (by omega), w64_id (z := 1000000000000000) (by omega) (by omega)] at e9
    have f9 := z_i0 (lg_cmp (Int64.ofInt (v)) (Int64.ofInt (1000000000000000)))
    simp only [ne_eq, ge_iff_le, gt_iff_lt, f9.1, f9.2, e9.1, e9.2.1, e9.2.2] at q
    omega
  refine lv_lload_n hx hb dX6_dimensional_14 rfl (zlk_at (M := mX6_dimensional) (i := 3) hl rfl) ?_
  refine lv_lconst hx hb dX6_dimensional_15 (v := Int64.ofInt 0) (by decide) ?_
  refine W.lcmp hx hb dX6_dimensional_16 (lv_if_lt hx hb dX6_dimensional_17 (tgt := 28) (by decide) (fun q => ?_) (fun q => ?_))
  · exfalso
    have e9 := z_lcmp (Int64.ofInt (n)) (Int64.ofInt (0))
    rw [z_ltL, z_leL, z_eqL, w64_id (z := n) (by omega) (by omega), w64_id (z := 0) (by omega) (by omega)] at e9
    have f9 := z_i0 (lg_cmp (Int64.ofInt (n)) (Int64.ofInt (0)))
    simp only [ne_eq, ge_iff_le, gt_iff_lt, f9.1, f9.2, e9.1, e9.2.1, e9.2.2] at q
    omega
  refine lv_lload_n hx hb dX6_dimensional_20 rfl (zlk_at (M := mX6_dimensional) (i := 3) hl rfl) ?_
  refine lv_ldc2 hx hb hown (hts _ (List.mem_cons_of_mem _ tc_RX6_129)) dX6_dimensional_21 ?_
  change W _ _ _ _ _ _ _ _ _ _ _ _ _ _ _ (F0 _ _ _ (Value.long (Int64.ofInt 1000000000000000) :: _))
  refine W.lcmp hx hb dX6_dimensional_24 (lv_if_le hx hb dX6_dimensional_25 (tgt := 32) (by decide) (fun q => ?_) (fun q => ?_))
  rotate_left
  · exfalso
    have e9 := z_lcmp (Int64.ofInt (n)) (Int64.ofInt (1000000000000000))
    rw [z_ltL, z_leL, z_eqL, w64_id (z := n) (by omega) (by omega), w64_id (z := 1000000000000000) (by omega) (by omega)] at e9
    have f9 := z_i0 (lg_cmp (Int64.ofInt (n)) (Int64.ofInt (1000000000000000)))
    simp only [ne_eq, ge_iff_le, gt_iff_lt, f9.1, f9.2, e9.1, e9.2.1, e9.2.2] at q
    omega
  refine lv_lload_n hx hb dX6_dimensional_32 rfl (zlk_at (M := mX6_dimensional) (i := 3) hl rfl) ?_
  refine lv_lconst hx hb dX6_dimensional_33 (v := Int64.ofInt 0) (by decide) ?_
  refine W.lcmp hx hb dX6_dimensional_34 (lv_if_ne hx hb dX6_dimensional_35 (tgt := 48) (by decide) (fun q => ?_) (fun q => ?_))
  · exfalso
    have e9 := z_lcmp (Int64.ofInt (n)) (Int64.ofInt (0))
    rw [z_ltL, z_leL, z_eqL, w64_id (z := n) (by omega) (by omega), w64_id (z := 0) (by omega) (by omega)] at e9
    have f9 := z_i0 (lg_cmp (Int64.ofInt (n)) (Int64.ofInt (0)))
    simp only [ne_eq, ge_iff_le, gt_iff_lt, f9.1, f9.2, e9.1, e9.2.1, e9.2.2] at q
    omega
  refine vx_throwS hx hb hfl (own := RX6) (cls := AEX) (text := "the divisor is 0") (names := AEN) (ik := 133) (is := 135) (ic := 137) (mc := 1) (ms := 6) (sa := sa) (A := zA ty sz) hown (by decide +kernel) (by decide +kernel) (hts _ (List.mem_cons_of_mem _ tcl_RX6_133)) (hts _ (List.mem_cons_of_mem _ tini_AEX)) hst ?_ ?_ hZU hZN va_S.rf (by rw [hml]; exact hl.1) dX6_dimensional_38 dX6_dimensional_41 dX6_dimensional_42 dX6_dimensional_44 dX6_dimensional_47 (fun x hx => absurd hx (hout x)) (by decide) (by decide) (by decide) (by decide) hlocks ?_ (fun z hz => by cases hz) (by decide) (by decide)
  · intro w hw
    exact va_tabs (dWs_t w hw).1 rfl (hw9 w hw)
  · have h9 : (Cond.classLink RX6 133 AEX :: Cond.initialized AEX :: vx_atS RX6 137 AEX AEN).all vx_ot = true := by decide +kernel
    exact fun w hw => List.all_eq_true.mp h9 w hw
  · intro t _ h1 h2
    exact ⟨(), trivial, rfl, h1, fun q hq _ => h2 q hq⟩
end DM2

