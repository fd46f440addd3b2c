section ZCALL
variable {D : va_G} {M M' : zM} {d k n pc : Nat} {L : List (Nat × zV)} {st : List zV} {ty : zT} {sz : Nat} {h : zH} {Q : zQ}
/-- what a method's own world may change -/
def zA (ty : zT) (sz : Nat) : Nat → Prop := fun q => (∃ a x, ty a = some x ∧ a.toNat = q) ∨ sz ≤ q
theorem zAO_warm {s U : State} (hW : s.WarmedH U.vm) (hA : zAO s) : zAO U := by
  refine ⟨va_AO.moved hW.alike hA.1, va_AO.moved hW.alike hA.2.1, va_AO.moved hW.alike hA.2.2.1, fun w hw => ?_⟩
  have h1 := hA.2.2.2 w hw
  have h2 := (List.mem_filter.mp hw).2
  cases w <;> first | exact va_Nw.warmM hW h1 | (simp [zisN] at h2)
def zP (D : va_G) (ty : zT) (sz : Nat) (h : zH) (U : State) : Prop := zW D ty h U.heap ∧ U.heap.size = sz ∧ va_K D zC (ztys D) U ∧ zAO U
def zQc (D : va_G) (Q : zQ) (A : Nat → Prop) : Array Value → State → Outcome → State → Prop := fun _ st o t =>
  (∃ v ty' sz' h', o = .returned (v.map zcv) ∧ Q v ty' sz' h' ∧ zW D ty' h' t.heap ∧ t.heap.size = sz' ∧ (∀ a x, ty' a = some x → A a.toNat)) ∧ va_F A st t
/-- the locals at the entry -/
def zargs : Nat → List zV → List (Nat × zV)
  | _, [] => []
  | i, v :: vs => (i, v) :: zargs (if zcat v = 2 then i + 2 else i + 1) vs
theorem zargs_loc : ∀ (As : List zV) (i : Nat), lv_args i (As.map zcv) = zloc (zargs i As)
  | [], _ => rfl
  | v :: vs, i => by
    show (i, zcv v) :: lv_args (if (zcv v).category = 2 then i + 2 else i + 1) (vs.map zcv) = _
    rw [zcat_cv, zargs_loc vs]
    rfl
def zsum (As : List zV) : Nat := (As.map zcat).sum
theorem zsum_sl : ∀ (As : List zV), (lg_sl (As.map zcv)).length = zsum As
  | [] => rfl
  | v :: vs => by
    have ih := zsum_sl vs
    unfold lg_sl zsum at *
    rw [List.map_cons, List.flatMap_cons, List.length_append, ih, List.map_cons, List.sum_cons, zcat_cv]
    congr 1
    rcases v with z | z | z <;> rfl
/-- from its entry on -/
def zXM (D : va_G) (M : zM) (d k n : Nat) (As : List zV) (ty : zT) (sz : Nat) (h : zH) (Q : zQ) : Prop := zX D M d k n 0 (zargs 0 As) [] ty sz h Q
/-- what the tables say of a method -/
def zMT (M : zM) (nA : Nat) : Prop := Cond.code M.1 M.2.1 M.2.2.1 M.2.2.2.1 ∈ zTB ∧ Cond.initialized M.1.cls ∈ zTB ∧ (M.1.cls ≠ "java/lang/invoke/MethodHandle" ∧ M.1.cls ≠ "java/lang/invoke/VarHandle") ∧ (parseMethodDescriptor M.1.desc).map (fun d => d.parameters.length) = some nA ∧ M.2.2.1 ≤ 41 ∧ plainName M.1.cls = true ∧ M.2.2.2.2 = none
theorem zTB_good {w : Cond} (hw : w ∈ zTB) : goodWord w = true := (List.mem_filter.mp hw).2
def zws (M : zM) : List Cond := Cond.code M.1 M.2.1 M.2.2.1 M.2.2.2.1 :: zTB
theorem zws_good {nA : Nat} (hM : zMT M nA) : GoodIn zTB (zws M) := by
  intro w hw
  rcases List.mem_cons.mp hw with e | hw
  · subst e
    exact ⟨hM.1, good_of_word (zTB_good hM.1)⟩
  · exact ⟨hw, good_of_word (zTB_good hw)⟩
def zrm (d k n : Nat) : Room := { frames := d, cells := k, slots := n, locals := 60 * d }
theorem zP_blind (As : List Value) (D : va_G) (ty : zT) (sz : Nat) (h : zH) : FrameBlind (va_Pc As (zP D ty sz h)) := by
  intro a U g mk q
  obtain ⟨q0, q1, q2, q3, q4, q5, q6⟩ := q
  have hal : Vm.Alike U.vm (U.calling g mk a).vm := Vm.Alike.refl U.vm
  obtain ⟨q6, q7⟩ := q6
  refine ⟨q0, q1, q2, va_K.moved hal q3, va_AO.moved hal q4, va_AO.moved hal q5, va_AO.moved hal q6, fun w hw => ?_⟩
  have h1 := q7 w hw
  have h2 := (List.mem_filter.mp hw).2
  cases w <;> first | exact va_Nw.same rfl rfl h1 | (simp [zisN] at h2)
theorem z_met {nA : Nat} {As : List zV} (hX : zXM D M d k n As ty sz h Q) (hM : zMT M nA) (hL : zsum As ≤ M.2.2.1) (l : Launch) : Met l M.1 (zws M) (zrm d k n) (va_Pc (As.map zcv) (zP D ty sz h)) (zQc D Q (zA ty sz)) k n (zA ty sz) := by
  refine Met.ofW (cc := M.2.1) (maxL := M.2.2.1) (ret := M.2.2.2.1) hM.2.2.2.2.2.1 rfl ?_
  intro p e s m args below meth c s₁ B hml hv
  obtain ⟨rfl, hW, hsz, hK, hAO⟩ := hv
  have hx := B.exec
  have hb := B.bytes
  have hr := B.returns
  have hts := atoms_spec (ws := zws M) B.pre
  have hown : s.vm.findClass M.1.cls = some m.cls := findClass_of_methodNamed B.named
  have hlocks := B.notSynchronized
  have hin : meth.name = M.1.name := (name_of_methodNamed B.named B.method).1
  have hl := lv_entry (As.map zcv) (n := M.2.2.1) (by rw [zsum_sl]; exact hL)
  rw [lg_entry_eq]
  rw [zargs_loc] at hl
  generalize (lg_sl (As.map zcv) ++ List.replicate (M.2.2.1 - (lg_sl (As.map zcv)).length) Slot.unset).toArray = ls at hl ⊢
  refine hX p l e _ s m _ below meth c s.heap [] ls 0 0 k n (zA ty sz) s.heap _ ?_ ⟨⟨hW, hsz, fun a q ht => Or.inl ⟨a, q, ht, rfl⟩, va_S.rf⟩, hl, Nat.le_of_eq (Nat.zero_add k), Nat.le_of_eq (Nat.zero_add n)⟩ ?_
  · refine ⟨hx, hb, hr, hml, hown, fun w hw => hts w (List.mem_cons_of_mem _ hw), hlocks, hK, hin, fun q hq => Or.inr (by omega), Nat.le_refl _, Nat.le_refl _, Nat.le_refl _, Nat.le_refl _, fun b L xs hs => ?_, hAO⟩
    have h0 := hM.2.2.2.2.2.2
    rw [hs] at h0
    cases h0
  · intro v ty' sz' h' H' locs' ls' pc' hq hO hrt
    obtain ⟨hW', hsz', hA', hS'⟩ := hO
    have hend : ∀ t : State, t.heap = H' → zQc D Q (zA ty sz) (As.map zcv).toArray s (.returned (v.map zcv)) t := by
      intro t ht
      refine ⟨⟨v, ty', sz', h', rfl, hq, by rw [ht]; exact hW', by rw [ht]; exact hsz', hA'⟩, hS'.F ht⟩
    rcases v with _ | z | z | z
    · rw [hrt.2] at hr
      exact W.vret hx hb hr (fun t ht hW => hend t ht) hS'.2.2 hrt.1
    · rcases hrt with ⟨h1, h2 | ⟨h2, hz⟩⟩
      · rw [h2] at hr
        exact W.iret hx hb hr (fun t ht hW => hend t ht) hS'.2.2 h1
      · rw [h2] at hr
        exact W.zret hx hb hr (by rcases hz with rfl | rfl <;> decide) (fun t ht hW => hend t ht) hS'.2.2 h1
    · rw [hrt.2] at hr
      exact W.lret hx hb hr (fun t ht hW => hend t ht) hS'.2.2 hrt.1
    · obtain ⟨h1, C, h2⟩ := hrt
      rw [h2] at hr
      refine W.aret hx hb hr (Or.inl ⟨C, rfl⟩) ?_ (fun t ht hW => hend t ht) hS'.2.2 h1
      show va_rf (zrf z) = .null ∨ ∃ a, va_rf (zrf z) = .ref a
      cases zrf z
      · exact Or.inl rfl
      · exact Or.inr ⟨_, rfl⟩
section BACK
variable {p : Program} {l : Launch} {e : Env} {R : Room} {s : State} {m : MethodId} {args : Array Value} {below : List Frame} {meth : Method} {c : Code} {H : Heap} {locs : List Loc} {cells slots : Nat} {G : State → Prop}
theorem z_back {Q' : zQ} {ls : Array Slot} {rest st0 : List Value} {a : Array Value} {A0 A1 : Nat → Prop} {H0 : Heap} {mc ms : Nat} {free : Addr → Prop} (hr : va_Run p l e R s m args below meth c H locs cells slots mc ms (F0 m pc ls st0) rest (zQc D Q' A1 a) free) (hS : va_S A0 H0 H locs) (hA : ∀ q, A1 q → A0 q) (hf : ∀ q, free q → A0 q)
    (kk : ∀ v ty' sz' h' (H1 : Heap) (locs1 : List Loc), Q' v ty' sz' h' → zO D ty' sz' h' H1 locs1 A0 H0 → W p l e R s m args below meth c H1 locs1 (cells + mc) (slots + ms) G (F0 m (pc + 3) ls (v.toList.map zcv ++ rest))) : W p l e R s m args below meth c H locs cells slots G (F0 m pc ls st0) := by
  intro T hT X
  obtain ⟨v, st₀, t, T', L, h0, X', hL, e1, e2, ⟨⟨u, ty', sz', h', hv, hq, hw, hsz, hcov⟩, hz, hk⟩, st⟩ := hr T hT X
  cases hv
  rw [h0] at hz hk
  have hS1 : va_S A0 H0 T'.heap (locs ++ L) := ⟨Nat.le_trans hS.1 (by rw [e1]; exact hz), fun q h1 h2 => by rw [e1, hk q (Nat.lt_of_lt_of_le h1 hS.1) (fun z => h2 (hA q z))]; exact hS.2.1 q h1 h2, fun q hq => by
      rcases List.mem_append.mp hq with h | h
      · exact hS.2.2 q h
      · exact hf _ (hL q h)⟩
  obtain ⟨t2, a1, b1⟩ := kk u ty' sz' h' T'.heap (locs ++ L) hq ⟨by rw [e1]; exact hw, by rw [e1]; exact hsz, fun a x hx => hA _ (hcov a x hx), hS1⟩ T' rfl X'
  refine ⟨t2, st t2 ?_, b1⟩
  have eo : (u.map zcv).toList ++ rest = u.toList.map zcv ++ rest := by cases u <;> rfl
  rw [eo]
  exact a1
end BACK
/-- the link of a call -/
def zLK (M : zM) (idx : Nat) (M' : zM) : Prop := Cond.methodLink M.1.cls idx M'.1 ∈ zTB ∨ ∃ host, Cond.methodLinkNest M.1.cls idx M'.1 host ∈ zNL
def zMV (M : zM) (nA : Nat) : Prop := zMT M nA ∧ Cond.instanceMethod M.1 ∈ zTB ∧ Cond.selects M.1.cls M.1 M.1 ∈ zTB
def zMS (M : zM) (nA : Nat) : Prop := zMT M nA ∧ Cond.static M.1 ∈ zTB
def zMI (M : zM) (nA : Nat) : Prop := zMT M nA ∧ Cond.instanceMethod M.1 ∈ zTB ∧ M.1.name = "<init>" ∧ M.2.2.2.1 = none
theorem z_sumc (st : List zV) : ((st.map zcv).map fun v => v.category).sum = zsum st := by
  unfold zsum
  rw [List.map_map]
  congr 1
  apply List.map_congr_left
  intro v _
  exact zcat_cv v
theorem z_cov {H : Heap} {locs : List Loc} {A : Nat → Prop} {H0 : Heap} (hO : zO D ty sz h H locs A H0) (hAll : ∀ q, H0.size ≤ q → A q) : ∀ q, zA ty sz q → A q := by
  intro q hq
  rcases hq with ⟨a, x, ht, rfl⟩ | hq
  · exact hO.2.2.1 a x ht
  · exact hAll q (Nat.le_trans hO.2.2.2.1 (by rw [hO.2.1]; exact hq))
theorem z_pre {s : State} {H : Heap} {locs : List Loc} {A : Nat → Prop} {H0 : Heap} {As : List Value} (hO : zO D ty sz h H locs A H0) (hK : va_K D zC (ztys D) s) (hAO : zAO s) : ∀ U : State, U.heap = H → s.WarmedH U.vm → va_Pc As (zP D ty sz h) As.toArray U := by
  intro U hU hW
  exact ⟨rfl, by rw [hU]; exact hO.1, by rw [hU]; exact hO.2.1, va_K.moved hW.alike hK, zAO_warm hW hAO⟩

theorem x_invV0 {idx k' n' : Nat} {r : Int} {As : List zV} {Q' : zQ} (hd : decode M.2.1 pc = .ok (.invokevirtual idx, 3)) (hlk : zLK M idx M') (hM : zMV M' As.length) (hr : ∃ ci N fz q, ty r = some (ci, N, fz) ∧ ci < 8 ∧ zC[ci]? = some q ∧ q.1 = M'.1.cls) (hst : zsum st ≤ 8) (hla : zsum (rV r :: As) ≤ M'.2.2.1) (hb : zXM D M' d k' n' (rV r :: As) ty sz h Q') (kk : ∀ v ty' sz' h', Q' v ty' sz' h' → zX D M (d + 1) k n (pc + 3) L (v.toList ++ st) ty' sz' h' Q) : zX D M (d + 1) (k + k') (n + n') pc L (As.reverse ++ rV r :: st) ty sz h Q := by
  intro p l e R s m args below meth c H locs ls cells slots mc ms A H0 G S Y hret
  have Y0 := Y
  obtain ⟨hO, hL, hk1, hk2⟩ := Y
  have hts := S.2.2.2.2.2.1
  have hK := S.2.2.2.2.2.2.2.1
  have hAO := S.2.2.2.2.2.2.2.2.2.2.2.2.2.2.2
  obtain ⟨ci, N, fz, q, htr, h8, hqc, hqn⟩ := hr
  obtain ⟨h0, hcr⟩ := hO.1 r ci N fz htr
  obtain ⟨-, cellB, g1, g2, g3, -⟩ := z_obj hcr h8 hqc
  have hrecv : ∃ cellB : Cell, H[r.toNat]? = some cellB ∧ cellB.vm.isStatics = false ∧ s.vm.findClass M'.1.cls = some cellB.cls := ⟨cellB, g1, by rw [g3]; rfl, by rw [g2, ← hqn]; exact (hK.1 ci q hqc).2.1⟩
  have hcov := z_cov hO S.2.2.2.2.2.2.2.2.2.1
  have hdd : d + 1 ≤ R.frames := S.2.2.2.2.2.2.2.2.2.2.1
  have hdl : 60 * (d + 1) ≤ R.locals := S.2.2.2.2.2.2.2.2.2.2.2.1
  have hcc : mc ≤ R.cells := S.2.2.2.2.2.2.2.2.2.2.2.2.1
  have hcs : ms ≤ R.slots := S.2.2.2.2.2.2.2.2.2.2.2.2.2.1
  have hgl := zws_good hM.1
  have h41 := hM.1.2.2.2.2.1
  have hrest : 2 * (F0 m pc ls (st.map zcv)).monitorRoom + ((st.map zcv).map fun v => v.category).sum ≤ 8 := lv_room (by rw [z_sumc]; exact hst)
  have hMet := z_met hb hM.1 hla l
  have fix : CallFix p m c M.2.1 M.2.2.1 s args zTB M.1.cls := ⟨S.1, S.2.1, S.2.2.2.1, S.2.2.2.2.1, hts⟩
  have kkk : ∀ v ty' sz' h' (H1 : Heap) (locs1 : List Loc), Q' v ty' sz' h' → zO D ty' sz' h' H1 locs1 A H0 → W p l e R s m args below meth c H1 locs1 (cells + k') (slots + n') G (F0 m (pc + 3) ls (v.toList.map zcv ++ st.map zcv)) := by
    intro v ty' sz' h' H1 locs1 hq hO1
    have := kk v ty' sz' h' hq p l e R s m args below meth c H1 locs1 ls (cells + k') (slots + n') mc ms A H0 G S ⟨hO1, hL, by omega, by omega⟩ hret
    rw [List.map_append] at this
    exact this
  show W p l e R s m args below meth c H locs cells slots G (F0 m pc ls ((As.reverse ++ rV r :: st).map zcv))
  rw [List.map_append, List.map_cons, List.map_reverse, zcv_r h0]
  have hMet2 : Met l M'.1 (zws M') (zrm d k' n') (va_Pc (Value.ref r.toNat :: As.map zcv) (zP D ty sz h)) (zQc D Q' (zA ty sz)) k' n' (zA ty sz) := by
    rw [← zcv_r h0]; exact hMet
  rcases hlk with hlk | ⟨host, hlk⟩
  · exact z_back (va_runV (C := M'.1.cls) (As := As.map zcv) (rest := st.map zcv) fix hMet2 ⟨callB_of As.length hts hgl rfl rfl rfl (hts _ hM.1.2.1) (hts _ hlk) ⟨hM.1.2.2.1.1, hM.1.2.2.1.2, hM.1.2.2.2.1⟩ ⟨hdd, by show 8 + (M'.2.2.1 + 11) + 60 * d ≤ R.locals; omega⟩, hts _ hM.2.1, hts _ hM.2.2⟩ ⟨zP_blind _ D ty sz h, hrecv, z_pre hO hK hAO⟩ rfl (by rw [List.length_map]) hL.1 rfl hrest hd ⟨by omega, by omega⟩) hO.2.2.2 hcov hcov kkk
  · exact z_back (va_runVN (C := M'.1.cls) (host := host) (As := As.map zcv) (rest := st.map zcv) fix hMet2 ⟨va_cnB As.length hts hgl rfl rfl rfl (hAO.2.2.2 _ hlk) (hts _ hM.1.2.1) ⟨hM.1.2.2.1.1, hM.1.2.2.1.2, hM.1.2.2.2.1⟩ ⟨hdd, by show 8 + (M'.2.2.1 + 11) + 60 * d ≤ R.locals; omega⟩, hts _ hM.2.1, hts _ hM.2.2⟩ ⟨zP_blind _ D ty sz h, hrecv, z_pre hO hK hAO⟩ rfl (by rw [List.length_map]) hL.1 rfl hrest hd ⟨by omega, by omega⟩) hO.2.2.2 hcov hcov kkk
theorem x_invS0 {idx k' n' : Nat} {As : List zV} {Q' : zQ} (hd : decode M.2.1 pc = .ok (.invokestatic idx, 3)) (hlk : zLK M idx M') (hM : zMS M' As.length) (hst : zsum st ≤ 8) (hla : zsum As ≤ M'.2.2.1) (hb : zXM D M' d k' n' As ty sz h Q') (kk : ∀ v ty' sz' h', Q' v ty' sz' h' → zX D M (d + 1) k n (pc + 3) L (v.toList ++ st) ty' sz' h' Q) : zX D M (d + 1) (k + k') (n + n') pc L (As.reverse ++ st) ty sz h Q := by
  intro p l e R s m args below meth c H locs ls cells slots mc ms A H0 G S Y hret
  have Y0 := Y
  obtain ⟨hO, hL, hk1, hk2⟩ := Y
  have hts := S.2.2.2.2.2.1
  have hK := S.2.2.2.2.2.2.2.1
  have hAO := S.2.2.2.2.2.2.2.2.2.2.2.2.2.2.2
  have hcov := z_cov hO S.2.2.2.2.2.2.2.2.2.1
  have hdd : d + 1 ≤ R.frames := S.2.2.2.2.2.2.2.2.2.2.1
  have hdl : 60 * (d + 1) ≤ R.locals := S.2.2.2.2.2.2.2.2.2.2.2.1
  have hcc : mc ≤ R.cells := S.2.2.2.2.2.2.2.2.2.2.2.2.1
  have hcs : ms ≤ R.slots := S.2.2.2.2.2.2.2.2.2.2.2.2.2.1
  have hgl := zws_good hM.1
  have h41 := hM.1.2.2.2.2.1
  have hrest : 2 * (F0 m pc ls (st.map zcv)).monitorRoom + ((st.map zcv).map fun v => v.category).sum ≤ 8 := lv_room (by rw [z_sumc]; exact hst)
  have hMet := z_met hb hM.1 hla l
  have fix : CallFix p m c M.2.1 M.2.2.1 s args zTB M.1.cls := ⟨S.1, S.2.1, S.2.2.2.1, S.2.2.2.2.1, hts⟩
  have kkk : ∀ v ty' sz' h' (H1 : Heap) (locs1 : List Loc), Q' v ty' sz' h' → zO D ty' sz' h' H1 locs1 A H0 → W p l e R s m args below meth c H1 locs1 (cells + k') (slots + n') G (F0 m (pc + 3) ls (v.toList.map zcv ++ st.map zcv)) := by
    intro v ty' sz' h' H1 locs1 hq hO1
    have := kk v ty' sz' h' hq p l e R s m args below meth c H1 locs1 ls (cells + k') (slots + n') mc ms A H0 G S ⟨hO1, hL, by omega, by omega⟩ hret
    rw [List.map_append] at this
    exact this
  show W p l e R s m args below meth c H locs cells slots G (F0 m pc ls ((As.reverse ++ st).map zcv))
  rw [List.map_append, List.map_reverse]
  rcases hlk with hlk | ⟨host, hlk⟩
  · exact z_back (va_runS (As := As.map zcv) (rest := st.map zcv) fix hMet ⟨callB_of As.length hts hgl rfl rfl rfl (hts _ hM.1.2.1) (hts _ hlk) ⟨hM.1.2.2.1.1, hM.1.2.2.1.2, hM.1.2.2.2.1⟩ ⟨hdd, by show 8 + (M'.2.2.1 + 11) + 60 * d ≤ R.locals; omega⟩, hts _ hM.2⟩ ⟨zP_blind _ D ty sz h, z_pre hO hK hAO⟩ rfl (by rw [List.length_map]) hL.1 rfl hrest hd ⟨by omega, by omega⟩) hO.2.2.2 hcov hcov kkk
  · exact z_back (va_runSN (host := host) (As := As.map zcv) (rest := st.map zcv) fix hMet ⟨va_cnB As.length hts hgl rfl rfl rfl (hAO.2.2.2 _ hlk) (hts _ hM.1.2.1) ⟨hM.1.2.2.1.1, hM.1.2.2.1.2, hM.1.2.2.2.1⟩ ⟨hdd, by show 8 + (M'.2.2.1 + 11) + 60 * d ≤ R.locals; omega⟩, hts _ hM.2, trivial⟩ ⟨zP_blind _ D ty sz h, z_pre hO hK hAO⟩ rfl (by rw [List.length_map]) hL.1 rfl hrest hd ⟨by omega, by omega⟩) hO.2.2.2 hcov hcov kkk
theorem x_invI0 {idx k' n' : Nat} {r : Int} {As : List zV} {Q' : zQ} (hd : decode M.2.1 pc = .ok (.invokespecial idx, 3)) (hlk : zLK M idx M') (hM : zMI M' As.length) (h0 : 0 ≤ r) (hst : zsum st ≤ 8) (hla : zsum (rV r :: As) ≤ M'.2.2.1) (hb : zXM D M' d k' n' (rV r :: As) ty sz h Q') (kk : ∀ v ty' sz' h', Q' v ty' sz' h' → zX D M (d + 1) k n (pc + 3) L (v.toList ++ st) ty' sz' h' Q) : zX D M (d + 1) (k + k') (n + n') pc L (As.reverse ++ rV r :: st) ty sz h Q := by
  intro p l e R s m args below meth c H locs ls cells slots mc ms A H0 G S Y hret
  have Y0 := Y
  obtain ⟨hO, hL, hk1, hk2⟩ := Y
  have hts := S.2.2.2.2.2.1
  have hK := S.2.2.2.2.2.2.2.1
  have hAO := S.2.2.2.2.2.2.2.2.2.2.2.2.2.2.2
  have hcov := z_cov hO S.2.2.2.2.2.2.2.2.2.1
  have hdd : d + 1 ≤ R.frames := S.2.2.2.2.2.2.2.2.2.2.1
  have hdl : 60 * (d + 1) ≤ R.locals := S.2.2.2.2.2.2.2.2.2.2.2.1
  have hcc : mc ≤ R.cells := S.2.2.2.2.2.2.2.2.2.2.2.2.1
  have hcs : ms ≤ R.slots := S.2.2.2.2.2.2.2.2.2.2.2.2.2.1
  have hgl := zws_good hM.1
  have h41 := hM.1.2.2.2.2.1
  have hrest : 2 * (F0 m pc ls (st.map zcv)).monitorRoom + ((st.map zcv).map fun v => v.category).sum ≤ 8 := lv_room (by rw [z_sumc]; exact hst)
  have hMet := z_met hb hM.1 hla l
  have fix : CallFix p m c M.2.1 M.2.2.1 s args zTB M.1.cls := ⟨S.1, S.2.1, S.2.2.2.1, S.2.2.2.2.1, hts⟩
  have kkk : ∀ v ty' sz' h' (H1 : Heap) (locs1 : List Loc), Q' v ty' sz' h' → zO D ty' sz' h' H1 locs1 A H0 → W p l e R s m args below meth c H1 locs1 (cells + k') (slots + n') G (F0 m (pc + 3) ls (v.toList.map zcv ++ st.map zcv)) := by
    intro v ty' sz' h' H1 locs1 hq hO1
    have := kk v ty' sz' h' hq p l e R s m args below meth c H1 locs1 ls (cells + k') (slots + n') mc ms A H0 G S ⟨hO1, hL, by omega, by omega⟩ hret
    rw [List.map_append] at this
    exact this
  show W p l e R s m args below meth c H locs cells slots G (F0 m pc ls ((As.reverse ++ rV r :: st).map zcv))
  rw [List.map_append, List.map_cons, List.map_reverse, zcv_r h0]
  have hMet2 : Met l M'.1 (zws M') (zrm d k' n') (va_Pc (Value.ref r.toNat :: As.map zcv) (zP D ty sz h)) (zQc D Q' (zA ty sz)) k' n' (zA ty sz) := by
    rw [← zcv_r h0]; exact hMet
  obtain ⟨hMT, hMi, hMn, hMr⟩ := hM
  rcases hlk with hlk | ⟨host, hlk⟩
  · exact z_back (va_runI (As := As.map zcv) (rest := st.map zcv) fix hMet2 ⟨callB_of (ret := none) As.length hts hgl (by unfold zws; rw [hMr]) rfl rfl (hts _ hMT.2.1) (hts _ hlk) ⟨hMT.2.2.1.1, hMT.2.2.1.2, hMT.2.2.2.1⟩ ⟨hdd, by show 8 + (M'.2.2.1 + 11) + 60 * d ≤ R.locals; omega⟩, hMn, hts _ hMi⟩ ⟨zP_blind _ D ty sz h, z_pre hO hK hAO⟩ rfl (by rw [List.length_map]) hL.1 rfl hrest hd ⟨by omega, by omega⟩) hO.2.2.2 hcov hcov kkk
  · exact z_back (va_runIN (host := host) (As := As.map zcv) (rest := st.map zcv) fix hMet2 ⟨va_cnB (ret := none) As.length hts hgl (by unfold zws; rw [hMr]) rfl rfl (hAO.2.2.2 _ hlk) (hts _ hMT.2.1) ⟨hMT.2.2.1.1, hMT.2.2.1.2, hMT.2.2.2.1⟩ ⟨hdd, by show 8 + (M'.2.2.1 + 11) + 60 * d ≤ R.locals; omega⟩, hMn, hts _ hMi⟩ ⟨zP_blind _ D ty sz h, z_pre hO hK hAO⟩ rfl (by rw [List.length_map]) hL.1 rfl hrest hd ⟨by omega, by omega⟩) hO.2.2.2 hcov hcov kkk
theorem x_objInit {idx : Nat} {r : Int} (hd : decode M.2.1 pc = .ok (.invokespecial idx, 3)) (hlk : Cond.methodLink M.1.cls idx objectInit ∈ zTB) (hin : Cond.instanceMethod objectInit ∈ zTB) (hco : Cond.code objectInit ⟨#[0xb1]⟩ 1 none ∈ zTB) (h0 : 0 ≤ r) (hst : zsum st ≤ 8) (kk : zX D M (d + 1) k n (pc + 3) L st ty sz h Q) : zX D M (d + 1) k n pc L (rV r :: st) ty sz h Q := by
  intro p l e R s m args below meth c H locs ls cells slots mc ms A H0 G S Y hret
  have K := kk p l e R s m args below meth c H locs ls cells slots mc ms A H0 G S Y hret
  have hts := S.2.2.2.2.2.1
  have hdd : d + 1 ≤ R.frames := S.2.2.2.2.2.2.2.2.2.2.1
  have hdl : 60 * (d + 1) ≤ R.locals := S.2.2.2.2.2.2.2.2.2.2.2.1
  show W p l e R s m args below meth c H locs cells slots G (F0 m pc ls (zcv (rV r) :: st.map zcv))
  rw [zcv_r h0]
  refine W.objInit S.1 S.2.1 S.2.2.2.2.1 (hts _ hlk) (hts _ hin) (hts _ hco) rfl (by rw [S.2.2.2.1]; exact Y.2.1.1) rfl hd (by omega) ?_ K
  show 2 * 0 + ((st.map zcv).map fun v => v.category).sum + 12 ≤ R.locals
  rw [z_sumc]
  omega
end ZCALL
