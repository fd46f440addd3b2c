/-! A small machine over whole numbers: values are numbers with a tag, the heap is a function (address, place) -> number, 'ty' says what a cell is. zX: from here the method comes to an end at which Q holds of answer, cells and heap. -/
abbrev zV := Int ⊕ (Int ⊕ Int)
abbrev iV (z : Int) : zV := .inl z
abbrev lV (z : Int) : zV := .inr (.inl z)
abbrev rV (z : Int) : zV := .inr (.inr z)
def zrf (z : Int) : Option Nat := if z < 0 then none else some z.toNat
def zcv : zV → Value
  | .inl z => .int (Int32.ofInt z)
  | .inr (.inl z) => .long (Int64.ofInt z)
  | .inr (.inr z) => va_rf (zrf z)
def zct (t : Nat) (z : Int) : Value := match t with
  | 0 => .int (Int32.ofInt z)
  | 1 => .long (Int64.ofInt z)
  | _ => va_rf (zrf z)
def zcat : zV → Nat
  | .inr (.inl _) => 2
  | _ => 1
def zC : List vw_C := [(RX0, TX0, 5), (RX1, TX1, 1), (RX2, TX2, 6), (RX3, TX3, 15), (RX4, TX4, 2), (RX5, TX5, 7), (RX6, TX6, 8), (RX7, TX7, 31)]
def zty (ci k : Nat) : FieldType := match ci with
  | 0 => tyX0 k
  | 1 => tyX1 k
  | 2 => tyX2 k
  | 3 => tyX3 k
  | 4 => tyX4 k
  | 5 => tyX5 k
  | 6 => tyX6 k
  | _ => tyX7 k
def ztg (t : FieldType) : Nat := match t with
  | .int => 0
  | .boolean => 0
  | .long => 1
  | _ => 2
def zat (k : Nat) : Nat := match k with
  | 8 => 0
  | 9 => 1
  | 10 => 0
  | _ => 2
abbrev zF := Int → Option Int
abbrev zn : zF := fun _ => none
abbrev zT := Int → Option (Nat × Nat × zF)
abbrev zH := Int → Int → Int
def zcell0 (D : va_G) (k n : Nat) (f : Int → Int) (a : Nat) (H : Heap) : Prop :=
  (k < 8 ∧ ∃ r : vw_C, zC[k]? = some r ∧ n = r.2.2 ∧ t_OB a (D.1 k) n (D.2 k) H (fun i => zct (ztg (zty k i)) (f i))) ∨ (8 ≤ k ∧ k < 14 ∧ n < 2 ^ 31 ∧ H[a]? = some (arrV (D.1 k) n (fun j => zct (zat k) (f j))))
/-- what never changes again (final fields, filled rows of references) stands in the cell's own table z -/
abbrev i32 (x : Int) : Prop := -2147483648 ≤ x ∧ x ≤ 2147483647
abbrev i64 (x : Int) : Prop := -9223372036854775808 ≤ x ∧ x ≤ 9223372036854775807
def ztagc (k i : Nat) : Nat := if k < 8 then ztg (zty k i) else zat k
def zrng (t : Nat) (z : Int) : Prop := (t = 0 → i32 z) ∧ (t = 1 → i64 z)
def zcell (D : va_G) (k n : Nat) (z : zF) (f : Int → Int) (a : Nat) (H : Heap) : Prop := zcell0 D k n f a H ∧ (∀ i v, z i = some v → f i = v) ∧ ∀ i : Nat, i < n → zrng (ztagc k i) (f i)
def zW (D : va_G) (ty : zT) (h : zH) (H : Heap) : Prop := ∀ (a : Int) (k n : Nat) (z : zF), ty a = some (k, n, z) → 0 ≤ a ∧ zcell D k n z (h a) a.toNat H
def ztys (D : va_G) : List (ClassId × FieldType) := [(D.1 8, .int), (D.1 9, .long), (D.1 10, .boolean), (D.1 11, .object RX2), (D.1 12, .object RX1), (D.1 13, .object RX3)]
abbrev zM := MethodName × ByteArray × Nat × Option FieldType × Option (Nat × Nat × (Nat → Int32))
def zTB : List Cond := lw_tbl.filter goodWord
abbrev zQ := Option zV → zT → Nat → zH → Prop
def zloc (L : List (Nat × zV)) : List (Nat × Value) := L.map (fun q => (q.1, zcv q.2))
def zisN : Cond → Bool
  | .methodLinkNest _ _ _ _ => true
  | _ => false
/-- links of nest mates: kept, but not by the kit's test of words -/
def zNL : List Cond := lw_tbl.filter zisN
def zAO (s : State) : Prop := va_AO RX2 s ∧ va_AO RX1 s ∧ va_AO RX3 s ∧ ∀ w ∈ zNL, va_Nw w s
/-- at the law's own frame alone: the launch, its start, and that nothing of its world is older -/
def zEx (l : Launch) (s : State) (args : Array Value) (A : Nat → Prop) (H0 : Heap) : Prop := l.stackTraces = false ∧ H0 = s.heap ∧ (∀ a : Nat, a < s.heap.size → ¬ A a) ∧ (∀ w ∈ lw_tbl, w.before args s = true) ∧ (Jvm.Cond.and given_1 narrow_1).before args s = true
def zS (D : va_G) (M : zM) (d : Nat) (p : Program) (l : Launch) (R : Room) (s : State) (m : MethodId) (args : Array Value) (meth : Method) (c : Code) (A : Nat → Prop) (H0 : Heap) (mc ms : Nat) : Prop :=
  p.tables.exec = Jvm.exec ∧ c.code = M.2.1 ∧ meth.sig.returnType = M.2.2.2.1 ∧ c.maxLocals = M.2.2.1 ∧ s.vm.findClass M.1.cls = some m.cls ∧ (∀ w ∈ zTB, w.before args s = true) ∧ meth.locks = false ∧ va_K D zC (ztys D) s ∧ meth.name = M.1.name ∧ (∀ q, H0.size ≤ q → A q) ∧ d ≤ R.frames ∧ 60 * d ≤ R.locals ∧ mc ≤ R.cells ∧ ms ≤ R.slots ∧ (∀ b L xs, M.2.2.2.2 = some (b, L, xs) → va_X b L xs s H0 ∧ b < H0.size ∧ ¬ A b ∧ zEx l s args A H0) ∧ zAO s
def zO (D : va_G) (ty : zT) (sz : Nat) (h : zH) (H : Heap) (locs : List Loc) (A : Nat → Prop) (H0 : Heap) : Prop :=
  zW D ty h H ∧ H.size = sz ∧ (∀ a q, ty a = some q → A a.toNat) ∧ va_S A H0 H locs
def zY (D : va_G) (M : zM) (k n : Nat) (L : List (Nat × zV)) (ty : zT) (sz : Nat) (h : zH) (H : Heap) (locs : List Loc) (ls : Array Slot) (cells slots : Nat) (A : Nat → Prop) (H0 : Heap) (mc ms : Nat) : Prop :=
  zO D ty sz h H locs A H0 ∧ lv_has ls M.2.2.1 (zloc L) ∧ cells + k ≤ mc ∧ slots + n ≤ ms
def zRet (M : zM) (pc : Nat) (v : Option zV) : Prop := match v with
  | none => decode M.2.1 pc = .ok (.return_, 1) ∧ M.2.2.2.1 = none
  | some (.inl z) => decode M.2.1 pc = .ok (.ireturn, 1) ∧ (M.2.2.2.1 = some .int ∨ (M.2.2.2.1 = some .boolean ∧ (z = 0 ∨ z = 1)))
  | some (.inr (.inl _)) => decode M.2.1 pc = .ok (.lreturn, 1) ∧ M.2.2.2.1 = some .long
  | some (.inr (.inr _)) => decode M.2.1 pc = .ok (.areturn, 1) ∧ ∃ C, M.2.2.2.1 = some (.object C)
def zX (D : va_G) (M : zM) (d k n pc : Nat) (L : List (Nat × zV)) (st : List zV) (ty : zT) (sz : Nat) (h : zH) (Q : zQ) : Prop :=
  ∀ (p : Program) (l : Launch) (e : Env) (R : Room) (s : State) (m : MethodId) (args : Array Value) (below : List Frame) (meth : Method) (c : Code) (H : Heap) (locs : List Loc) (ls : Array Slot) (cells slots mc ms : Nat) (A : Nat → Prop) (H0 : Heap) (G : State → Prop),
    zS D M d p l R s m args meth c A H0 mc ms → zY D M k n L ty sz h H locs ls cells slots A H0 mc ms →
    (∀ v ty' sz' h' H' locs' ls' pc', Q v ty' sz' h' → zO D ty' sz' h' H' locs' A H0 → zRet M pc' v → W p l e R s m args below meth c H' locs' mc ms G (F0 m pc' ls' (v.toList.map zcv))) →
    W p l e R s m args below meth c H locs cells slots G (F0 m pc ls (st.map zcv))
def zlk (i : Nat) : List (Nat × zV) → Option zV
  | [] => none
  | q :: r => cond (Nat.beq q.1 i) (some q.2) (zlk i r)
theorem zlk_mem {i : Nat} {v : zV} : ∀ {L : List (Nat × zV)}, zlk i L = some v → (i, v) ∈ L
  | [], h => by simp [zlk] at h
  | (j, u) :: r, h => by
    unfold zlk at h
    cases hb : Nat.beq j i with
    | true =>
      rw [hb] at h
      have e : j = i := Nat.eq_of_beq_eq_true hb
      subst e
      cases h
      exact List.mem_cons_self
    | false =>
      rw [hb] at h
      exact List.mem_cons_of_mem _ (zlk_mem h)
theorem zlk_at {M : zM} {L : List (Nat × zV)} {ls : Array Slot} {i : Nat} {v : zV} (h : lv_has ls M.2.2.1 (zloc L)) (hl : zlk i L = some v) : ls[i]? = some (.val (zcv v)) :=
  h.2.2 (i, zcv v) (List.mem_map.mpr ⟨(i, v), zlk_mem hl, rfl⟩)
theorem zcat_cv (v : zV) : (zcv v).category = zcat v := by
  rcases v with z | z | z
  · rfl
  · rfl
  · show (va_rf (zrf z)).category = 1
    cases zrf z <;> rfl
/-- new locals behind a store of a short value, of a long one -/
def zst1 (i : Nat) (v : zV) (L : List (Nat × zV)) : List (Nat × zV) := (i, v) :: L.filter (fun q => !(q.1 == i) && !(q.1 + 1 == i && zcat q.2 == 2))
def zst2 (i : Nat) (v : zV) (L : List (Nat × zV)) : List (Nat × zV) := (i, v) :: L.filter (fun q => !(q.1 == i) && (!(q.1 == i + 1) && !(q.1 + 1 == i && zcat q.2 == 2)))
theorem zst1_loc (i : Nat) (v : zV) (L : List (Nat × zV)) : (i, zcv v) :: (zloc L).filter (fun q => !(q.1 == i) && !(q.1 + 1 == i && q.2.category == 2)) = zloc (zst1 i v L) := by
  unfold zst1 zloc
  rw [List.map_cons, List.filter_map]
  refine congrArg (fun f => (i, zcv v) :: List.map (fun q : Nat × zV => (q.1, zcv q.2)) (List.filter f L)) ?_
  funext q
  simp [Function.comp, zcat_cv]
theorem zst2_loc (i : Nat) (v : zV) (L : List (Nat × zV)) : (i, zcv v) :: (zloc L).filter (fun q => !(q.1 == i) && (!(q.1 == i + 1) && !(q.1 + 1 == i && q.2.category == 2))) = zloc (zst2 i v L) := by
  unfold zst2 zloc
  rw [List.map_cons, List.filter_map]
  refine congrArg (fun f => (i, zcv v) :: List.map (fun q : Nat × zV => (q.1, zcv q.2)) (List.filter f L)) ?_
  funext q
  simp [Function.comp, zcat_cv]
def w32 (z : Int) : Int := (Int32.ofInt z).toInt
def w64 (z : Int) : Int := (Int64.ofInt z).toInt
theorem w32_id {z : Int} (h1 : -2147483648 ≤ z) (h2 : z < 2147483648) : w32 z = z := Int32.toInt_ofInt_of_le h1 h2
theorem w64_id {z : Int} (h1 : -9223372036854775808 ≤ z) (h2 : z < 9223372036854775808) : w64 z = z := Int64.toInt_ofInt_of_le h1 h2
theorem w32_of (z : Int) : Int32.ofInt (w32 z) = Int32.ofInt z := Int32.ofInt_toInt _
theorem w64_of (z : Int) : Int64.ofInt (w64 z) = Int64.ofInt z := Int64.ofInt_toInt _
theorem w32_rng (z : Int) : -2147483648 ≤ w32 z ∧ w32 z < 2147483648 := ⟨Int32.le_toInt _, Int32.toInt_lt _⟩
theorem w64_rng (z : Int) : -9223372036854775808 ≤ w64 z ∧ w64 z < 9223372036854775808 := ⟨Int64.le_toInt _, Int64.toInt_lt _⟩
theorem z_eq (a b : Int) : Int32.ofInt a = Int32.ofInt b ↔ w32 a = w32 b := Int32.toInt_inj.symm
theorem z_lt (a b : Int) : Int32.ofInt a < Int32.ofInt b ↔ w32 a < w32 b := Int32.lt_iff_toInt_lt
theorem z_le (a b : Int) : Int32.ofInt a ≤ Int32.ofInt b ↔ w32 a ≤ w32 b := Int32.le_iff_toInt_le
theorem z_eqL (a b : Int) : Int64.ofInt a = Int64.ofInt b ↔ w64 a = w64 b := Int64.toInt_inj.symm
theorem z_ltL (a b : Int) : Int64.ofInt a < Int64.ofInt b ↔ w64 a < w64 b := Int64.lt_iff_toInt_lt
def zand (a b : Int) : Int := (Int32.ofInt a &&& Int32.ofInt b).toInt
def zor (a b : Int) : Int := (Int32.ofInt a ||| Int32.ofInt b).toInt
def zshl (a b : Int) : Int := (Int32.ofInt a <<< (Int32.ofInt b &&& 31)).toInt
def zushr (a b : Int) : Int := ((Int32.ofInt a).toUInt32 >>> ((Int32.ofInt b).toUInt32 &&& Int32.toUInt32 31)).toInt32.toInt
def zandL (a b : Int) : Int := (Int64.ofInt a &&& Int64.ofInt b).toInt
def zorL (a b : Int) : Int := (Int64.ofInt a ||| Int64.ofInt b).toInt
def zshlL (a b : Int) : Int := (Int64.ofInt a <<< ((Int32.ofInt b).toInt64 &&& 63)).toInt
def zup (h : zH) (a k v : Int) : zH := fun a' k' => if a' = a ∧ k' = k then v else h a' k'
def znew (ty : zT) (a : Int) (k n : Nat) : zT := fun a' => if a' = a then some (k, n, zn) else ty a'
def zrow (h : zH) (a : Int) (f : Int → Int) : zH := fun a' k' => if a' = a then f k' else h a' k'
section ZX
variable {D : va_G} {M : zM} {d k n pc : Nat} {L : List (Nat × zV)} {st : List zV} {ty : zT} {sz : Nat} {h : zH} {Q : zQ}

theorem x_iconst {i : Int} (hd : decode M.2.1 pc = .ok (.iconst i, 1)) (kk : zX D M d k n (pc + 1) L (iV i :: st) ty sz h Q) : zX D M d k n pc L (st) ty sz h Q := by
  intro p l e R s m args below meth c H locs ls cells slots mc ms A H0 G S Y hret
  have K := kk p l e R s m args below meth c H locs ls cells slots mc ms A H0 G S Y hret
  exact lv_iconst S.1 S.2.1 hd rfl K
theorem x_bipush {i : Int} (hd : decode M.2.1 pc = .ok (.bipush i, 2)) (hv : (Int8.ofInt i).toInt32 = Int32.ofInt i := by rfl) (kk : zX D M d k n (pc + 2) L (iV i :: st) ty sz h Q) : zX D M d k n pc L (st) ty sz h Q := by
  intro p l e R s m args below meth c H locs ls cells slots mc ms A H0 G S Y hret
  have K := kk p l e R s m args below meth c H locs ls cells slots mc ms A H0 G S Y hret
  exact lv_bipush S.1 S.2.1 hd hv K
theorem x_sipush {i : Int} (hd : decode M.2.1 pc = .ok (.sipush i, 3)) (hv : (Int16.ofInt i).toInt32 = Int32.ofInt i := by rfl) (kk : zX D M d k n (pc + 3) L (iV i :: st) ty sz h Q) : zX D M d k n pc L (st) ty sz h Q := by
  intro p l e R s m args below meth c H locs ls cells slots mc ms A H0 G S Y hret
  have K := kk p l e R s m args below meth c H locs ls cells slots mc ms A H0 G S Y hret
  exact lv_sipush S.1 S.2.1 hd hv K
theorem x_lconst {i : Fin 2} (hd : decode M.2.1 pc = .ok (.lconst i, 1)) (z : Int) (hv : Int64.ofNat (i : Nat) = Int64.ofInt z := by rfl) (kk : zX D M d k n (pc + 1) L (lV z :: st) ty sz h Q) : zX D M d k n pc L (st) ty sz h Q := by
  intro p l e R s m args below meth c H locs ls cells slots mc ms A H0 G S Y hret
  have K := kk p l e R s m args below meth c H locs ls cells slots mc ms A H0 G S Y hret
  exact lv_lconst S.1 S.2.1 hd hv K
theorem x_ldc {i : Nat} (hd : decode M.2.1 pc = .ok (.ldc i, 2)) (z : Int) {v : Int32} (hw : Cond.constant M.1.cls i v ∈ zTB) (hv : v = Int32.ofInt z := by rfl) (kk : zX D M d k n (pc + 2) L (iV z :: st) ty sz h Q) : zX D M d k n pc L (st) ty sz h Q := by
  intro p l e R s m args below meth c H locs ls cells slots mc ms A H0 G S Y hret
  have K := kk p l e R s m args below meth c H locs ls cells slots mc ms A H0 G S Y hret
  subst hv
  exact lv_ldc S.1 S.2.1 S.2.2.2.2.1 (S.2.2.2.2.2.1 _ hw) hd K
theorem x_ldc2 {i : Nat} (hd : decode M.2.1 pc = .ok (.ldc2_w i, 3)) (z : Int) {v : Int64} (hw : Cond.constantLong M.1.cls i v ∈ zTB) (hv : v = Int64.ofInt z := by rfl) (kk : zX D M d k n (pc + 3) L (lV z :: st) ty sz h Q) : zX D M d k n pc L (st) ty sz h Q := by
  intro p l e R s m args below meth c H locs ls cells slots mc ms A H0 G S Y hret
  have K := kk p l e R s m args below meth c H locs ls cells slots mc ms A H0 G S Y hret
  subst hv
  exact lv_ldc2 S.1 S.2.1 S.2.2.2.2.1 (S.2.2.2.2.2.1 _ hw) hd K
theorem x_null (hd : decode M.2.1 pc = .ok (.aconst_null, 1)) (kk : zX D M d k n (pc + 1) L (rV (-1) :: st) ty sz h Q) : zX D M d k n pc L (st) ty sz h Q := by
  intro p l e R s m args below meth c H locs ls cells slots mc ms A H0 G S Y hret
  have K := kk p l e R s m args below meth c H locs ls cells slots mc ms A H0 G S Y hret
  exact lv_null S.1 S.2.1 hd K
theorem x_iload_n {q : Fin 4} {z : Int} (hd : decode M.2.1 pc = .ok (.iload_n q, 1)) (hl : zlk (q : Nat) L = some (iV z)) (kk : zX D M d k n (pc + 1) L (iV z :: st) ty sz h Q) : zX D M d k n pc L (st) ty sz h Q := by
  intro p l e R s m args below meth c H locs ls cells slots mc ms A H0 G S Y hret
  have K := kk p l e R s m args below meth c H locs ls cells slots mc ms A H0 G S Y hret
  exact lv_iload_n S.1 S.2.1 hd rfl (zlk_at Y.2.1 hl) K
theorem x_iload {q : Nat} {z : Int} (hd : decode M.2.1 pc = .ok (.iload q, 2)) (hl : zlk q L = some (iV z)) (kk : zX D M d k n (pc + 2) L (iV z :: st) ty sz h Q) : zX D M d k n pc L (st) ty sz h Q := by
  intro p l e R s m args below meth c H locs ls cells slots mc ms A H0 G S Y hret
  have K := kk p l e R s m args below meth c H locs ls cells slots mc ms A H0 G S Y hret
  exact lv_iload S.1 S.2.1 hd (zlk_at Y.2.1 hl) K
theorem x_lload_n {q : Fin 4} {z : Int} (hd : decode M.2.1 pc = .ok (.lload_n q, 1)) (hl : zlk (q : Nat) L = some (lV z)) (kk : zX D M d k n (pc + 1) L (lV z :: st) ty sz h Q) : zX D M d k n pc L (st) ty sz h Q := by
  intro p l e R s m args below meth c H locs ls cells slots mc ms A H0 G S Y hret
  have K := kk p l e R s m args below meth c H locs ls cells slots mc ms A H0 G S Y hret
  exact lv_lload_n S.1 S.2.1 hd rfl (zlk_at Y.2.1 hl) K
theorem x_lload {q : Nat} {z : Int} (hd : decode M.2.1 pc = .ok (.lload q, 2)) (hl : zlk q L = some (lV z)) (kk : zX D M d k n (pc + 2) L (lV z :: st) ty sz h Q) : zX D M d k n pc L (st) ty sz h Q := by
  intro p l e R s m args below meth c H locs ls cells slots mc ms A H0 G S Y hret
  have K := kk p l e R s m args below meth c H locs ls cells slots mc ms A H0 G S Y hret
  exact lv_lload S.1 S.2.1 hd (zlk_at Y.2.1 hl) K
theorem x_aload_n {q : Fin 4} {z : Int} (hd : decode M.2.1 pc = .ok (.aload_n q, 1)) (hl : zlk (q : Nat) L = some (rV z)) (kk : zX D M d k n (pc + 1) L (rV z :: st) ty sz h Q) : zX D M d k n pc L (st) ty sz h Q := by
  intro p l e R s m args below meth c H locs ls cells slots mc ms A H0 G S Y hret
  have K := kk p l e R s m args below meth c H locs ls cells slots mc ms A H0 G S Y hret
  have hq := zlk_at Y.2.1 hl
  change W p l e R s m args below meth c H locs cells slots G (F0 m (pc + 1) ls (va_rf (zrf z) :: st.map zcv)) at K
  change ls[(q : Nat)]? = some (.val (va_rf (zrf z))) at hq
  cases hz : zrf z with
  | none => rw [hz] at hq K; exact lv_aload_nN S.1 S.2.1 hd rfl hq K
  | some b => rw [hz] at hq K; exact lv_aload_n S.1 S.2.1 hd rfl hq K
theorem x_aload {q : Nat} {z : Int} (hd : decode M.2.1 pc = .ok (.aload q, 2)) (hl : zlk q L = some (rV z)) (kk : zX D M d k n (pc + 2) L (rV z :: st) ty sz h Q) : zX D M d k n pc L (st) ty sz h Q := by
  intro p l e R s m args below meth c H locs ls cells slots mc ms A H0 G S Y hret
  have K := kk p l e R s m args below meth c H locs ls cells slots mc ms A H0 G S Y hret
  have hq := zlk_at Y.2.1 hl
  change W p l e R s m args below meth c H locs cells slots G (F0 m (pc + 2) ls (va_rf (zrf z) :: st.map zcv)) at K
  change ls[q]? = some (.val (va_rf (zrf z))) at hq
  cases hz : zrf z with
  | none => rw [hz] at hq K; exact lv_aloadN S.1 S.2.1 hd hq K
  | some b => rw [hz] at hq K; exact lv_aload S.1 S.2.1 hd hq K
theorem x_istore_n {q : Fin 4} {z : Int} (hd : decode M.2.1 pc = .ok (.istore_n q, 1)) (hn : (q : Nat) < M.2.2.1 := by decide) (kk : zX D M d k n (pc + 1) (zst1 (q : Nat) (iV z) L) st ty sz h Q) : zX D M d k n pc L (iV z :: st) ty sz h Q := by
  intro p l e R s m args below meth c H locs ls cells slots mc ms A H0 G S Y hret
  exact lv_istore_n S.1 S.2.1 hd rfl Y.2.1 hn (zst1_loc (q : Nat) (iV z) L) (fun ls' hl' => kk p l e R s m args below meth c H locs ls' cells slots mc ms A H0 G S ⟨Y.1, hl', Y.2.2⟩ hret)
theorem x_istore {q : Nat} {z : Int} (hd : decode M.2.1 pc = .ok (.istore q, 2)) (hn : q < M.2.2.1 := by decide) (kk : zX D M d k n (pc + 2) (zst1 q (iV z) L) st ty sz h Q) : zX D M d k n pc L (iV z :: st) ty sz h Q := by
  intro p l e R s m args below meth c H locs ls cells slots mc ms A H0 G S Y hret
  exact lv_istore S.1 S.2.1 hd Y.2.1 hn (zst1_loc q (iV z) L) (fun ls' hl' => kk p l e R s m args below meth c H locs ls' cells slots mc ms A H0 G S ⟨Y.1, hl', Y.2.2⟩ hret)
theorem x_lstore_n {q : Fin 4} {z : Int} (hd : decode M.2.1 pc = .ok (.lstore_n q, 1)) (hn : (q : Nat) + 1 < M.2.2.1 := by decide) (kk : zX D M d k n (pc + 1) (zst2 (q : Nat) (lV z) L) st ty sz h Q) : zX D M d k n pc L (lV z :: st) ty sz h Q := by
  intro p l e R s m args below meth c H locs ls cells slots mc ms A H0 G S Y hret
  exact lv_lstore_n S.1 S.2.1 hd rfl Y.2.1 hn (zst2_loc (q : Nat) (lV z) L) (fun ls' hl' => kk p l e R s m args below meth c H locs ls' cells slots mc ms A H0 G S ⟨Y.1, hl', Y.2.2⟩ hret)
theorem x_lstore {q : Nat} {z : Int} (hd : decode M.2.1 pc = .ok (.lstore q, 2)) (hn : q + 1 < M.2.2.1 := by decide) (kk : zX D M d k n (pc + 2) (zst2 q (lV z) L) st ty sz h Q) : zX D M d k n pc L (lV z :: st) ty sz h Q := by
  intro p l e R s m args below meth c H locs ls cells slots mc ms A H0 G S Y hret
  exact lv_lstore S.1 S.2.1 hd Y.2.1 hn (zst2_loc q (lV z) L) (fun ls' hl' => kk p l e R s m args below meth c H locs ls' cells slots mc ms A H0 G S ⟨Y.1, hl', Y.2.2⟩ hret)
theorem x_astore_n {q : Fin 4} {z : Int} (hd : decode M.2.1 pc = .ok (.astore_n q, 1)) (hn : (q : Nat) < M.2.2.1 := by decide) (kk : zX D M d k n (pc + 1) (zst1 (q : Nat) (rV z) L) st ty sz h Q) : zX D M d k n pc L (rV z :: st) ty sz h Q := by
  intro p l e R s m args below meth c H locs ls cells slots mc ms A H0 G S Y hret
  have ez := zst1_loc (q : Nat) (rV z) L
  change W p l e R s m args below meth c H locs cells slots G (F0 m pc ls (va_rf (zrf z) :: st.map zcv))
  change ((q : Nat), va_rf (zrf z)) :: _ = _ at ez
  cases hz : zrf z with
  | none => rw [hz] at ez; exact lv_astore_nN S.1 S.2.1 hd rfl Y.2.1 hn ez (fun ls' hl' => kk p l e R s m args below meth c H locs ls' cells slots mc ms A H0 G S ⟨Y.1, hl', Y.2.2⟩ hret)
  | some b => rw [hz] at ez; exact lv_astore_n S.1 S.2.1 hd rfl Y.2.1 hn ez (fun ls' hl' => kk p l e R s m args below meth c H locs ls' cells slots mc ms A H0 G S ⟨Y.1, hl', Y.2.2⟩ hret)
theorem x_astore {q : Nat} {z : Int} (hd : decode M.2.1 pc = .ok (.astore q, 2)) (hn : q < M.2.2.1 := by decide) (kk : zX D M d k n (pc + 2) (zst1 q (rV z) L) st ty sz h Q) : zX D M d k n pc L (rV z :: st) ty sz h Q := by
  intro p l e R s m args below meth c H locs ls cells slots mc ms A H0 G S Y hret
  have ez := zst1_loc q (rV z) L
  change W p l e R s m args below meth c H locs cells slots G (F0 m pc ls (va_rf (zrf z) :: st.map zcv))
  change (q, va_rf (zrf z)) :: _ = _ at ez
  cases hz : zrf z with
  | none => rw [hz] at ez; exact lv_astoreN S.1 S.2.1 hd Y.2.1 hn ez (fun ls' hl' => kk p l e R s m args below meth c H locs ls' cells slots mc ms A H0 G S ⟨Y.1, hl', Y.2.2⟩ hret)
  | some b => rw [hz] at ez; exact lv_astore S.1 S.2.1 hd Y.2.1 hn ez (fun ls' hl' => kk p l e R s m args below meth c H locs ls' cells slots mc ms A H0 G S ⟨Y.1, hl', Y.2.2⟩ hret)
theorem x_iinc {q : Nat} {i z : Int} (hd : decode M.2.1 pc = .ok (.iinc q i, 3)) (hl : zlk q L = some (iV z)) (hn : q < M.2.2.1 := by decide) (kk : zX D M d k n (pc + 3) (zst1 q (iV (z + i)) L) st ty sz h Q) : zX D M d k n pc L (st) ty sz h Q := by
  intro p l e R s m args below meth c H locs ls cells slots mc ms A H0 G S Y hret
  obtain ⟨j, hj⟩ := List.getElem?_of_mem (List.mem_map.mpr ⟨(q, iV z), zlk_mem hl, rfl⟩ : (q, zcv (iV z)) ∈ zloc L)
  exact lv_iinc (x := Int32.ofInt z) (v := Int32.ofInt (z + i)) S.1 S.2.1 hd Y.2.1 hj (Int32.ofInt_add z i).symm hn (zst1_loc q (iV (z + i)) L) (fun ls' hl' => kk p l e R s m args below meth c H locs ls' cells slots mc ms A H0 G S ⟨Y.1, hl', Y.2.2⟩ hret)
theorem x_iadd {a b : Int} (hd : decode M.2.1 pc = .ok (.iadd, 1)) (kk : zX D M d k n (pc + 1) L (iV (a + b) :: st) ty sz h Q) : zX D M d k n pc L (iV b :: iV a :: st) ty sz h Q := by
  intro p l e R s m args below meth c H locs ls cells slots mc ms A H0 G S Y hret
  have K := kk p l e R s m args below meth c H locs ls cells slots mc ms A H0 G S Y hret
  refine lv_iadd (x := Int32.ofInt a) (y := Int32.ofInt b) S.1 S.2.1 hd ?_
  rw [← Int32.ofInt_add]
  exact K
theorem x_isub {a b : Int} (hd : decode M.2.1 pc = .ok (.isub, 1)) (kk : zX D M d k n (pc + 1) L (iV (a - b) :: st) ty sz h Q) : zX D M d k n pc L (iV b :: iV a :: st) ty sz h Q := by
  intro p l e R s m args below meth c H locs ls cells slots mc ms A H0 G S Y hret
  have K := kk p l e R s m args below meth c H locs ls cells slots mc ms A H0 G S Y hret
  refine lv_isub (x := Int32.ofInt a) (y := Int32.ofInt b) S.1 S.2.1 hd ?_
  rw [← Int32.ofInt_sub]
  exact K
theorem x_imul {a b : Int} (hd : decode M.2.1 pc = .ok (.imul, 1)) (kk : zX D M d k n (pc + 1) L (iV (a * b) :: st) ty sz h Q) : zX D M d k n pc L (iV b :: iV a :: st) ty sz h Q := by
  intro p l e R s m args below meth c H locs ls cells slots mc ms A H0 G S Y hret
  have K := kk p l e R s m args below meth c H locs ls cells slots mc ms A H0 G S Y hret
  refine lv_imul (x := Int32.ofInt a) (y := Int32.ofInt b) S.1 S.2.1 hd ?_
  rw [← Int32.ofInt_mul]
  exact K
theorem x_ladd {a b : Int} (hd : decode M.2.1 pc = .ok (.ladd, 1)) (kk : zX D M d k n (pc + 1) L (lV (a + b) :: st) ty sz h Q) : zX D M d k n pc L (lV b :: lV a :: st) ty sz h Q := by
  intro p l e R s m args below meth c H locs ls cells slots mc ms A H0 G S Y hret
  have K := kk p l e R s m args below meth c H locs ls cells slots mc ms A H0 G S Y hret
  refine lv_ladd (x := Int64.ofInt a) (y := Int64.ofInt b) S.1 S.2.1 hd ?_
  rw [← Int64.ofInt_add]
  exact K
theorem x_lsub {a b : Int} (hd : decode M.2.1 pc = .ok (.lsub, 1)) (kk : zX D M d k n (pc + 1) L (lV (a - b) :: st) ty sz h Q) : zX D M d k n pc L (lV b :: lV a :: st) ty sz h Q := by
  intro p l e R s m args below meth c H locs ls cells slots mc ms A H0 G S Y hret
  have K := kk p l e R s m args below meth c H locs ls cells slots mc ms A H0 G S Y hret
  refine lv_lsub (x := Int64.ofInt a) (y := Int64.ofInt b) S.1 S.2.1 hd ?_
  rw [← Int64.ofInt_sub]
  exact K
theorem x_lmul {a b : Int} (hd : decode M.2.1 pc = .ok (.lmul, 1)) (kk : zX D M d k n (pc + 1) L (lV (a * b) :: st) ty sz h Q) : zX D M d k n pc L (lV b :: lV a :: st) ty sz h Q := by
  intro p l e R s m args below meth c H locs ls cells slots mc ms A H0 G S Y hret
  have K := kk p l e R s m args below meth c H locs ls cells slots mc ms A H0 G S Y hret
  refine lv_lmul (x := Int64.ofInt a) (y := Int64.ofInt b) S.1 S.2.1 hd ?_
  rw [← Int64.ofInt_mul]
  exact K
theorem z_div (a b : Int) : Int32.ofInt ((w32 a).tdiv (w32 b)) = Int32.ofInt a / Int32.ofInt b := by
  apply Int32.toInt_inj.mp
  rw [Int32.toInt_ofInt, Int32.toInt_div]
  rfl
theorem z_mod (a b : Int) : Int32.ofInt ((w32 a).tmod (w32 b)) = Int32.ofInt a - Int32.ofInt a / Int32.ofInt b * Int32.ofInt b := by
  rw [Int.tmod_def, Int32.ofInt_sub, Int32.ofInt_mul, w32_of, w32_of, z_div, Int32.mul_comm]
theorem z_divL (a b : Int) : Int64.ofInt ((w64 a).tdiv (w64 b)) = Int64.ofInt a / Int64.ofInt b := by
  apply Int64.toInt_inj.mp
  rw [Int64.toInt_ofInt, Int64.toInt_div]
  rfl
theorem z_modL (a b : Int) : Int64.ofInt ((w64 a).tmod (w64 b)) = Int64.ofInt a - Int64.ofInt a / Int64.ofInt b * Int64.ofInt b := by
  rw [Int.tmod_def, Int64.ofInt_sub, Int64.ofInt_mul, w64_of, w64_of, z_divL, Int64.mul_comm]
theorem z_ne0 {b : Int} (hb : w32 b ≠ 0) : ¬ Int32.ofInt b = 0 := fun q => hb (by unfold w32; rw [q]; rfl)
theorem z_ne0L {b : Int} (hb : w64 b ≠ 0) : ¬ Int64.ofInt b = 0 := fun q => hb (by unfold w64; rw [q]; rfl)
theorem x_idiv {a b : Int} (hd : decode M.2.1 pc = .ok (.idiv, 1)) (hb : w32 b ≠ 0) (kk : zX D M d k n (pc + 1) L (iV ((w32 a).tdiv (w32 b)) :: st) ty sz h Q) : zX D M d k n pc L (iV b :: iV a :: st) ty sz h Q := by
  intro p l e R s m args below meth c H locs ls cells slots mc ms A H0 G S Y hret
  have K := kk p l e R s m args below meth c H locs ls cells slots mc ms A H0 G S Y hret
  refine lv_idiv S.1 S.2.1 hd (z_ne0 hb) ?_
  rw [← z_div]
  exact K
theorem x_irem {a b : Int} (hd : decode M.2.1 pc = .ok (.irem, 1)) (hb : w32 b ≠ 0) (kk : zX D M d k n (pc + 1) L (iV ((w32 a).tmod (w32 b)) :: st) ty sz h Q) : zX D M d k n pc L (iV b :: iV a :: st) ty sz h Q := by
  intro p l e R s m args below meth c H locs ls cells slots mc ms A H0 G S Y hret
  have K := kk p l e R s m args below meth c H locs ls cells slots mc ms A H0 G S Y hret
  refine lv_irem S.1 S.2.1 hd (z_ne0 hb) ?_
  rw [← z_mod]
  exact K
theorem x_ldiv {a b : Int} (hd : decode M.2.1 pc = .ok (.ldiv, 1)) (hb : w64 b ≠ 0) (kk : zX D M d k n (pc + 1) L (lV ((w64 a).tdiv (w64 b)) :: st) ty sz h Q) : zX D M d k n pc L (lV b :: lV a :: st) ty sz h Q := by
  intro p l e R s m args below meth c H locs ls cells slots mc ms A H0 G S Y hret
  have K := kk p l e R s m args below meth c H locs ls cells slots mc ms A H0 G S Y hret
  refine lv_ldiv S.1 S.2.1 hd (z_ne0L hb) ?_
  rw [← z_divL]
  exact K
theorem x_lrem {a b : Int} (hd : decode M.2.1 pc = .ok (.lrem, 1)) (hb : w64 b ≠ 0) (kk : zX D M d k n (pc + 1) L (lV ((w64 a).tmod (w64 b)) :: st) ty sz h Q) : zX D M d k n pc L (lV b :: lV a :: st) ty sz h Q := by
  intro p l e R s m args below meth c H locs ls cells slots mc ms A H0 G S Y hret
  have K := kk p l e R s m args below meth c H locs ls cells slots mc ms A H0 G S Y hret
  refine lv_lrem S.1 S.2.1 hd (z_ne0L hb) ?_
  rw [← z_modL]
  exact K
theorem x_iand {a b : Int} (hd : decode M.2.1 pc = .ok (.iand, 1)) (kk : zX D M d k n (pc + 1) L (iV (zand a b) :: st) ty sz h Q) : zX D M d k n pc L (iV b :: iV a :: st) ty sz h Q := by
  intro p l e R s m args below meth c H locs ls cells slots mc ms A H0 G S Y hret
  have K := kk p l e R s m args below meth c H locs ls cells slots mc ms A H0 G S Y hret
  refine lv_iand S.1 S.2.1 hd ?_
  have e : Int32.ofInt (zand a b) = _ := Int32.ofInt_toInt _
  rw [← e]
  exact K
theorem x_ior {a b : Int} (hd : decode M.2.1 pc = .ok (.ior, 1)) (kk : zX D M d k n (pc + 1) L (iV (zor a b) :: st) ty sz h Q) : zX D M d k n pc L (iV b :: iV a :: st) ty sz h Q := by
  intro p l e R s m args below meth c H locs ls cells slots mc ms A H0 G S Y hret
  have K := kk p l e R s m args below meth c H locs ls cells slots mc ms A H0 G S Y hret
  refine lv_ior S.1 S.2.1 hd ?_
  have e : Int32.ofInt (zor a b) = _ := Int32.ofInt_toInt _
  rw [← e]
  exact K
theorem x_ishl {a b : Int} (hd : decode M.2.1 pc = .ok (.ishl, 1)) (kk : zX D M d k n (pc + 1) L (iV (zshl a b) :: st) ty sz h Q) : zX D M d k n pc L (iV b :: iV a :: st) ty sz h Q := by
  intro p l e R s m args below meth c H locs ls cells slots mc ms A H0 G S Y hret
  have K := kk p l e R s m args below meth c H locs ls cells slots mc ms A H0 G S Y hret
  refine lv_ishl S.1 S.2.1 hd ?_
  have e : Int32.ofInt (zshl a b) = _ := Int32.ofInt_toInt _
  rw [← e]
  exact K
theorem x_land {a b : Int} (hd : decode M.2.1 pc = .ok (.land, 1)) (kk : zX D M d k n (pc + 1) L (lV (zandL a b) :: st) ty sz h Q) : zX D M d k n pc L (lV b :: lV a :: st) ty sz h Q := by
  intro p l e R s m args below meth c H locs ls cells slots mc ms A H0 G S Y hret
  have K := kk p l e R s m args below meth c H locs ls cells slots mc ms A H0 G S Y hret
  refine lv_land S.1 S.2.1 hd ?_
  have e : Int64.ofInt (zandL a b) = _ := Int64.ofInt_toInt _
  rw [← e]
  exact K
theorem x_lor {a b : Int} (hd : decode M.2.1 pc = .ok (.lor, 1)) (kk : zX D M d k n (pc + 1) L (lV (zorL a b) :: st) ty sz h Q) : zX D M d k n pc L (lV b :: lV a :: st) ty sz h Q := by
  intro p l e R s m args below meth c H locs ls cells slots mc ms A H0 G S Y hret
  have K := kk p l e R s m args below meth c H locs ls cells slots mc ms A H0 G S Y hret
  refine lv_lor S.1 S.2.1 hd ?_
  have e : Int64.ofInt (zorL a b) = _ := Int64.ofInt_toInt _
  rw [← e]
  exact K
theorem x_iushr {a b : Int} (hd : decode M.2.1 pc = .ok (.iushr, 1)) (kk : zX D M d k n (pc + 1) L (iV (zushr a b) :: st) ty sz h Q) : zX D M d k n pc L (iV b :: iV a :: st) ty sz h Q := by
  intro p l e R s m args below meth c H locs ls cells slots mc ms A H0 G S Y hret
  have K := kk p l e R s m args below meth c H locs ls cells slots mc ms A H0 G S Y hret
  exact lv_iushr S.1 S.2.1 hd (Int32.ofInt_toInt _).symm K
theorem x_lshl {a b : Int} (hd : decode M.2.1 pc = .ok (.lshl, 1)) (kk : zX D M d k n (pc + 1) L (lV (zshlL a b) :: st) ty sz h Q) : zX D M d k n pc L (iV b :: lV a :: st) ty sz h Q := by
  intro p l e R s m args below meth c H locs ls cells slots mc ms A H0 G S Y hret
  have K := kk p l e R s m args below meth c H locs ls cells slots mc ms A H0 G S Y hret
  exact lv_lshl S.1 S.2.1 hd (Int64.ofInt_toInt _).symm K
theorem x_i2l {a : Int} (hd : decode M.2.1 pc = .ok (.i2l, 1)) (kk : zX D M d k n (pc + 1) L (lV (w32 a) :: st) ty sz h Q) : zX D M d k n pc L (iV a :: st) ty sz h Q := by
  intro p l e R s m args below meth c H locs ls cells slots mc ms A H0 G S Y hret
  have K := kk p l e R s m args below meth c H locs ls cells slots mc ms A H0 G S Y hret
  exact lv_i2l S.1 S.2.1 hd (Int64.ofInt_int32ToInt _).symm K
theorem x_l2i {a : Int} (hd : decode M.2.1 pc = .ok (.l2i, 1)) (kk : zX D M d k n (pc + 1) L (iV a :: st) ty sz h Q) : zX D M d k n pc L (lV a :: st) ty sz h Q := by
  intro p l e R s m args below meth c H locs ls cells slots mc ms A H0 G S Y hret
  have K := kk p l e R s m args below meth c H locs ls cells slots mc ms A H0 G S Y hret
  exact lv_l2i S.1 S.2.1 hd Int64.toInt32_ofInt K
theorem x_dup {v : zV} (hd : decode M.2.1 pc = .ok (.dup, 1)) (hv : zcat v = 1 := by rfl) (kk : zX D M d k n (pc + 1) L (v :: v :: st) ty sz h Q) : zX D M d k n pc L (v :: st) ty sz h Q := by
  intro p l e R s m args below meth c H locs ls cells slots mc ms A H0 G S Y hret
  have K := kk p l e R s m args below meth c H locs ls cells slots mc ms A H0 G S Y hret
  exact lv_dup S.1 S.2.1 hd ((zcat_cv v).trans hv) K
theorem x_pop {v : zV} (hd : decode M.2.1 pc = .ok (.pop, 1)) (hv : zcat v = 1 := by rfl) (kk : zX D M d k n (pc + 1) L (st) ty sz h Q) : zX D M d k n pc L (v :: st) ty sz h Q := by
  intro p l e R s m args below meth c H locs ls cells slots mc ms A H0 G S Y hret
  have K := kk p l e R s m args below meth c H locs ls cells slots mc ms A H0 G S Y hret
  exact lv_pop S.1 S.2.1 hd ((zcat_cv v).trans hv) K
theorem x_dup2 {u v : zV} (hd : decode M.2.1 pc = .ok (.dup2, 1)) (hu : zcat u = 1 := by rfl) (hv : zcat v = 1 := by rfl) (kk : zX D M d k n (pc + 1) L (u :: v :: u :: v :: st) ty sz h Q) : zX D M d k n pc L (u :: v :: st) ty sz h Q := by
  intro p l e R s m args below meth c H locs ls cells slots mc ms A H0 G S Y hret
  have K := kk p l e R s m args below meth c H locs ls cells slots mc ms A H0 G S Y hret
  exact lv_dup2_11 S.1 S.2.1 hd ((zcat_cv u).trans hu) ((zcat_cv v).trans hv) K
theorem x_goto (tgt : Nat) {off : Int} (hd : decode M.2.1 pc = .ok (.goto off, 3)) (ht : (pc : Int) + off = (tgt : Int) := by rfl) (kk : zX D M d k n tgt L (st) ty sz h Q) : zX D M d k n pc L (st) ty sz h Q := by
  intro p l e R s m args below meth c H locs ls cells slots mc ms A H0 G S Y hret
  have K := kk p l e R s m args below meth c H locs ls cells slots mc ms A H0 G S Y hret
  exact lv_goto S.1 S.2.1 hd ht K
theorem x_icmp_eq {a b : Int} (tgt : Nat) {off : Int} (hd : decode M.2.1 pc = .ok (.if_icmp .eq off, 3)) (ht : (pc : Int) + off = (tgt : Int) := by rfl) (kt : w32 a = w32 b → zX D M d k n tgt L st ty sz h Q) (kf : ¬ (w32 a = w32 b) → zX D M d k n (pc + 3) L st ty sz h Q) : zX D M d k n pc L (iV b :: iV a :: st) ty sz h Q := by
  intro p l e R s m args below meth c H locs ls cells slots mc ms A H0 G S Y hret
  have K1 := fun q => kt q p l e R s m args below meth c H locs ls cells slots mc ms A H0 G S Y hret
  have K2 := fun q => kf q p l e R s m args below meth c H locs ls cells slots mc ms A H0 G S Y hret
  refine lv_icmp_eq (x := Int32.ofInt a) (y := Int32.ofInt b) S.1 S.2.1 hd ht (fun q => K1 ?_) (fun q => K2 ?_) <;> simpa only [ne_eq, z_eq, z_lt, z_le, ge_iff_le, gt_iff_lt] using q
theorem x_if_eq {a : Int} (tgt : Nat) {off : Int} (hd : decode M.2.1 pc = .ok (.ifCond .eq off, 3)) (ht : (pc : Int) + off = (tgt : Int) := by rfl) (kt : w32 a = 0 → zX D M d k n tgt L st ty sz h Q) (kf : ¬ (w32 a = 0) → zX D M d k n (pc + 3) L st ty sz h Q) : zX D M d k n pc L (iV a :: st) ty sz h Q := by
  intro p l e R s m args below meth c H locs ls cells slots mc ms A H0 G S Y hret
  have K1 := fun q => kt q p l e R s m args below meth c H locs ls cells slots mc ms A H0 G S Y hret
  have K2 := fun q => kf q p l e R s m args below meth c H locs ls cells slots mc ms A H0 G S Y hret
  have e0 : w32 0 = 0 := rfl
  refine lv_if_eq (x := Int32.ofInt a) S.1 S.2.1 hd ht (fun q => K1 ?_) (fun q => K2 ?_) <;> rw [show (0 : Int32) = Int32.ofInt 0 from rfl] at q <;> simpa only [ne_eq, z_eq, z_lt, z_le, ge_iff_le, gt_iff_lt, e0] using q
theorem x_icmp_ne {a b : Int} (tgt : Nat) {off : Int} (hd : decode M.2.1 pc = .ok (.if_icmp .ne off, 3)) (ht : (pc : Int) + off = (tgt : Int) := by rfl) (kt : w32 a ≠ w32 b → zX D M d k n tgt L st ty sz h Q) (kf : w32 a = w32 b → zX D M d k n (pc + 3) L st ty sz h Q) : zX D M d k n pc L (iV b :: iV a :: st) ty sz h Q := by
  intro p l e R s m args below meth c H locs ls cells slots mc ms A H0 G S Y hret
  have K1 := fun q => kt q p l e R s m args below meth c H locs ls cells slots mc ms A H0 G S Y hret
  have K2 := fun q => kf q p l e R s m args below meth c H locs ls cells slots mc ms A H0 G S Y hret
  refine lv_icmp_ne (x := Int32.ofInt a) (y := Int32.ofInt b) S.1 S.2.1 hd ht (fun q => K1 ?_) (fun q => K2 ?_) <;> simpa only [ne_eq, z_eq, z_lt, z_le, ge_iff_le, gt_iff_lt] using q
theorem x_if_ne {a : Int} (tgt : Nat) {off : Int} (hd : decode M.2.1 pc = .ok (.ifCond .ne off, 3)) (ht : (pc : Int) + off = (tgt : Int) := by rfl) (kt : w32 a ≠ 0 → zX D M d k n tgt L st ty sz h Q) (kf : w32 a = 0 → zX D M d k n (pc + 3) L st ty sz h Q) : zX D M d k n pc L (iV a :: st) ty sz h Q := by
  intro p l e R s m args below meth c H locs ls cells slots mc ms A H0 G S Y hret
  have K1 := fun q => kt q p l e R s m args below meth c H locs ls cells slots mc ms A H0 G S Y hret
  have K2 := fun q => kf q p l e R s m args below meth c H locs ls cells slots mc ms A H0 G S Y hret
  have e0 : w32 0 = 0 := rfl
  refine lv_if_ne (x := Int32.ofInt a) S.1 S.2.1 hd ht (fun q => K1 ?_) (fun q => K2 ?_) <;> rw [show (0 : Int32) = Int32.ofInt 0 from rfl] at q <;> simpa only [ne_eq, z_eq, z_lt, z_le, ge_iff_le, gt_iff_lt, e0] using q
theorem x_icmp_lt {a b : Int} (tgt : Nat) {off : Int} (hd : decode M.2.1 pc = .ok (.if_icmp .lt off, 3)) (ht : (pc : Int) + off = (tgt : Int) := by rfl) (kt : w32 a < w32 b → zX D M d k n tgt L st ty sz h Q) (kf : ¬ (w32 a < w32 b) → zX D M d k n (pc + 3) L st ty sz h Q) : zX D M d k n pc L (iV b :: iV a :: st) ty sz h Q := by
  intro p l e R s m args below meth c H locs ls cells slots mc ms A H0 G S Y hret
  have K1 := fun q => kt q p l e R s m args below meth c H locs ls cells slots mc ms A H0 G S Y hret
  have K2 := fun q => kf q p l e R s m args below meth c H locs ls cells slots mc ms A H0 G S Y hret
  refine lv_icmp_lt (x := Int32.ofInt a) (y := Int32.ofInt b) S.1 S.2.1 hd ht (fun q => K1 ?_) (fun q => K2 ?_) <;> simpa only [ne_eq, z_eq, z_lt, z_le, ge_iff_le, gt_iff_lt] using q
theorem x_if_lt {a : Int} (tgt : Nat) {off : Int} (hd : decode M.2.1 pc = .ok (.ifCond .lt off, 3)) (ht : (pc : Int) + off = (tgt : Int) := by rfl) (kt : w32 a < 0 → zX D M d k n tgt L st ty sz h Q) (kf : ¬ (w32 a < 0) → zX D M d k n (pc + 3) L st ty sz h Q) : zX D M d k n pc L (iV a :: st) ty sz h Q := by
  intro p l e R s m args below meth c H locs ls cells slots mc ms A H0 G S Y hret
  have K1 := fun q => kt q p l e R s m args below meth c H locs ls cells slots mc ms A H0 G S Y hret
  have K2 := fun q => kf q p l e R s m args below meth c H locs ls cells slots mc ms A H0 G S Y hret
  have e0 : w32 0 = 0 := rfl
  refine lv_if_lt (x := Int32.ofInt a) S.1 S.2.1 hd ht (fun q => K1 ?_) (fun q => K2 ?_) <;> rw [show (0 : Int32) = Int32.ofInt 0 from rfl] at q <;> simpa only [ne_eq, z_eq, z_lt, z_le, ge_iff_le, gt_iff_lt, e0] using q
theorem x_icmp_ge {a b : Int} (tgt : Nat) {off : Int} (hd : decode M.2.1 pc = .ok (.if_icmp .ge off, 3)) (ht : (pc : Int) + off = (tgt : Int) := by rfl) (kt : w32 b ≤ w32 a → zX D M d k n tgt L st ty sz h Q) (kf : ¬ (w32 b ≤ w32 a) → zX D M d k n (pc + 3) L st ty sz h Q) : zX D M d k n pc L (iV b :: iV a :: st) ty sz h Q := by
  intro p l e R s m args below meth c H locs ls cells slots mc ms A H0 G S Y hret
  have K1 := fun q => kt q p l e R s m args below meth c H locs ls cells slots mc ms A H0 G S Y hret
  have K2 := fun q => kf q p l e R s m args below meth c H locs ls cells slots mc ms A H0 G S Y hret
  refine lv_icmp_ge (x := Int32.ofInt a) (y := Int32.ofInt b) S.1 S.2.1 hd ht (fun q => K1 ?_) (fun q => K2 ?_) <;> simpa only [ne_eq, z_eq, z_lt, z_le, ge_iff_le, gt_iff_lt] using q
theorem x_if_ge {a : Int} (tgt : Nat) {off : Int} (hd : decode M.2.1 pc = .ok (.ifCond .ge off, 3)) (ht : (pc : Int) + off = (tgt : Int) := by rfl) (kt : 0 ≤ w32 a → zX D M d k n tgt L st ty sz h Q) (kf : ¬ (0 ≤ w32 a) → zX D M d k n (pc + 3) L st ty sz h Q) : zX D M d k n pc L (iV a :: st) ty sz h Q := by
  intro p l e R s m args below meth c H locs ls cells slots mc ms A H0 G S Y hret
  have K1 := fun q => kt q p l e R s m args below meth c H locs ls cells slots mc ms A H0 G S Y hret
  have K2 := fun q => kf q p l e R s m args below meth c H locs ls cells slots mc ms A H0 G S Y hret
  have e0 : w32 0 = 0 := rfl
  refine lv_if_ge (x := Int32.ofInt a) S.1 S.2.1 hd ht (fun q => K1 ?_) (fun q => K2 ?_) <;> rw [show (0 : Int32) = Int32.ofInt 0 from rfl] at q <;> simpa only [ne_eq, z_eq, z_lt, z_le, ge_iff_le, gt_iff_lt, e0] using q
theorem x_icmp_gt {a b : Int} (tgt : Nat) {off : Int} (hd : decode M.2.1 pc = .ok (.if_icmp .gt off, 3)) (ht : (pc : Int) + off = (tgt : Int) := by rfl) (kt : w32 b < w32 a → zX D M d k n tgt L st ty sz h Q) (kf : ¬ (w32 b < w32 a) → zX D M d k n (pc + 3) L st ty sz h Q) : zX D M d k n pc L (iV b :: iV a :: st) ty sz h Q := by
  intro p l e R s m args below meth c H locs ls cells slots mc ms A H0 G S Y hret
  have K1 := fun q => kt q p l e R s m args below meth c H locs ls cells slots mc ms A H0 G S Y hret
  have K2 := fun q => kf q p l e R s m args below meth c H locs ls cells slots mc ms A H0 G S Y hret
  refine lv_icmp_gt (x := Int32.ofInt a) (y := Int32.ofInt b) S.1 S.2.1 hd ht (fun q => K1 ?_) (fun q => K2 ?_) <;> simpa only [ne_eq, z_eq, z_lt, z_le, ge_iff_le, gt_iff_lt] using q
theorem x_if_gt {a : Int} (tgt : Nat) {off : Int} (hd : decode M.2.1 pc = .ok (.ifCond .gt off, 3)) (ht : (pc : Int) + off = (tgt : Int) := by rfl) (kt : 0 < w32 a → zX D M d k n tgt L st ty sz h Q) (kf : ¬ (0 < w32 a) → zX D M d k n (pc + 3) L st ty sz h Q) : zX D M d k n pc L (iV a :: st) ty sz h Q := by
  intro p l e R s m args below meth c H locs ls cells slots mc ms A H0 G S Y hret
  have K1 := fun q => kt q p l e R s m args below meth c H locs ls cells slots mc ms A H0 G S Y hret
  have K2 := fun q => kf q p l e R s m args below meth c H locs ls cells slots mc ms A H0 G S Y hret
  have e0 : w32 0 = 0 := rfl
  refine lv_if_gt (x := Int32.ofInt a) S.1 S.2.1 hd ht (fun q => K1 ?_) (fun q => K2 ?_) <;> rw [show (0 : Int32) = Int32.ofInt 0 from rfl] at q <;> simpa only [ne_eq, z_eq, z_lt, z_le, ge_iff_le, gt_iff_lt, e0] using q
theorem x_icmp_le {a b : Int} (tgt : Nat) {off : Int} (hd : decode M.2.1 pc = .ok (.if_icmp .le off, 3)) (ht : (pc : Int) + off = (tgt : Int) := by rfl) (kt : w32 a ≤ w32 b → zX D M d k n tgt L st ty sz h Q) (kf : ¬ (w32 a ≤ w32 b) → zX D M d k n (pc + 3) L st ty sz h Q) : zX D M d k n pc L (iV b :: iV a :: st) ty sz h Q := by
  intro p l e R s m args below meth c H locs ls cells slots mc ms A H0 G S Y hret
  have K1 := fun q => kt q p l e R s m args below meth c H locs ls cells slots mc ms A H0 G S Y hret
  have K2 := fun q => kf q p l e R s m args below meth c H locs ls cells slots mc ms A H0 G S Y hret
  refine lv_icmp_le (x := Int32.ofInt a) (y := Int32.ofInt b) S.1 S.2.1 hd ht (fun q => K1 ?_) (fun q => K2 ?_) <;> simpa only [ne_eq, z_eq, z_lt, z_le, ge_iff_le, gt_iff_lt] using q
theorem x_if_le {a : Int} (tgt : Nat) {off : Int} (hd : decode M.2.1 pc = .ok (.ifCond .le off, 3)) (ht : (pc : Int) + off = (tgt : Int) := by rfl) (kt : w32 a ≤ 0 → zX D M d k n tgt L st ty sz h Q) (kf : ¬ (w32 a ≤ 0) → zX D M d k n (pc + 3) L st ty sz h Q) : zX D M d k n pc L (iV a :: st) ty sz h Q := by
  intro p l e R s m args below meth c H locs ls cells slots mc ms A H0 G S Y hret
  have K1 := fun q => kt q p l e R s m args below meth c H locs ls cells slots mc ms A H0 G S Y hret
  have K2 := fun q => kf q p l e R s m args below meth c H locs ls cells slots mc ms A H0 G S Y hret
  have e0 : w32 0 = 0 := rfl
  refine lv_if_le (x := Int32.ofInt a) S.1 S.2.1 hd ht (fun q => K1 ?_) (fun q => K2 ?_) <;> rw [show (0 : Int32) = Int32.ofInt 0 from rfl] at q <;> simpa only [ne_eq, z_eq, z_lt, z_le, ge_iff_le, gt_iff_lt, e0] using q
theorem x_ifnull {a : Int} (tgt : Nat) {off : Int} (hd : decode M.2.1 pc = .ok (.ifnull off, 3)) (ht : (pc : Int) + off = (tgt : Int) := by rfl) (kt : a < 0 → zX D M d k n tgt L st ty sz h Q) (kf : ¬ (a < 0) → zX D M d k n (pc + 3) L st ty sz h Q) : zX D M d k n pc L (rV a :: st) ty sz h Q := by
  intro p l e R s m args below meth c H locs ls cells slots mc ms A H0 G S Y hret
  have K1 := fun q => kt q p l e R s m args below meth c H locs ls cells slots mc ms A H0 G S Y hret
  have K2 := fun q => kf q p l e R s m args below meth c H locs ls cells slots mc ms A H0 G S Y hret
  change W p l e R s m args below meth c H locs cells slots G (F0 m pc ls (va_rf (zrf a) :: st.map zcv))
  by_cases ha : a < 0
  · rw [show zrf a = none from if_pos ha]
    exact lv_ifnullN S.1 S.2.1 hd ht (K1 ha)
  · rw [show zrf a = some a.toNat from if_neg ha]
    exact lv_ifnull S.1 S.2.1 hd (K2 ha)
theorem x_ifnonnull {a : Int} (tgt : Nat) {off : Int} (hd : decode M.2.1 pc = .ok (.ifnonnull off, 3)) (ht : (pc : Int) + off = (tgt : Int) := by rfl) (kt : 0 ≤ a → zX D M d k n tgt L st ty sz h Q) (kf : ¬ (0 ≤ a) → zX D M d k n (pc + 3) L st ty sz h Q) : zX D M d k n pc L (rV a :: st) ty sz h Q := by
  intro p l e R s m args below meth c H locs ls cells slots mc ms A H0 G S Y hret
  have K1 := fun q => kt q p l e R s m args below meth c H locs ls cells slots mc ms A H0 G S Y hret
  have K2 := fun q => kf q p l e R s m args below meth c H locs ls cells slots mc ms A H0 G S Y hret
  change W p l e R s m args below meth c H locs cells slots G (F0 m pc ls (va_rf (zrf a) :: st.map zcv))
  by_cases ha : a < 0
  · rw [show zrf a = none from if_pos ha]
    exact lv_ifnonnullN S.1 S.2.1 hd (K2 (by omega))
  · rw [show zrf a = some a.toNat from if_neg ha]
    exact lv_ifnonnull S.1 S.2.1 hd ht (K1 (by omega))
theorem x_acmp_ne {a b : Int} (tgt : Nat) {off : Int} (hd : decode M.2.1 pc = .ok (.if_acmp .ne off, 3)) (ht : (pc : Int) + off = (tgt : Int) := by rfl) (kt : zrf a ≠ zrf b → zX D M d k n tgt L st ty sz h Q) (kf : zrf a = zrf b → zX D M d k n (pc + 3) L st ty sz h Q) : zX D M d k n pc L (rV b :: rV a :: st) ty sz h Q := by
  intro p l e R s m args below meth c H locs ls cells slots mc ms A H0 G S Y hret
  have K1 := fun q => kt q p l e R s m args below meth c H locs ls cells slots mc ms A H0 G S Y hret
  have K2 := fun q => kf q p l e R s m args below meth c H locs ls cells slots mc ms A H0 G S Y hret
  exact lv_acmp_ne (rx := zrf a) (ry := zrf b) S.1 S.2.1 hd ht K1 K2
theorem z_lcmp (x y : Int64) : (lg_cmp x y < 0 ↔ x < y) ∧ (lg_cmp x y ≤ 0 ↔ x ≤ y) ∧ (lg_cmp x y = 0 ↔ x = y) := by
  unfold lg_cmp
  simp only [gt_iff_lt, Int64.lt_iff_toInt_lt, Int64.le_iff_toInt_le, ← Int64.toInt_inj]
  split
  · refine ⟨⟨fun q => ?_, fun q => ?_⟩, ⟨fun q => ?_, fun q => ?_⟩, ⟨fun q => ?_, fun q => ?_⟩⟩ <;> first | omega | exact absurd q (by decide)
  · split
    · refine ⟨⟨fun q => ?_, fun q => ?_⟩, ⟨fun q => ?_, fun q => ?_⟩, ⟨fun q => ?_, fun q => ?_⟩⟩ <;> first | omega | exact absurd q (by decide) | decide
    · refine ⟨⟨fun q => ?_, fun q => ?_⟩, ⟨fun q => ?_, fun q => ?_⟩, ⟨fun q => ?_, fun q => ?_⟩⟩ <;> first | omega | exact absurd q (by decide) | decide
theorem z_leL (a b : Int) : Int64.ofInt a ≤ Int64.ofInt b ↔ w64 a ≤ w64 b := Int64.le_iff_toInt_le
theorem z_i0 (x : Int32) : (0 ≤ x ↔ ¬ x < 0) ∧ (0 < x ↔ ¬ x ≤ 0) := by
  simp only [Int32.lt_iff_toInt_lt, Int32.le_iff_toInt_le]
  exact ⟨by omega, by omega⟩
theorem x_lcmp_eq {a b : Int} (tgt : Nat) {off : Int} (hd0 : decode M.2.1 pc = .ok (.lcmp, 1)) (hd : decode M.2.1 (pc + 1) = .ok (.ifCond .eq off, 3)) (ht : ((pc + 1 : Nat) : Int) + off = (tgt : Int) := by rfl) (kt : w64 a = w64 b → zX D M d k n tgt L st ty sz h Q) (kf : ¬ (w64 a = w64 b) → zX D M d k n (pc + 4) L st ty sz h Q) : zX D M d k n pc L (lV b :: lV a :: st) ty sz h Q := by
  intro p l e R s m args below meth c H locs ls cells slots mc ms A H0 G S Y hret
  have K1 := fun q => kt q p l e R s m args below meth c H locs ls cells slots mc ms A H0 G S Y hret
  have K2 := fun q => kf q p l e R s m args below meth c H locs ls cells slots mc ms A H0 G S Y hret
  have e := z_lcmp (Int64.ofInt a) (Int64.ofInt b)
  rw [z_ltL, z_leL, z_eqL] at e
  have f := z_i0 (lg_cmp (Int64.ofInt a) (Int64.ofInt b))
  refine W.lcmp S.1 S.2.1 hd0 (lv_if_eq S.1 S.2.1 hd ht (fun q => K1 ?_) (fun q => K2 ?_)) <;> simp only [ne_eq, ge_iff_le, gt_iff_lt, f.1, f.2, e.1, e.2.1, e.2.2] at q ⊢ <;> omega
theorem x_lcmp_ne {a b : Int} (tgt : Nat) {off : Int} (hd0 : decode M.2.1 pc = .ok (.lcmp, 1)) (hd : decode M.2.1 (pc + 1) = .ok (.ifCond .ne off, 3)) (ht : ((pc + 1 : Nat) : Int) + off = (tgt : Int) := by rfl) (kt : w64 a ≠ w64 b → zX D M d k n tgt L st ty sz h Q) (kf : w64 a = w64 b → zX D M d k n (pc + 4) L st ty sz h Q) : zX D M d k n pc L (lV b :: lV a :: st) ty sz h Q := by
  intro p l e R s m args below meth c H locs ls cells slots mc ms A H0 G S Y hret
  have K1 := fun q => kt q p l e R s m args below meth c H locs ls cells slots mc ms A H0 G S Y hret
  have K2 := fun q => kf q p l e R s m args below meth c H locs ls cells slots mc ms A H0 G S Y hret
  have e := z_lcmp (Int64.ofInt a) (Int64.ofInt b)
  rw [z_ltL, z_leL, z_eqL] at e
  have f := z_i0 (lg_cmp (Int64.ofInt a) (Int64.ofInt b))
  refine W.lcmp S.1 S.2.1 hd0 (lv_if_ne S.1 S.2.1 hd ht (fun q => K1 ?_) (fun q => K2 ?_)) <;> simp only [ne_eq, ge_iff_le, gt_iff_lt, f.1, f.2, e.1, e.2.1, e.2.2] at q ⊢ <;> omega
theorem x_lcmp_lt {a b : Int} (tgt : Nat) {off : Int} (hd0 : decode M.2.1 pc = .ok (.lcmp, 1)) (hd : decode M.2.1 (pc + 1) = .ok (.ifCond .lt off, 3)) (ht : ((pc + 1 : Nat) : Int) + off = (tgt : Int) := by rfl) (kt : w64 a < w64 b → zX D M d k n tgt L st ty sz h Q) (kf : ¬ (w64 a < w64 b) → zX D M d k n (pc + 4) L st ty sz h Q) : zX D M d k n pc L (lV b :: lV a :: st) ty sz h Q := by
  intro p l e R s m args below meth c H locs ls cells slots mc ms A H0 G S Y hret
  have K1 := fun q => kt q p l e R s m args below meth c H locs ls cells slots mc ms A H0 G S Y hret
  have K2 := fun q => kf q p l e R s m args below meth c H locs ls cells slots mc ms A H0 G S Y hret
  have e := z_lcmp (Int64.ofInt a) (Int64.ofInt b)
  rw [z_ltL, z_leL, z_eqL] at e
  have f := z_i0 (lg_cmp (Int64.ofInt a) (Int64.ofInt b))
  refine W.lcmp S.1 S.2.1 hd0 (lv_if_lt S.1 S.2.1 hd ht (fun q => K1 ?_) (fun q => K2 ?_)) <;> simp only [ne_eq, ge_iff_le, gt_iff_lt, f.1, f.2, e.1, e.2.1, e.2.2] at q ⊢ <;> omega
theorem x_lcmp_ge {a b : Int} (tgt : Nat) {off : Int} (hd0 : decode M.2.1 pc = .ok (.lcmp, 1)) (hd : decode M.2.1 (pc + 1) = .ok (.ifCond .ge off, 3)) (ht : ((pc + 1 : Nat) : Int) + off = (tgt : Int) := by rfl) (kt : w64 b ≤ w64 a → zX D M d k n tgt L st ty sz h Q) (kf : ¬ (w64 b ≤ w64 a) → zX D M d k n (pc + 4) L st ty sz h Q) : zX D M d k n pc L (lV b :: lV a :: st) ty sz h Q := by
  intro p l e R s m args below meth c H locs ls cells slots mc ms A H0 G S Y hret
  have K1 := fun q => kt q p l e R s m args below meth c H locs ls cells slots mc ms A H0 G S Y hret
  have K2 := fun q => kf q p l e R s m args below meth c H locs ls cells slots mc ms A H0 G S Y hret
  have e := z_lcmp (Int64.ofInt a) (Int64.ofInt b)
  rw [z_ltL, z_leL, z_eqL] at e
  have f := z_i0 (lg_cmp (Int64.ofInt a) (Int64.ofInt b))
  refine W.lcmp S.1 S.2.1 hd0 (lv_if_ge S.1 S.2.1 hd ht (fun q => K1 ?_) (fun q => K2 ?_)) <;> simp only [ne_eq, ge_iff_le, gt_iff_lt, f.1, f.2, e.1, e.2.1, e.2.2] at q ⊢ <;> omega
theorem x_lcmp_gt {a b : Int} (tgt : Nat) {off : Int} (hd0 : decode M.2.1 pc = .ok (.lcmp, 1)) (hd : decode M.2.1 (pc + 1) = .ok (.ifCond .gt off, 3)) (ht : ((pc + 1 : Nat) : Int) + off = (tgt : Int) := by rfl) (kt : w64 b < w64 a → zX D M d k n tgt L st ty sz h Q) (kf : ¬ (w64 b < w64 a) → zX D M d k n (pc + 4) L st ty sz h Q) : zX D M d k n pc L (lV b :: lV a :: st) ty sz h Q := by
  intro p l e R s m args below meth c H locs ls cells slots mc ms A H0 G S Y hret
  have K1 := fun q => kt q p l e R s m args below meth c H locs ls cells slots mc ms A H0 G S Y hret
  have K2 := fun q => kf q p l e R s m args below meth c H locs ls cells slots mc ms A H0 G S Y hret
  have e := z_lcmp (Int64.ofInt a) (Int64.ofInt b)
  rw [z_ltL, z_leL, z_eqL] at e
  have f := z_i0 (lg_cmp (Int64.ofInt a) (Int64.ofInt b))
  refine W.lcmp S.1 S.2.1 hd0 (lv_if_gt S.1 S.2.1 hd ht (fun q => K1 ?_) (fun q => K2 ?_)) <;> simp only [ne_eq, ge_iff_le, gt_iff_lt, f.1, f.2, e.1, e.2.1, e.2.2] at q ⊢ <;> omega
theorem x_lcmp_le {a b : Int} (tgt : Nat) {off : Int} (hd0 : decode M.2.1 pc = .ok (.lcmp, 1)) (hd : decode M.2.1 (pc + 1) = .ok (.ifCond .le off, 3)) (ht : ((pc + 1 : Nat) : Int) + off = (tgt : Int) := by rfl) (kt : w64 a ≤ w64 b → zX D M d k n tgt L st ty sz h Q) (kf : ¬ (w64 a ≤ w64 b) → zX D M d k n (pc + 4) L st ty sz h Q) : zX D M d k n pc L (lV b :: lV a :: st) ty sz h Q := by
  intro p l e R s m args below meth c H locs ls cells slots mc ms A H0 G S Y hret
  have K1 := fun q => kt q p l e R s m args below meth c H locs ls cells slots mc ms A H0 G S Y hret
  have K2 := fun q => kf q p l e R s m args below meth c H locs ls cells slots mc ms A H0 G S Y hret
  have e := z_lcmp (Int64.ofInt a) (Int64.ofInt b)
  rw [z_ltL, z_leL, z_eqL] at e
  have f := z_i0 (lg_cmp (Int64.ofInt a) (Int64.ofInt b))
  refine W.lcmp S.1 S.2.1 hd0 (lv_if_le S.1 S.2.1 hd ht (fun q => K1 ?_) (fun q => K2 ?_)) <;> simp only [ne_eq, ge_iff_le, gt_iff_lt, f.1, f.2, e.1, e.2.1, e.2.2] at q ⊢ <;> omega
theorem zcv_r {a : Int} (ha : 0 ≤ a) : zcv (rV a) = .ref a.toNat := by
  show va_rf (zrf a) = _
  rw [show zrf a = some a.toNat from if_neg (by omega)]
  rfl
/-- a field of an object: the constant pool's entry and the class's table -/
def zFL (own : String) (idx ci kf t : Nat) (fin : Bool) : Prop := ∃ r : vw_C, zC[ci]? = some r ∧ kf < r.2.2 ∧ ci < 8 ∧ Cond.fieldLink own idx (r.2.1 kf).1 (r.2.1 kf).2.1 (r.2.1 kf).2.2.1 ∈ zTB ∧ (∀ w ∈ u_ws r.1 r.2.1 r.2.2, w ∈ zTB) ∧ ztg (zty ci kf) = t ∧ (r.2.1 kf).2.2.2 = fin ∧ (r.2.1 kf).1 = r.1
theorem z_obj {ci N : Nat} {fz : zF} {r : vw_C} {f : Int → Int} {a : Nat} {H : Heap} (hc0 : zcell D ci N fz f a H) (h8 : ci < 8) (hr : zC[ci]? = some r) : N = r.2.2 ∧ t_OB a (D.1 ci) r.2.2 (D.2 ci) H (fun i => zct (ztg (zty ci i)) (f i)) := by
  have hc := hc0.1
  rcases hc with ⟨-, r', h1, h2, h3⟩ | ⟨h1, -⟩
  · cases hr.symm.trans h1
    subst h2
    exact ⟨rfl, h3⟩
  · omega
theorem z_arr {k N : Nat} {fz : zF} {f : Int → Int} {a : Nat} {H : Heap} (hc0 : zcell D k N fz f a H) (h8 : 8 ≤ k) : N < 2 ^ 31 ∧ H[a]? = some (arrV (D.1 k) N (fun j => zct (zat k) (f j))) := by
  have hc := hc0.1
  rcases hc with ⟨h1, -⟩ | ⟨-, -, h1, h2⟩
  · omega
  · exact ⟨h1, h2⟩
theorem x_getf {ci N kf idx t : Nat} {fz : zF} {fin : Bool} {r : Int} {v : zV} (hd : decode M.2.1 pc = .ok (.getfield idx, 3)) (hf : zFL M.1.cls idx ci kf t fin) (hty : ty r = some (ci, N, fz)) (hv : zcv v = zct t (h r kf)) (kk : zX D M d k n (pc + 3) L (v :: st) ty sz h Q) : zX D M d k n pc L (rV r :: st) ty sz h Q := by
  intro p l e R s m args below meth c H locs ls cells slots mc ms A H0 G S Y hret
  have K := kk p l e R s m args below meth c H locs ls cells slots mc ms A H0 G S Y hret
  obtain ⟨ha, hc⟩ := Y.1.1 r ci N fz hty
  obtain ⟨q, hq, hk, h8, hlink, hin, htg, -⟩ := hf
  obtain ⟨-, cell, q1, q2, q3, q4⟩ := z_obj hc h8 hq
  obtain ⟨hSl, hfc, kC, hkC, hkind⟩ := S.2.2.2.2.2.2.2.1.1 ci q hq
  obtain ⟨cf, kfc, fi, f, hi, hsl⟩ := hSl kf hk
  show W p l e R s m args below meth c H locs cells slots G (F0 m pc ls (zcv (rV r) :: st.map zcv))
  rw [zcv_r ha]
  refine W.getf S.1 S.2.1 S.2.2.2.2.1 (S.2.2.2.2.2.1 _ hlink) hi (u_facts hfc hkC (u_lays S.2.2.2.2.2.1 hin hk) hi).1 q1 (by rw [q3]; exact fun h => by cases h) (v := zcv v) ?_ rfl rfl hd K
  rw [hsl, q4 kf hk, hv, ← htg]
theorem z_rg {ci N kf idx t : Nat} {own : String} {fz : zF} {fin : Bool} {r : Int} {H : Heap} (hW : zW D ty h H) (hf : zFL own idx ci kf t fin) (hty : ty r = some (ci, N, fz)) : zrng t (h r kf) := by
  obtain ⟨-, hc⟩ := hW r ci N fz hty
  obtain ⟨q, hq, hk, h8, -, -, htg, -⟩ := hf
  obtain ⟨hN, -⟩ := z_obj hc h8 hq
  have := hc.2.2 kf (by omega)
  unfold ztagc at this
  rw [if_pos h8, htg] at this
  exact this
theorem x_getI {ci N kf idx : Nat} {fz : zF} {fin : Bool} {r : Int} (hd : decode M.2.1 pc = .ok (.getfield idx, 3)) (hf : zFL M.1.cls idx ci kf 0 fin) (hty : ty r = some (ci, N, fz)) (kk : i32 (h r kf) → zX D M d k n (pc + 3) L (iV (h r kf) :: st) ty sz h Q) : zX D M d k n pc L (rV r :: st) ty sz h Q := by
  intro p l e R s m args below meth c H locs ls cells slots mc ms A H0 G S Y hret
  exact x_getf hd hf hty rfl (kk ((z_rg Y.1.1 hf hty).1 rfl)) p l e R s m args below meth c H locs ls cells slots mc ms A H0 G S Y hret
theorem x_getL {ci N kf idx : Nat} {fz : zF} {fin : Bool} {r : Int} (hd : decode M.2.1 pc = .ok (.getfield idx, 3)) (hf : zFL M.1.cls idx ci kf 1 fin) (hty : ty r = some (ci, N, fz)) (kk : i64 (h r kf) → zX D M d k n (pc + 3) L (lV (h r kf) :: st) ty sz h Q) : zX D M d k n pc L (rV r :: st) ty sz h Q := by
  intro p l e R s m args below meth c H locs ls cells slots mc ms A H0 G S Y hret
  exact x_getf hd hf hty rfl (kk ((z_rg Y.1.1 hf hty).2 rfl)) p l e R s m args below meth c H locs ls cells slots mc ms A H0 G S Y hret
theorem x_getR {ci N kf idx : Nat} {fz : zF} {fin : Bool} {r : Int} (hd : decode M.2.1 pc = .ok (.getfield idx, 3)) (hf : zFL M.1.cls idx ci kf 2 fin) (hty : ty r = some (ci, N, fz)) (kk : zX D M d k n (pc + 3) L (rV (h r kf) :: st) ty sz h Q) : zX D M d k n pc L (rV r :: st) ty sz h Q := x_getf hd hf hty rfl kk
theorem x_getF {ci N kf idx : Nat} {fz : zF} {fin : Bool} {r v : Int} (hd : decode M.2.1 pc = .ok (.getfield idx, 3)) (hf : zFL M.1.cls idx ci kf 2 fin) (hty : ty r = some (ci, N, fz)) (hz : fz (kf : Int) = some v) (kk : zX D M d k n (pc + 3) L (rV v :: st) ty sz h Q) : zX D M d k n pc L (rV r :: st) ty sz h Q := by
  intro p l e R s m args below meth c H locs ls cells slots mc ms A H0 G S Y hret
  have e1 : h r kf = v := (Y.1.1 r ci N fz hty).2.2.1 _ _ hz
  subst e1
  exact x_getf hd hf hty rfl kk p l e R s m args below meth c H locs ls cells slots mc ms A H0 G S Y hret
theorem zup_ne {a r kf z : Int} (ha : a ≠ r) : zup h r kf z a = h a := by
  funext j
  simp [zup, ha]
theorem z_kept {a : Nat} {H H1 : Heap} {kc N : Nat} {fz : zF} {f : Int → Int} (hc0 : zcell D kc N fz f a H) (e : H1[a]? = H[a]?) : zcell D kc N fz f a H1 := by
  refine ⟨?_, hc0.2⟩
  have hc := hc0.1
  rcases hc with ⟨h8, r, h1, h2, h3⟩ | ⟨h8, h14, hn, h1⟩
  · exact Or.inl ⟨h8, r, h1, h2, h3.kept e⟩
  · exact Or.inr ⟨h8, h14, hn, e.trans h1⟩
/-- the world behind a store -/
theorem zO_put {kc N : Nat} {fz : zF} {r kf z : Int} {kl : Nat} {H H1 : Heap} {locs : List Loc} {A : Nat → Prop} {H0 : Heap} (hO : zO D ty sz h H locs A H0) (hty : ty r = some (kc, N, fz)) (hfz : fz kf = none) (hrg : ∀ i : Nat, (i : Int) = kf → zrng (ztagc kc i) z) (hc : zcell0 D kc N (zup h r kf z r) r.toNat H1) (hz : H1.size = H.size) (oq : ∀ q : Nat, q ≠ r.toNat → H1[q]? = H[q]?) : zO D ty sz (zup h r kf z) H1 (locs ++ [⟨r.toNat, kl⟩]) A H0 := by
  obtain ⟨hW, hsz, hA, hS⟩ := hO
  refine ⟨fun a k n fz2 ht => ?_, hz.trans hsz, hA, hS.put hz oq (hA r _ hty)⟩
  have h0 := (hW a k n fz2 ht).1
  refine ⟨h0, ?_⟩
  by_cases e : a = r
  · subst e
    have hold := (hW a _ _ _ hty).2.2
    cases hty.symm.trans ht
    refine ⟨hc, fun i v hi => ?_, fun i hi => ?_⟩
    · have hne : i ≠ kf := fun q => by rw [q, hfz] at hi; cases hi
      have : zup h a kf z a i = h a i := by simp [zup, hne]
      rw [this]
      exact hold.1 i v hi
    · · by_cases hik : (i : Int) = kf
        · have : zup h a kf z a i = z := by simp [zup, hik]
          rw [this]
          exact hrg i hik
        · have : zup h a kf z a i = h a i := by simp [zup, hik]
          rw [this]
          exact hold.2 i hi
  · rw [zup_ne e]
    have hr := (hW r _ _ _ hty).1
    exact z_kept (hW a k n fz2 ht).2 (oq _ (by omega))
theorem z_apart {ci : Nat} {r : vw_C} {s : State} {args : Array Value} (hts : ∀ w ∈ zTB, w.before args s = true) (hin : ∀ w ∈ u_ws r.1 r.2.1 r.2.2, w ∈ zTB) (ty0 : Nat → FieldType) (hty : ∀ k, k < r.2.2 → parseFieldDescriptor (r.2.1 k).2.2.1 = some (ty0 k)) (hnm : ∀ a, a < r.2.2 → ∀ b, b < r.2.2 → a ≠ b → (r.2.1 a).2.1 ≠ (r.2.1 b).2.1) (hK : va_K D zC (ztys D) s) (hc : zC[ci]? = some r) : ∀ x y, x < r.2.2 → y < r.2.2 → x ≠ y → (D.2 ci) x ≠ (D.2 ci) y := by
  intro x y hx hy hne
  obtain ⟨hS, -⟩ := hK.1 ci _ hc
  obtain ⟨_, _, _, fa, hia, ea⟩ := hS x hx
  obtain ⟨_, _, _, fb, hib, eb⟩ := hS y hy
  rw [← ea, ← eb]
  refine u_apart (u_lays hts hin hx) (u_lays hts hin hy) hia hib ?_
  rw [(State.fieldFound?_type hia (hty x hx)).1, (State.fieldFound?_type hib (hty y hy)).1]
  exact hnm x hx y hy hne
theorem zC_ok : ∀ (ci : Nat) (r : vw_C), zC[ci]? = some r → (∀ k, k < r.2.2 → parseFieldDescriptor (r.2.1 k).2.2.1 = some (zty ci k)) ∧ ∀ a, a < r.2.2 → ∀ b, b < r.2.2 → a ≠ b → (r.2.1 a).2.1 ≠ (r.2.1 b).2.1 := by
  intro ci r h
  match ci, h with
  | 0, h => cases h; exact ⟨tyX0_ok, nmX0⟩
  | 1, h => cases h; exact ⟨tyX1_ok, nmX1⟩
  | 2, h => cases h; exact ⟨tyX2_ok, nmX2⟩
  | 3, h => cases h; exact ⟨tyX3_ok, nmX3⟩
  | 4, h => cases h; exact ⟨tyX4_ok, nmX4⟩
  | 5, h => cases h; exact ⟨tyX5_ok, nmX5⟩
  | 6, h => cases h; exact ⟨tyX6_ok, nmX6⟩
  | 7, h => cases h; exact ⟨tyX7_ok, nmX7⟩
  | k + 8, h => simp [zC] at h
/-- putfield: v fits the field -/
def zfit (t : FieldType) (v : zV) : Prop := match t with
  | .int => ∃ z, v = iV z
  | .boolean => v = iV 0 ∨ v = iV 1
  | .long => ∃ z, v = lV z
  | .object _ => ∃ z, v = rV z
  | .array _ => ∃ z, v = rV z
  | _ => False
theorem zfit_ok {t : FieldType} {v : zV} (hv : zfit t v) : narrow t (zcv v) = zcv v ∧ fits t (zcv v) = true := by
  cases t with
  | int => obtain ⟨z, rfl⟩ := hv; exact ⟨rfl, rfl⟩
  | boolean => rcases hv with rfl | rfl <;> exact ⟨by decide, by decide⟩
  | long => obtain ⟨z, rfl⟩ := hv; exact ⟨rfl, rfl⟩
  | object C =>
    obtain ⟨z, rfl⟩ := hv
    show narrow _ (va_rf (zrf z)) = va_rf (zrf z) ∧ fits _ (va_rf (zrf z)) = true
    cases zrf z <;> exact ⟨rfl, rfl⟩
  | array C =>
    obtain ⟨z, rfl⟩ := hv
    show narrow _ (va_rf (zrf z)) = va_rf (zrf z) ∧ fits _ (va_rf (zrf z)) = true
    cases zrf z <;> exact ⟨rfl, rfl⟩
  | _ => exact hv.elim
theorem x_put {ci N kf idx t : Nat} {fz : zF} {fin : Bool} {r z : Int} {v : zV} (hd : decode M.2.1 pc = .ok (.putfield idx, 3)) (hf : zFL M.1.cls idx ci kf t fin) (hty : ty r = some (ci, N, fz)) (hv : zcv v = zct t z) (hfit : zfit (zty ci kf) v) (hfz : fz (kf : Int) = none) (hrg : zrng t z) (hfin : fin = false ∨ (fin = true ∧ M.1.name = "<init>" ∧ (zC[ci]?).map (fun q => q.1) = some M.1.cls)) (kk : zX D M d k n (pc + 3) L st ty sz (zup h r kf z) Q) : zX D M d k n pc L (v :: rV r :: st) ty sz h Q := by
  intro p l e R s m args below meth c H locs ls cells slots mc ms A H0 G S Y hret
  obtain ⟨ha, hc⟩ := Y.1.1 r ci N fz hty
  obtain ⟨q, hq, hk, h8, hlink, hin, htg, hfi, hown1⟩ := hf
  obtain ⟨hN, cell, q1, q2, q3, q4⟩ := z_obj hc h8 hq
  obtain ⟨hSl, hfc, kC, hkC, hkind⟩ := S.2.2.2.2.2.2.2.1.1 ci q hq
  obtain ⟨cf, kfc, fi, f, hi, hsl⟩ := hSl kf hk
  have hok := zC_ok ci q hq
  have hap := z_apart S.2.2.2.2.2.1 hin (zty ci) hok.1 hok.2 S.2.2.2.2.2.2.2.1 hq
  have hst := (u_facts hfc hkC (u_lays S.2.2.2.2.2.1 hin hk) hi).1
  have hlay := S.2.2.2.2.2.1 _ (hin _ (u_in_lay hk))
  unfold u_lay at hlay
  have hff := zfit_ok hfit
  have world : ∀ H1 : Heap, H1[r.toNat]? = some (cell.setSlot f.slot (zcv v)) → H1.size = H.size → (∀ q, q ≠ r.toNat → H1[q]? = H[q]?) → zO D ty sz (zup h r kf z) H1 (locs ++ [⟨r.toNat, f.slot⟩]) A H0 := by
    intro H1 e1 e2 e3
    refine zO_put Y.1 hty hfz (fun i hi => by rw [show i = kf by omega]; unfold ztagc; rw [if_pos h8, htg]; exact hrg) (Or.inl ⟨h8, q, hq, hN, ?_⟩) e2 e3
    subst hN
    refine t_OB.to (V := updV (fun i => zct (ztg (zty ci i)) (h r i)) kf (zcv v)) ⟨_, e1, q2, q3, by rw [hsl]; exact t_set q4 hap hk (zcv v)⟩ (fun j hj => ?_)
    by_cases hjk : j = kf
    · subst hjk
      simp [updV, zup, hv, htg]
    · have : ¬ ((j : Int) = (kf : Int)) := by omega
      simp [updV, zup, hjk, this]
  show W p l e R s m args below meth c H locs cells slots G (F0 m pc ls (zcv v :: zcv (rV r) :: st.map zcv))
  rw [zcv_r ha]
  rcases hfin with efi | ⟨efi, hn, ho⟩
  · rw [if_neg (by rw [hfi, efi]; decide)] at hlay
    have h6 := u_store hfc hkC hkind hlay hi (hok.1 kf hk) hff.1 hff.2
    refine W.putK S.1 S.2.1 (f := f) ⟨S.2.2.2.2.1, S.2.2.2.2.2.1 _ hlink, ⟨_, _, _, hi⟩, hst⟩ (by rw [q2]; exact h6) q1 q3 (by rw [hsl]; exact k2_hasslot (q4 kf hk)) rfl rfl hd fun H1 e1 e2 e3 => ?_
    exact kk p l e R s m args below meth c H1 _ ls cells slots mc ms A H0 G S ⟨world H1 e1 e2 e3, Y.2⟩ hret
  · rw [if_pos (by rw [hfi, efi])] at hlay
    have h6 := u_fits hfc hkC hkind (Or.inr hlay) hi (hok.1 kf hk) hff.1 hff.2
    have hcf : m.cls = cf := by
      obtain ⟨_, _, c', _, _, _, -, -, hf', -, -, -, hown2, -⟩ := Cond.laysFinal_spec hlay
      have e1 : c' = cf := by have := hi.symm.trans hf'; simp at this; exact this.1.symm
      rw [hown1] at hown2
      rw [hq] at ho
      have e2 : q.1 = M.1.cls := Option.some.inj ho
      rw [e2] at hown2
      rw [← e1]; exact Option.some.inj (S.2.2.2.2.1.symm.trans hown2)
    refine W.putFinK S.1 S.2.1 S.2.2.2.2.1 (S.2.2.2.2.2.1 _ hlink) hi hst hcf (S.2.2.2.2.2.2.2.2.1.trans hn) (by rw [q2]; exact h6) q1 q3 (by rw [hsl]; exact k2_hasslot (q4 kf hk)) rfl rfl hd fun H1 e1 e2 e3 => ?_
    exact kk p l e R s m args below meth c H1 _ ls cells slots mc ms A H0 G S ⟨world H1 e1 e2 e3, Y.2⟩ hret
theorem x_putI {ci N kf idx : Nat} {fz : zF} {r z : Int} (hd : decode M.2.1 pc = .ok (.putfield idx, 3)) (hf : zFL M.1.cls idx ci kf 0 false) (hty : ty r = some (ci, N, fz)) (hi : zty ci kf = .int) (hfz : fz (kf : Int) = none) (hrg : i32 z) (kk : zX D M d k n (pc + 3) L st ty sz (zup h r kf z) Q) : zX D M d k n pc L (iV z :: rV r :: st) ty sz h Q := x_put hd hf hty rfl (by rw [hi]; exact ⟨z, rfl⟩) hfz ⟨fun _ => hrg, fun q => by cases q⟩ (Or.inl rfl) kk
theorem x_putZ {ci N kf idx : Nat} {fz : zF} {r z : Int} (hd : decode M.2.1 pc = .ok (.putfield idx, 3)) (hf : zFL M.1.cls idx ci kf 0 false) (hty : ty r = some (ci, N, fz)) (hi : zty ci kf = .boolean) (hz : z = 0 ∨ z = 1) (hfz : fz (kf : Int) = none) (kk : zX D M d k n (pc + 3) L st ty sz (zup h r kf z) Q) : zX D M d k n pc L (iV z :: rV r :: st) ty sz h Q := x_put hd hf hty rfl (by rw [hi]; rcases hz with rfl | rfl; exact Or.inl rfl; exact Or.inr rfl) hfz ⟨fun _ => by omega, fun q => by cases q⟩ (Or.inl rfl) kk
theorem x_putL {ci N kf idx : Nat} {fz : zF} {r z : Int} (hd : decode M.2.1 pc = .ok (.putfield idx, 3)) (hf : zFL M.1.cls idx ci kf 1 false) (hty : ty r = some (ci, N, fz)) (hi : zty ci kf = .long) (hfz : fz (kf : Int) = none) (hrg : i64 z) (kk : zX D M d k n (pc + 3) L st ty sz (zup h r kf z) Q) : zX D M d k n pc L (lV z :: rV r :: st) ty sz h Q := x_put hd hf hty rfl (by rw [hi]; exact ⟨z, rfl⟩) hfz ⟨fun q => (by cases q), fun _ => hrg⟩ (Or.inl rfl) kk
theorem x_putR {ci N kf idx : Nat} {fz : zF} {r z : Int} {C : String} (hd : decode M.2.1 pc = .ok (.putfield idx, 3)) (hf : zFL M.1.cls idx ci kf 2 false) (hty : ty r = some (ci, N, fz)) (hi : zty ci kf = .object C) (hfz : fz (kf : Int) = none) (kk : zX D M d k n (pc + 3) L st ty sz (zup h r kf z) Q) : zX D M d k n pc L (rV z :: rV r :: st) ty sz h Q := x_put hd hf hty rfl (by rw [hi]; exact ⟨z, rfl⟩) hfz ⟨fun q => (by cases q), fun q => (by cases q)⟩ (Or.inl rfl) kk
theorem x_putIF {ci N kf idx : Nat} {fz : zF} {r z : Int} (hd : decode M.2.1 pc = .ok (.putfield idx, 3)) (hf : zFL M.1.cls idx ci kf 0 true) (hty : ty r = some (ci, N, fz)) (hi : zty ci kf = .int) (hn : M.1.name = "<init>" ∧ (zC[ci]?).map (fun q => q.1) = some M.1.cls) (hfz : fz (kf : Int) = none) (hrg : i32 z) (kk : zX D M d k n (pc + 3) L st ty sz (zup h r kf z) Q) : zX D M d k n pc L (iV z :: rV r :: st) ty sz h Q := x_put hd hf hty rfl (by rw [hi]; exact ⟨z, rfl⟩) hfz ⟨fun _ => hrg, fun q => by cases q⟩ (Or.inr ⟨rfl, hn⟩) kk
theorem x_putRF {ci N kf idx : Nat} {fz : zF} {r z : Int} (hd : decode M.2.1 pc = .ok (.putfield idx, 3)) (hf : zFL M.1.cls idx ci kf 2 true) (hty : ty r = some (ci, N, fz)) (hi : (∃ C, zty ci kf = .object C) ∨ ∃ C, zty ci kf = .array C) (hn : M.1.name = "<init>" ∧ (zC[ci]?).map (fun q => q.1) = some M.1.cls) (hfz : fz (kf : Int) = none) (kk : zX D M d k n (pc + 3) L st ty sz (zup h r kf z) Q) : zX D M d k n pc L (rV z :: rV r :: st) ty sz h Q := x_put hd hf hty rfl (by rcases hi with ⟨C, hi⟩ | ⟨C, hi⟩ <;> rw [hi] <;> exact ⟨z, rfl⟩) hfz ⟨fun q => (by cases q), fun q => (by cases q)⟩ (Or.inr ⟨rfl, hn⟩) kk
end ZX
