section C20
variable {D : va_G} {d : Nat} {ty : zT} {sz : Nat} {h : zH} {Q : zQ}
theorem y_newI {M : zM} {d k n pc N : Nat} {L : List (Nat × zV)} {st : List zV} (a : Int) (ha : (sz : Int) = a) (hd : decode M.2.1 pc = .ok (.newarray .int, 2)) (hw : Cond.arrayClass .int ∈ zTB) (hN : N ≤ 10000) (kk : zX D M d k n (pc + 2) L (rV a :: st) (znew ty a 8 N) (sz + 1) (zrow h a (fun _ => 0)) Q) : zX D M d (k + 1) (n + N) pc L (iV N :: st) ty sz h Q := by
  subst ha
  exact x_newI hd hw hN kk
theorem y_newJ {M : zM} {d k n pc N : Nat} {L : List (Nat × zV)} {st : List zV} (a : Int) (ha : (sz : Int) = a) (hd : decode M.2.1 pc = .ok (.newarray .long, 2)) (hw : Cond.arrayClass .long ∈ zTB) (hN : N ≤ 10000) (kk : zX D M d k n (pc + 2) L (rV a :: st) (znew ty a 9 N) (sz + 1) (zrow h a (fun _ => 0)) Q) : zX D M d (k + 1) (n + N) pc L (iV N :: st) ty sz h Q := by
  subst ha
  exact x_newJ hd hw hN kk
theorem y_newZ {M : zM} {d k n pc N : Nat} {L : List (Nat × zV)} {st : List zV} (a : Int) (ha : (sz : Int) = a) (hd : decode M.2.1 pc = .ok (.newarray .boolean, 2)) (hw : Cond.arrayClass .boolean ∈ zTB) (hN : N ≤ 10000) (kk : zX D M d k n (pc + 2) L (rV a :: st) (znew ty a 10 N) (sz + 1) (zrow h a (fun _ => 0)) Q) : zX D M d (k + 1) (n + N) pc L (iV N :: st) ty sz h Q := by
  subst ha
  exact x_newZ hd hw hN kk
theorem y_anew {M : zM} {d k n pc : Nat} {L : List (Nat × zV)} {st : List zV} {kc idx N : Nat} {C : String} (a : Int) (ha : (sz : Int) = a) (hd : decode M.2.1 pc = .ok (.anewarray idx, 3)) (hk : (kc = 11 ∧ C = RX2) ∨ (kc = 12 ∧ C = RX1) ∨ (kc = 13 ∧ C = RX3)) (hcl : Cond.classLink M.1.cls idx C ∈ zTB) (hN : N ≤ 10000) (kk : zX D M d k n (pc + 3) L (rV a :: st) (znew ty a kc N) (sz + 1) (zrow h a (fun _ => -1)) Q) : zX D M d (k + 1) (n + N) pc L (iV N :: st) ty sz h Q := by
  subst ha
  exact x_anew hd hk hcl hN kk
theorem y_new {M : zM} {d k n pc : Nat} {L : List (Nat × zV)} {st : List zV} {ci idx : Nat} {q : vw_C} (a : Int) (ha : (sz : Int) = a) (hd : decode M.2.1 pc = .ok (.new idx, 3)) (hq : zC[ci]? = some q) (h8 : ci < 8) (hcl : Cond.classLink M.1.cls idx q.1 ∈ zTB) (hins : Cond.instantiable q.1 q.2.2 ∈ zTB) (hini : Cond.initialized q.1 ∈ zTB) (hin : ∀ w ∈ u_ws q.1 q.2.1 q.2.2, w ∈ zTB) (kk : zX D M d k n (pc + 3) L (rV a :: st) (znew ty a ci q.2.2) (sz + 1) (zrow h a (zdef ci)) Q) : zX D M d (k + 1) (n + q.2.2) pc L st ty sz h Q := by
  subst ha
  exact x_new hd hq h8 hcl hins hini hin kk
theorem znew_ne {a q : Int} {k n : Nat} (hq : q ≠ a) : znew ty a k n q = ty q := if_neg hq
theorem znew_eq {a : Int} {k n : Nat} : znew ty a k n a = some (k, n, zn) := if_pos rfl
theorem zfrz_ne {a q : Int} {z : zF} (hq : q ≠ a) : zfrz ty a z q = ty q := if_neg hq
theorem zfrz_eq {a : Int} {k n : Nat} {z y : zF} (h0 : ty a = some (k, n, y)) : zfrz ty a z a = some (k, n, z) := by unfold zfrz; rw [if_pos rfl, h0]; rfl
theorem zrow_at (h : zH) (a : Int) (f : Int → Int) (a' k' : Int) : zrow h a f a' k' = if a' = a then f k' else h a' k' := rfl
theorem zrow_eq {a : Int} {f : Int → Int} : zrow h a f a = f := by funext k; exact if_pos rfl
/-- nothing below r has changed -/
def zBel (r : Int) (ty ty' : zT) (h h' : zH) : Prop := ∀ q, q < r → ty' q = ty q ∧ h' q = h q
theorem zBel.t {r r' : Int} {ty ty' ty2 : zT} {h h' h2 : zH} (h1 : zBel r ty ty' h h') (h3 : zBel r' ty' ty2 h' h2) (hr : r ≤ r') : zBel r ty ty2 h h2 := fun q hq => ⟨((h3 q (by omega)).1).trans (h1 q hq).1, ((h3 q (by omega)).2).trans (h1 q hq).2⟩

set_option maxHeartbeats 4000000 in
set_option maxRecDepth 100000 in
theorem c_rInit {r : Int} (hr : ty r = some (5, 7, zn)) (h0 : h r = zdef 5) (h9 : 0 ≤ r ∧ (sz : Int) = r + 1) (hq : ∀ ty' h', zBel r ty ty' h h' → isRT ty' r → h' r 1 = 0 → Q none ty' (sz + 2) h') : zXM D mX5_init (d + 1) 2 1503 [rV r] ty sz h Q := by
  refine x_aload_n (pc := 0) dX5_init_0 rfl ?_
  refine x_objInit (pc := 1) dX5_init_1 (k_RX5_3 _ rfl) tobj_in tobj_code (by omega) (Nat.le_of_ble_eq_true rfl) ?_
  refine x_aload_n (pc := 4) dX5_init_4 rfl ?_
  refine x_sipush (pc := 5) dX5_init_5 (by decide) ?_
  refine y_newI (N := 1500) (r + 1) (by omega) (pc := 8) dX5_init_8 tarr_int (by decide) ?_
  refine y_putRF 0 (pc := 10) dX5_init_10 f_RX5_9 (by first | assumption | (rw [znew_ne (by omega)]; assumption) | (rw [zfrz_ne (by omega)]; assumption) | (rw [znew_ne (by omega), znew_ne (by omega)]; assumption) | (rw [znew_ne (by omega), znew_ne (by omega), znew_ne (by omega)]; assumption) | (rw [znew_ne (by omega), znew_ne (by omega), znew_ne (by omega), znew_ne (by omega)]; assumption) | (rw [znew_ne (by omega), znew_ne (by omega), znew_ne (by omega), znew_ne (by omega), znew_ne (by omega)]; assumption)) (by first | exact Or.inl ⟨_, rfl⟩ | exact Or.inr ⟨_, rfl⟩) ⟨rfl, rfl⟩ (by rfl) rfl ?_
  refine x_aload_n (pc := 13) dX5_init_13 rfl ?_
  refine x_iconst (pc := 14) dX5_init_14 ?_
  refine y_newI (N := 3) (r + 2) (by omega) (pc := 15) dX5_init_15 tarr_int (by decide) ?_
  refine y_putRF 6 (pc := 17) dX5_init_17 f_RX5_15 (by first | assumption | (rw [znew_ne (by omega)]; assumption) | (rw [zfrz_ne (by omega)]; assumption) | (rw [znew_ne (by omega), znew_ne (by omega)]; assumption) | (rw [znew_ne (by omega), znew_ne (by omega), znew_ne (by omega)]; assumption) | (rw [znew_ne (by omega), znew_ne (by omega), znew_ne (by omega), znew_ne (by omega)]; assumption) | (rw [znew_ne (by omega), znew_ne (by omega), znew_ne (by omega), znew_ne (by omega), znew_ne (by omega)]; assumption)) (by first | exact Or.inl ⟨_, rfl⟩ | exact Or.inr ⟨_, rfl⟩) ⟨rfl, rfl⟩ (by rfl) rfl ?_
  refine x_freeze (r := r) (kc := 5) (N := 7) (fun i => if i = 0 then some (r + 1) else if i = 6 then some (r + 2) else none) (by rw [znew_ne (by omega), znew_ne (by omega)]; exact hr) ?_ ?_
  · intro i v hi
    try simp only [] at hi
    repeat' split at hi
    all_goals first | (cases hi; done) | (cases hi; subst_vars; simp [zup_app, zrow_at, (show ¬ r = r + 1 by omega), (show ¬ r = r + 2 by omega), (show ¬ r + 1 = r by omega), (show ¬ r + 2 = r by omega), (show ¬ (r + 1 = r + 2) by omega), (show ¬ (r + 2 = r + 1) by omega)]; done)
  refine x_ret (pc := 20) ⟨dX5_init_20, rfl⟩ ?_
  refine hq _ _ ?_ ?_ ?_
  · intro q q1
    refine ⟨by rw [zfrz_ne (by omega), znew_ne (by omega), znew_ne (by omega)], ?_⟩
    repeat' first | rw [zup_ne (by omega)] | rw [zrow_ne (by omega)]
  · refine ⟨by omega, ?_, ?_, ?_⟩
    · exact zfrz_eq (k := 5) (n := 7) (y := zn) (by rw [znew_ne (by omega), znew_ne (by omega)]; exact hr)
    · rw [zfrz_ne (by omega), znew_ne (by omega)]; exact znew_eq
    · rw [zfrz_ne (by omega)]; exact znew_eq
  · simp [zup_app, zrow_at, h0, (show ¬ r = r + 1 by omega), (show ¬ r = r + 2 by omega), (show ¬ r + 1 = r by omega), (show ¬ r + 2 = r by omega), (show ¬ (r + 1 = r + 2) by omega), (show ¬ (r + 2 = r + 1) by omega)]
    rfl

set_option maxHeartbeats 4000000 in
set_option maxRecDepth 100000 in
theorem c_pInit {r : Int} (hr : ty r = some (4, 2, zn)) (h0 : h r = zdef 4) (h9 : 0 ≤ r ∧ (sz : Int) = r + 1) (hq : ∀ ty' h', zBel r ty ty' h h' → isPT ty' r → h' r 1 = 0 → Q none ty' (sz + 1) h') : zXM D mX4_init (d + 1) 1 1500 [rV r] ty sz h Q := by
  refine x_aload_n (pc := 0) dX4_init_0 rfl ?_
  refine x_objInit (pc := 1) dX4_init_1 (k_RX4_3 _ rfl) tobj_in tobj_code (by omega) (Nat.le_of_ble_eq_true rfl) ?_
  refine x_aload_n (pc := 4) dX4_init_4 rfl ?_
  refine x_sipush (pc := 5) dX4_init_5 (by decide) ?_
  refine y_newI (N := 1500) (r + 1) (by omega) (pc := 8) dX4_init_8 tarr_int (by decide) ?_
  refine y_putRF 0 (pc := 10) dX4_init_10 f_RX4_9 (by first | assumption | (rw [znew_ne (by omega)]; assumption) | (rw [zfrz_ne (by omega)]; assumption) | (rw [znew_ne (by omega), znew_ne (by omega)]; assumption) | (rw [znew_ne (by omega), znew_ne (by omega), znew_ne (by omega)]; assumption) | (rw [znew_ne (by omega), znew_ne (by omega), znew_ne (by omega), znew_ne (by omega)]; assumption) | (rw [znew_ne (by omega), znew_ne (by omega), znew_ne (by omega), znew_ne (by omega), znew_ne (by omega)]; assumption)) (by first | exact Or.inl ⟨_, rfl⟩ | exact Or.inr ⟨_, rfl⟩) ⟨rfl, rfl⟩ (by rfl) rfl ?_
  refine x_freeze (r := r) (kc := 4) (N := 2) (fun i => if i = 0 then some (r + 1) else none) (by rw [znew_ne (by omega)]; exact hr) ?_ ?_
  · intro i v hi
    try simp only [] at hi
    repeat' split at hi
    all_goals first | (cases hi; done) | (cases hi; subst_vars; simp [zup_app, zrow_at, (show ¬ r = r + 1 by omega), (show ¬ r + 1 = r by omega)]; done)
  refine x_ret (pc := 13) ⟨dX4_init_13, rfl⟩ ?_
  refine hq _ _ ?_ ?_ ?_
  · intro q q1
    refine ⟨by rw [zfrz_ne (by omega), znew_ne (by omega)], ?_⟩
    repeat' first | rw [zup_ne (by omega)] | rw [zrow_ne (by omega)]
  · refine ⟨by omega, ?_, ?_⟩
    · exact zfrz_eq (k := 4) (n := 2) (y := zn) (by rw [znew_ne (by omega)]; exact hr)
    · rw [zfrz_ne (by omega)]; exact znew_eq
  · simp [zup_app, zrow_at, h0, (show ¬ r = r + 1 by omega), (show ¬ r + 1 = r by omega)]
    rfl

set_option maxHeartbeats 4000000 in
set_option maxRecDepth 100000 in
theorem c_bInit {r : Int} (hr : ty r = some (0, 5, zn)) (h0 : h r = zdef 0) (h9 : 0 ≤ r ∧ (sz : Int) = r + 1) (hq : ∀ ty' h', zBel r ty ty' h h' → isBT ty' r → (h' r 3 = 0 ∧ h' r 4 = -1) → Q none ty' (sz + 3) h') : zXM D mX0_init (d + 1) 3 39 [rV r] ty sz h Q := by
  refine x_aload_n (pc := 0) dX0_init_0 rfl ?_
  refine x_objInit (pc := 1) dX0_init_1 (k_RX0_3 _ rfl) tobj_in tobj_code (by omega) (Nat.le_of_ble_eq_true rfl) ?_
  refine x_aload_n (pc := 4) dX0_init_4 rfl ?_
  refine x_bipush (pc := 5) dX0_init_5 (by decide) ?_
  refine y_newI (N := 13) (r + 1) (by omega) (pc := 7) dX0_init_7 tarr_int (by decide) ?_
  refine y_putRF 0 (pc := 9) dX0_init_9 f_RX0_9 (by first | assumption | (rw [znew_ne (by omega)]; assumption) | (rw [zfrz_ne (by omega)]; assumption) | (rw [znew_ne (by omega), znew_ne (by omega)]; assumption) | (rw [znew_ne (by omega), znew_ne (by omega), znew_ne (by omega)]; assumption) | (rw [znew_ne (by omega), znew_ne (by omega), znew_ne (by omega), znew_ne (by omega)]; assumption) | (rw [znew_ne (by omega), znew_ne (by omega), znew_ne (by omega), znew_ne (by omega), znew_ne (by omega)]; assumption)) (by first | exact Or.inl ⟨_, rfl⟩ | exact Or.inr ⟨_, rfl⟩) ⟨rfl, rfl⟩ (by rfl) rfl ?_
  refine x_aload_n (pc := 12) dX0_init_12 rfl ?_
  refine x_bipush (pc := 13) dX0_init_13 (by decide) ?_
  refine y_newI (N := 13) (r + 2) (by omega) (pc := 15) dX0_init_15 tarr_int (by decide) ?_
  refine y_putRF 1 (pc := 17) dX0_init_17 f_RX0_15 (by first | assumption | (rw [znew_ne (by omega)]; assumption) | (rw [zfrz_ne (by omega)]; assumption) | (rw [znew_ne (by omega), znew_ne (by omega)]; assumption) | (rw [znew_ne (by omega), znew_ne (by omega), znew_ne (by omega)]; assumption) | (rw [znew_ne (by omega), znew_ne (by omega), znew_ne (by omega), znew_ne (by omega)]; assumption) | (rw [znew_ne (by omega), znew_ne (by omega), znew_ne (by omega), znew_ne (by omega), znew_ne (by omega)]; assumption)) (by first | exact Or.inl ⟨_, rfl⟩ | exact Or.inr ⟨_, rfl⟩) ⟨rfl, rfl⟩ (by rfl) rfl ?_
  refine x_aload_n (pc := 20) dX0_init_20 rfl ?_
  refine x_bipush (pc := 21) dX0_init_21 (by decide) ?_
  refine y_newI (N := 13) (r + 3) (by omega) (pc := 23) dX0_init_23 tarr_int (by decide) ?_
  refine y_putRF 2 (pc := 25) dX0_init_25 f_RX0_18 (by first | assumption | (rw [znew_ne (by omega)]; assumption) | (rw [zfrz_ne (by omega)]; assumption) | (rw [znew_ne (by omega), znew_ne (by omega)]; assumption) | (rw [znew_ne (by omega), znew_ne (by omega), znew_ne (by omega)]; assumption) | (rw [znew_ne (by omega), znew_ne (by omega), znew_ne (by omega), znew_ne (by omega)]; assumption) | (rw [znew_ne (by omega), znew_ne (by omega), znew_ne (by omega), znew_ne (by omega), znew_ne (by omega)]; assumption)) (by first | exact Or.inl ⟨_, rfl⟩ | exact Or.inr ⟨_, rfl⟩) ⟨rfl, rfl⟩ (by rfl) rfl ?_
  refine x_aload_n (pc := 28) dX0_init_28 rfl ?_
  refine x_ldc2 (pc := 29) dX0_init_29 (-1) tc_RX0_21 (by decide) ?_
  refine y_putL 4 (pc := 32) dX0_init_32 f_RX0_23 (by first | assumption | (rw [znew_ne (by omega)]; assumption) | (rw [zfrz_ne (by omega)]; assumption) | (rw [znew_ne (by omega), znew_ne (by omega)]; assumption) | (rw [znew_ne (by omega), znew_ne (by omega), znew_ne (by omega)]; assumption) | (rw [znew_ne (by omega), znew_ne (by omega), znew_ne (by omega), znew_ne (by omega)]; assumption) | (rw [znew_ne (by omega), znew_ne (by omega), znew_ne (by omega), znew_ne (by omega), znew_ne (by omega)]; assumption)) rfl (by rfl) (by omega) rfl ?_
  refine x_freeze (r := r) (kc := 0) (N := 5) (fun i => if i = 0 then some (r + 1) else if i = 1 then some (r + 2) else if i = 2 then some (r + 3) else none) (by rw [znew_ne (by omega), znew_ne (by omega), znew_ne (by omega)]; exact hr) ?_ ?_
  · intro i v hi
    try simp only [] at hi
    repeat' split at hi
    all_goals first | (cases hi; done) | (cases hi; subst_vars; simp [zup_app, zrow_at, (show ¬ r = r + 1 by omega), (show ¬ r = r + 2 by omega), (show ¬ r = r + 3 by omega), (show ¬ r + 1 = r by omega), (show ¬ r + 2 = r by omega), (show ¬ r + 3 = r by omega), (show ¬ (r + 1 = r + 2) by omega), (show ¬ (r + 1 = r + 3) by omega), (show ¬ (r + 2 = r + 1) by omega), (show ¬ (r + 2 = r + 3) by omega), (show ¬ (r + 3 = r + 1) by omega), (show ¬ (r + 3 = r + 2) by omega)]; done)
  refine x_ret (pc := 35) ⟨dX0_init_35, rfl⟩ ?_
  refine hq _ _ ?_ ?_ ?_
  · intro q q1
    refine ⟨by rw [zfrz_ne (by omega), znew_ne (by omega), znew_ne (by omega), znew_ne (by omega)], ?_⟩
    repeat' first | rw [zup_ne (by omega)] | rw [zrow_ne (by omega)]
  · refine ⟨by omega, ?_, ?_, ?_, ?_⟩
    · exact zfrz_eq (k := 0) (n := 5) (y := zn) (by rw [znew_ne (by omega), znew_ne (by omega), znew_ne (by omega)]; exact hr)
    · rw [zfrz_ne (by omega), znew_ne (by omega), znew_ne (by omega)]; exact znew_eq
    · rw [zfrz_ne (by omega), znew_ne (by omega)]; exact znew_eq
    · rw [zfrz_ne (by omega)]; exact znew_eq
  · refine ⟨?_, by simp [zup_app]⟩
    simp [zup_app, zrow_at, h0, (show ¬ r = r + 1 by omega), (show ¬ r = r + 2 by omega), (show ¬ r = r + 3 by omega), (show ¬ r + 1 = r by omega), (show ¬ r + 2 = r by omega), (show ¬ r + 3 = r by omega), (show ¬ (r + 1 = r + 2) by omega), (show ¬ (r + 1 = r + 3) by omega), (show ¬ (r + 2 = r + 1) by omega), (show ¬ (r + 2 = r + 3) by omega), (show ¬ (r + 3 = r + 1) by omega), (show ¬ (r + 3 = r + 2) by omega)]
    rfl

set_option maxHeartbeats 4000000 in
set_option maxRecDepth 100000 in
theorem c_kInit {r : Int} (hr : ty r = some (3, 15, zn)) (h0 : h r = zdef 3) (h9 : 0 ≤ r ∧ (sz : Int) = r + 1) (hq : ∀ ty' h', zBel r ty ty' h h' → isKT ty' r → True → Q none ty' (sz + 5) h') : zXM D mX3_init (d + 1) 5 50 [rV r] ty sz h Q := by
  refine x_aload_n (pc := 0) dX3_init_0 rfl ?_
  refine x_objInit (pc := 1) dX3_init_1 (k_RX3_3 _ rfl) tobj_in tobj_code (by omega) (Nat.le_of_ble_eq_true rfl) ?_
  refine x_aload_n (pc := 4) dX3_init_4 rfl ?_
  refine x_bipush (pc := 5) dX3_init_5 (by decide) ?_
  refine y_newI (N := 10) (r + 1) (by omega) (pc := 7) dX3_init_7 tarr_int (by decide) ?_
  refine y_putRF 2 (pc := 9) dX3_init_9 f_RX3_9 (by first | assumption | (rw [znew_ne (by omega)]; assumption) | (rw [zfrz_ne (by omega)]; assumption) | (rw [znew_ne (by omega), znew_ne (by omega)]; assumption) | (rw [znew_ne (by omega), znew_ne (by omega), znew_ne (by omega)]; assumption) | (rw [znew_ne (by omega), znew_ne (by omega), znew_ne (by omega), znew_ne (by omega)]; assumption) | (rw [znew_ne (by omega), znew_ne (by omega), znew_ne (by omega), znew_ne (by omega), znew_ne (by omega)]; assumption)) (by first | exact Or.inl ⟨_, rfl⟩ | exact Or.inr ⟨_, rfl⟩) ⟨rfl, rfl⟩ (by rfl) rfl ?_
  refine x_aload_n (pc := 12) dX3_init_12 rfl ?_
  refine x_bipush (pc := 13) dX3_init_13 (by decide) ?_
  refine y_newI (N := 10) (r + 2) (by omega) (pc := 15) dX3_init_15 tarr_int (by decide) ?_
  refine y_putRF 3 (pc := 17) dX3_init_17 f_RX3_15 (by first | assumption | (rw [znew_ne (by omega)]; assumption) | (rw [zfrz_ne (by omega)]; assumption) | (rw [znew_ne (by omega), znew_ne (by omega)]; assumption) | (rw [znew_ne (by omega), znew_ne (by omega), znew_ne (by omega)]; assumption) | (rw [znew_ne (by omega), znew_ne (by omega), znew_ne (by omega), znew_ne (by omega)]; assumption) | (rw [znew_ne (by omega), znew_ne (by omega), znew_ne (by omega), znew_ne (by omega), znew_ne (by omega)]; assumption)) (by first | exact Or.inl ⟨_, rfl⟩ | exact Or.inr ⟨_, rfl⟩) ⟨rfl, rfl⟩ (by rfl) rfl ?_
  refine x_aload_n (pc := 20) dX3_init_20 rfl ?_
  refine x_bipush (pc := 21) dX3_init_21 (by decide) ?_
  refine y_newI (N := 10) (r + 3) (by omega) (pc := 23) dX3_init_23 tarr_int (by decide) ?_
  refine y_putRF 4 (pc := 25) dX3_init_25 f_RX3_18 (by first | assumption | (rw [znew_ne (by omega)]; assumption) | (rw [zfrz_ne (by omega)]; assumption) | (rw [znew_ne (by omega), znew_ne (by omega)]; assumption) | (rw [znew_ne (by omega), znew_ne (by omega), znew_ne (by omega)]; assumption) | (rw [znew_ne (by omega), znew_ne (by omega), znew_ne (by omega), znew_ne (by omega)]; assumption) | (rw [znew_ne (by omega), znew_ne (by omega), znew_ne (by omega), znew_ne (by omega), znew_ne (by omega)]; assumption)) (by first | exact Or.inl ⟨_, rfl⟩ | exact Or.inr ⟨_, rfl⟩) ⟨rfl, rfl⟩ (by rfl) rfl ?_
  refine x_aload_n (pc := 28) dX3_init_28 rfl ?_
  refine x_bipush (pc := 29) dX3_init_29 (by decide) ?_
  refine y_newI (N := 10) (r + 4) (by omega) (pc := 31) dX3_init_31 tarr_int (by decide) ?_
  refine y_putRF 5 (pc := 33) dX3_init_33 f_RX3_21 (by first | assumption | (rw [znew_ne (by omega)]; assumption) | (rw [zfrz_ne (by omega)]; assumption) | (rw [znew_ne (by omega), znew_ne (by omega)]; assumption) | (rw [znew_ne (by omega), znew_ne (by omega), znew_ne (by omega)]; assumption) | (rw [znew_ne (by omega), znew_ne (by omega), znew_ne (by omega), znew_ne (by omega)]; assumption) | (rw [znew_ne (by omega), znew_ne (by omega), znew_ne (by omega), znew_ne (by omega), znew_ne (by omega)]; assumption)) (by first | exact Or.inl ⟨_, rfl⟩ | exact Or.inr ⟨_, rfl⟩) ⟨rfl, rfl⟩ (by rfl) rfl ?_
  refine x_aload_n (pc := 36) dX3_init_36 rfl ?_
  refine x_bipush (pc := 37) dX3_init_37 (by decide) ?_
  refine y_newI (N := 10) (r + 5) (by omega) (pc := 39) dX3_init_39 tarr_int (by decide) ?_
  refine y_putRF 6 (pc := 41) dX3_init_41 f_RX3_24 (by first | assumption | (rw [znew_ne (by omega)]; assumption) | (rw [zfrz_ne (by omega)]; assumption) | (rw [znew_ne (by omega), znew_ne (by omega)]; assumption) | (rw [znew_ne (by omega), znew_ne (by omega), znew_ne (by omega)]; assumption) | (rw [znew_ne (by omega), znew_ne (by omega), znew_ne (by omega), znew_ne (by omega)]; assumption) | (rw [znew_ne (by omega), znew_ne (by omega), znew_ne (by omega), znew_ne (by omega), znew_ne (by omega)]; assumption)) (by first | exact Or.inl ⟨_, rfl⟩ | exact Or.inr ⟨_, rfl⟩) ⟨rfl, rfl⟩ (by rfl) rfl ?_
  refine x_freeze (r := r) (kc := 3) (N := 15) (fun i => if i = 2 then some (r + 1) else if i = 3 then some (r + 2) else if i = 4 then some (r + 3) else if i = 5 then some (r + 4) else if i = 6 then some (r + 5) else none) (by rw [znew_ne (by omega), znew_ne (by omega), znew_ne (by omega), znew_ne (by omega), znew_ne (by omega)]; exact hr) ?_ ?_
  · intro i v hi
    try simp only [] at hi
    repeat' split at hi
    all_goals first | (cases hi; done) | (cases hi; subst_vars; simp [zup_app, zrow_at, (show ¬ r = r + 1 by omega), (show ¬ r = r + 2 by omega), (show ¬ r = r + 3 by omega), (show ¬ r = r + 4 by omega), (show ¬ r = r + 5 by omega), (show ¬ r + 1 = r by omega), (show ¬ r + 2 = r by omega), (show ¬ r + 3 = r by omega), (show ¬ r + 4 = r by omega), (show ¬ r + 5 = r by omega), (show ¬ (r + 1 = r + 2) by omega), (show ¬ (r + 1 = r + 3) by omega), (show ¬ (r + 1 = r + 4) by omega), (show ¬ (r + 1 = r + 5) by omega), (show ¬ (r + 2 = r + 1) by omega), (show ¬ (r + 2 = r + 3) by omega), (show ¬ (r + 2 = r + 4) by omega), (show ¬ (r + 2 = r + 5) by omega), (show ¬ (r + 3 = r + 1) by omega), (show ¬ (r + 3 = r + 2) by omega), (show ¬ (r + 3 = r + 4) by omega), (show ¬ (r + 3 = r + 5) by omega), (show ¬ (r + 4 = r + 1) by omega), (show ¬ (r + 4 = r + 2) by omega), (show ¬ (r + 4 = r + 3) by omega), (show ¬ (r + 4 = r + 5) by omega), (show ¬ (r + 5 = r + 1) by omega), (show ¬ (r + 5 = r + 2) by omega), (show ¬ (r + 5 = r + 3) by omega), (show ¬ (r + 5 = r + 4) by omega)]; done)
  refine x_ret (pc := 44) ⟨dX3_init_44, rfl⟩ ?_
  refine hq _ _ ?_ ?_ ?_
  · intro q q1
    refine ⟨by rw [zfrz_ne (by omega), znew_ne (by omega), znew_ne (by omega), znew_ne (by omega), znew_ne (by omega), znew_ne (by omega)], ?_⟩
    repeat' first | rw [zup_ne (by omega)] | rw [zrow_ne (by omega)]
  · refine ⟨by omega, ?_, ?_, ?_, ?_, ?_, ?_⟩
    · exact zfrz_eq (k := 3) (n := 15) (y := zn) (by rw [znew_ne (by omega), znew_ne (by omega), znew_ne (by omega), znew_ne (by omega), znew_ne (by omega)]; exact hr)
    · rw [zfrz_ne (by omega), znew_ne (by omega), znew_ne (by omega), znew_ne (by omega), znew_ne (by omega)]; exact znew_eq
    · rw [zfrz_ne (by omega), znew_ne (by omega), znew_ne (by omega), znew_ne (by omega)]; exact znew_eq
    · rw [zfrz_ne (by omega), znew_ne (by omega), znew_ne (by omega)]; exact znew_eq
    · rw [zfrz_ne (by omega), znew_ne (by omega)]; exact znew_eq
    · rw [zfrz_ne (by omega)]; exact znew_eq
  · exact trivial

theorem isKT.bel {ty ty' : zT} {a : Int} (e : ∀ q, a ≤ q → q ≤ a + 5 → ty' q = ty q) (h : isKT ty a) : isKT ty' a := by
  unfold isKT at *
  rw [e a (by omega) (by omega), e (a + 1) (by omega) (by omega), e (a + 2) (by omega) (by omega), e (a + 3) (by omega) (by omega), e (a + 4) (by omega) (by omega), e (a + 5) (by omega) (by omega)]
  exact h
theorem isET.bel {ty ty' : zT} {a : Int} (e : ∀ q, a ≤ q → q ≤ a + 61 → ty' q = ty q) (h : isET ty a) : isET ty' a := by
  obtain ⟨h1, h2, h3, h4⟩ := h
  exact ⟨h1, (e _ (by omega) (by omega)).trans h2, (e _ (by omega) (by omega)).trans h3, fun k k0 k1 => (h4 k k0 k1).bel (fun q q0 q1 => e q (by omega) (by omega))⟩

set_option maxHeartbeats 4000000 in
set_option maxRecDepth 100000 in
theorem c_eInit15 {e : Int} {t0 : zT} {g0 : zH} {s0 : Nat} (h9 : 0 ≤ e) (hx : t0 e = some (1, 1, (fun i => if i = 0 then some (e + 1) else none))) (hs : (s0 : Int) = e + 62) (hq : ∀ ty' h', zBel e t0 ty' g0 h' → isET ty' e → Q none ty' s0 h') : ∀ (n : Nat) (k : Nat) (t : zT) (g : zH) (s : Nat), k ≤ 10 → (s : Int) = e + 2 + 6 * k → zBel (e + 1) t0 t g0 g → t (e + 1) = some (13, 10, zn) → (∀ j : Int, 0 ≤ j → j < k → isKT t (e + 2 + 6 * j) ∧ g (e + 1) j = e + 2 + 6 * j) → 10 - k < n → zX D mX1_init (d + 2) (6 * (10 - k)) (65 * (10 - k)) 15 [(1, iV (k : Int)), (0, rV e)] [] t s g Q := by
  intro n
  induction n with
  | zero =>
    intro k t g s h1 hs1 hb ht1 hK hm
    exfalso
    omega
  | succ n ih =>
    intro k t g s h1 hs1 hb ht1 hK hm
    have hte : t e = _ := (hb e (by omega)).1.trans hx
    refine x_iload_n (pc := 15) dX1_init_15 rfl ?_
    refine x_aload_n (pc := 16) dX1_init_16 rfl ?_
    refine x_getF (pc := 17) dX1_init_17 f_RX1_11 (by assumption) (by rfl) ?_
    refine x_alen (pc := 20) dX1_init_20 (by assumption) (by decide) ?_
    refine x_icmp_ge (pc := 21) 43 dX1_init_21 rfl (fun c_21 => ?_) (fun c_21 => ?_)
    · (try simp (disch := omega) only [zb_e0, zb_n0, w32_id, w64_id, ne_eq, Classical.not_not] at c_21)
      refine x_freeze (r := e + 1) (kc := 13) (N := 10) (fun i => if 0 ≤ i ∧ i < 10 then some (e + 2 + 6 * i) else none) ht1 ?_ ?_
      · intro i v hi
        try simp only [] at hi
        split at hi
        · rename_i hi2
          cases hi
          exact (hK i hi2.1 (by omega)).2
        · cases hi
      refine x_ret (pc := 43) ⟨dX1_init_43, rfl⟩ ?_
      have es : s = s0 := by omega
      subst es
      have ek : k = 10 := by omega
      subst ek
      refine hq _ _ (fun q hq1 => ⟨by rw [zfrz_ne (by omega)]; exact (hb q (by omega)).1, (hb q (by omega)).2⟩) ⟨h9, by rw [zfrz_ne (by omega)]; exact hte, zfrz_eq (y := zn) ht1, fun k k0 k1 => ?_⟩
      exact (hK k k0 k1).1.bel (fun q q0 q1 => zfrz_ne (by omega))
    · (try simp (disch := omega) only [zb_e0, zb_n0, w32_id, w64_id, ne_eq, Classical.not_not] at c_21)
      refine x_room (d' := d + 2) (k' := 6 * (9 - k) + 6) (n' := 65 * (9 - k) + 65) (Nat.le_refl _) (by omega) (by omega) ?_
      refine x_aload_n (pc := 24) dX1_init_24 rfl ?_
      refine x_getF (pc := 25) dX1_init_25 f_RX1_11 (by assumption) (by rfl) ?_
      refine x_iload_n (pc := 28) dX1_init_28 rfl ?_
      refine y_new (e + 2 + 6 * k) (by omega) (pc := 29) dX1_init_29 (ci := 3) (k := 6 * (9 - k) + 5) (n := 65 * (9 - k) + 50) rfl (by decide) tcl_RX1_9 tin_RX3 tini_RX3 iX3 ?_
      refine x_dup (pc := 32) dX1_init_32 rfl ?_
      refine x_callI0 (pc := 33) 5 50 dX1_init_33 (k_RX1_17 _ rfl) tmi_X3_init (by omega) rfl rfl ?_
      refine c_kInit (r := e + 2 + 6 * k) znew_eq zrow_eq (by omega) (fun t2 g2 hb2 hK2 _ => ?_)
      have ht2 : t2 (e + 1) = some (13, 10, zn) := by rw [(hb2 _ (by omega)).1, znew_ne (by omega)]; exact ht1
      dsimp only [Option.toList, List.cons_append, List.nil_append]
      refine x_aast (pc := 36) dX1_init_36 ht2 (by decide) hK2.2.1 (by omega) (by omega) (by rfl) ?_
      refine x_iinc (pc := 37) dX1_init_37 rfl (by decide) ?_
      refine x_goto (pc := 40) 15 dX1_init_40 rfl ?_
      have hbe : ∀ q, q < e + 2 + 6 * k → t2 q = t q := fun q hq1 => by rw [(hb2 _ (by omega)).1, znew_ne (by omega)]
      have hge : ∀ q, q < e + 2 + 6 * k → g2 q = g q := fun q hq1 => by rw [(hb2 _ (by omega)).2, zrow_ne (by omega)]
      refine x_room (d' := d + 2) (k' := 6 * (10 - (k + 1))) (n' := 65 * (10 - (k + 1))) (Nat.le_refl _) (by omega) (by omega) (x_loc [(1, iV (((k + 1 : Nat)) : Int)), (0, rV e)] ⟨rfl, rfl, trivial⟩ (ih (k + 1) t2 _ (s + 1 + 5) (by omega) (by omega) ?_ ht2 ?_ (by omega)))
      · intro q hq1
        rw [zup_ne (by omega)]
        exact ⟨(hbe q (by omega)).trans (hb q hq1).1, (hge q (by omega)).trans (hb q hq1).2⟩
      · intro j j0 j1
        by_cases ej : j = k
        · subst ej
          exact ⟨hK2, by rw [zup_app, if_pos ⟨rfl, rfl⟩]⟩
        · obtain ⟨q1, q2⟩ := hK j j0 (by omega)
          refine ⟨q1.bel (fun q q0 q1 => hbe q (by omega)), ?_⟩
          rw [zup_app, if_neg (by omega), hge _ (by omega)]
          exact q2

set_option maxHeartbeats 4000000 in
set_option maxRecDepth 100000 in
theorem c_eInit {e : Int} (hr : ty e = some (1, 1, zn)) (h0 : h e = zdef 1) (h9 : 0 ≤ e ∧ (sz : Int) = e + 1) (hq : ∀ ty' h', zBel e ty ty' h h' → isET ty' e → Q none ty' (sz + 61) h') : zXM D mX1_init (d + 2) 61 660 [rV e] ty sz h Q := by
  refine x_aload_n (pc := 0) dX1_init_0 rfl ?_
  refine x_objInit (pc := 1) dX1_init_1 (k_RX1_3 _ rfl) tobj_in tobj_code (by omega) (Nat.le_of_ble_eq_true rfl) ?_
  refine x_aload_n (pc := 4) dX1_init_4 rfl ?_
  refine x_bipush (pc := 5) dX1_init_5 (by decide) ?_
  refine y_anew (N := 10) (e + 1) (by omega) (pc := 7) dX1_init_7 (kc := 13) (C := RX3) (by decide +kernel) tcl_RX1_9 (by decide) ?_
  refine y_putRF 0 (pc := 10) dX1_init_10 f_RX1_11 (by first | assumption | (rw [znew_ne (by omega)]; assumption) | (rw [zfrz_ne (by omega)]; assumption) | (rw [znew_ne (by omega), znew_ne (by omega)]; assumption) | (rw [znew_ne (by omega), znew_ne (by omega), znew_ne (by omega)]; assumption) | (rw [znew_ne (by omega), znew_ne (by omega), znew_ne (by omega), znew_ne (by omega)]; assumption) | (rw [znew_ne (by omega), znew_ne (by omega), znew_ne (by omega), znew_ne (by omega), znew_ne (by omega)]; assumption)) (by first | exact Or.inl ⟨_, rfl⟩ | exact Or.inr ⟨_, rfl⟩) ⟨rfl, rfl⟩ (by rfl) rfl ?_
  refine x_freeze (r := e) (kc := 1) (N := 1) (fun i => if i = 0 then some (e + 1) else none) (by rw [znew_ne (by omega)]; exact hr) ?_ ?_
  · intro i v hi
    try simp only [] at hi
    split at hi
    · subst_vars
      cases hi
      simp [zup_app]
    · cases hi
  refine x_iconst (pc := 13) dX1_init_13 ?_
  refine x_istore_n (pc := 14) dX1_init_14 (by decide) ?_
  refine x_loc _ (by exact ⟨rfl, rfl, trivial⟩) (c_eInit15 (e := e) (s0 := sz + 61) h9.1 (zfrz_eq (y := zn) (by rw [znew_ne (by omega)]; exact hr)) (by omega) ?_ 11 0 _ _ _ (by omega) (by omega) (fun q q1 => ⟨rfl, rfl⟩) (by rw [zfrz_ne (by omega)]; exact znew_eq) (fun j j0 j1 => absurd j1 (by omega)) (by omega))
  intro ty2 h2 hb2 hE2
  refine hq ty2 h2 (fun q hq1 => ?_) hE2
  obtain ⟨q2, q3⟩ := hb2 q hq1
  rw [q2, q3, zfrz_ne (by omega), znew_ne (by omega), zup_ne (by omega), zrow_ne (by omega)]
  exact ⟨rfl, rfl⟩

end C20
