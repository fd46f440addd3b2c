section EE1
/-! both worlds side by side -/
variable {ty ty' : zT} {h h1 h2 h' : zH} {x m out lo : Int} {sz sz1 : Nat} {S S' : CS}
theorem mAbs.fr (hA : mAbs ty h m S) (ht : ∀ q y, ty q = some y → ty' q = some y) (e : ∀ q, m ≤ q → q ≤ m + 21 → h' q = h q) : mAbs ty' h' m S := by
  obtain ⟨hM, hT, hE, hI, hB, hP⟩ := hA
  have e0 : h' m = h m := e m (by omega) (by omega)
  exact ⟨hM.mono ht, ⟨hT.1.fr (by rw [e0]) (e _ (by omega) (by omega)), hT.2⟩, hE.fr (by rw [e0]) (fun a k a1 a2 _ => by rw [e a (by omega) (by omega)]) (fun k _ => by rw [e _ (by omega) (by omega)]), hI.fr (by rw [e0]) (fun a a1 a2 => e a (by omega) (by omega)), hB.fr (by rw [e0]) (fun a a1 a2 => e a (by omega) (by omega)), hP.fr (by rw [e0]) (e _ (by omega) (by omega))⟩
theorem zAbs.fr (hA : zAbs ty h x lo S) (ht : ∀ q y, ty q = some y → ty' q = some y) (e : ∀ q, x ≤ q → q ≤ x + 387 → h' q = h q) (e2 : ∀ q, lo ≤ q → h' q = h q) : zAbs ty' h' x lo S := by
  obtain ⟨hX, hL, hT, hE, hI, hB, hP⟩ := hA
  have e0 : h' x = h x := e x (by omega) (by omega)
  have hl := hE.2.1
  exact ⟨hX.mono ht, hL, hT.fr (fun q q0 q1 => e q (by omega) (by omega)), hE.fr (by rw [e0]) (fun q q0 q1 => e q (by omega) (by omega)), hI.fr (by rw [e0]) (e _ (by omega) (by omega)) (fun q q0 => e2 q q0) ht, hB.fr (fun q q0 q1 => e q (by omega) (by omega)), hP.fr (fun q q0 q1 => e q (by omega) (by omega))⟩
def LInv (ty : zT) (sz : Nat) (h : zH) (x m out lo : Int) (S : CS) : Prop := zAbs ty h x lo S ∧ mAbs ty h m S ∧ (ty out = some (9, 1, zn) ∧ 0 ≤ out) ∧ (x + 387 < m ∧ m + 21 < out ∧ out < lo ∧ lo ≤ sz) ∧ ∀ t ∈ cB S, i32 t.2.1
theorem LInv.mid (I : LInv ty sz h x m out lo S) (ht : ∀ q y, ty q = some y → ty' q = some y) (F : FrX x lo h h1) : mAbs ty' h1 m S := by
  obtain ⟨-, hM, -, ⟨l1, l2, l3, l4⟩, -⟩ := I
  exact hM.fr ht (fun q q0 q1 => F q (by omega) (by omega))
theorem LInv.step (I : LInv ty sz h x m out lo S) (ht : ∀ q y, ty q = some y → ty' q = some y) (hz : sz ≤ sz1) (A1 : zAbs ty' h1 x lo S') (F2 : FrM m h1 h2) (M2 : mAbs ty' h2 m S') (hb : ∀ t ∈ cB S', i32 t.2.1) : LInv ty' sz1 h2 x m out lo S' := by
  obtain ⟨-, -, ⟨ho, ho0⟩, ⟨l1, l2, l3, l4⟩, -⟩ := I
  exact ⟨A1.fr (fun q y z => z) (fun q q0 q1 => F2 q (by omega)) (fun q q0 => F2 q (by omega)), M2, ⟨ht _ _ ho, ho0⟩, ⟨l1, l2, l3, by omega⟩, hb⟩
theorem LInv.putv (I : LInv ty sz h x m out lo S) (v : Int) (hz : sz ≤ sz1) : LInv ty sz1 (zup h out 0 v) x m out lo S := by
  obtain ⟨hA, hM, ho, ⟨l1, l2, l3, l4⟩, hb⟩ := I
  exact ⟨hA.fr (fun q y z => z) (fun q q0 q1 => zup_ne (by omega)) (fun q q0 => zup_ne (by omega)), hM.fr (fun q y z => z) (fun q q0 q1 => zup_ne (by omega)), ho, ⟨l1, l2, l3, by omega⟩, hb⟩
theorem LInv.more (I : LInv ty sz h x m out lo S) (hz : sz ≤ sz1) : LInv ty sz1 h x m out lo S := by
  obtain ⟨hA, hM, ho, ⟨l1, l2, l3, l4⟩, hb⟩ := I
  exact ⟨hA, hM, ho, ⟨l1, l2, l3, by omega⟩, hb⟩
theorem zAbs.ok (hA : zAbs ty h x lo S) : ∀ l ∈ cE S, OKE l := by
  intro l hl
  obtain ⟨j, hj⟩ := List.getElem?_of_mem hl
  exact (hA.2.2.2.1.2.2 j l hj).2
theorem zAbs.parse (hA : zAbs ty h x lo S) : ∀ l, parse (cT S) = .inr l → WF l → OKE l ∧ (l.length : Int) ≤ 1501 := fun l hp hW => parse_OK hA.2.2.1.2 hp hW
theorem cB_sign (S : CS) (c : Int) : cB (S_sign S c) = cB S := by unfold S_sign; split <;> rfl
theorem cB_read (S : CS) : cB (S_read S).1 = cB S := by
  unfold S_read
  cases parse (cT S) with
  | inl f => rfl
  | inr l => dsimp only; split <;> rfl
theorem cB_item (S : CS) (k w a b c : Int) : cB (S_item S k w a b c).1 = cB S := by
  unfold S_item
  split
  · split <;> rfl
  · rfl
theorem cB_service (S : CS) (i s : Int) : cB (S_service S i s).1 = cB S := by
  unfold S_service
  cases S_it S i with
  | none => rfl
  | some it => dsimp only; split <;> rfl
theorem cB_print (S : CS) : cB (S_print S).1 = cB S := by unfold S_print; split <;> rfl
/-- a bill's amounts are small -/
theorem svL_b {h : zH} {a it zone step : Int} (hk : kOKp h a it zone step) : ∀ n : Nat, n ≤ 10 → ∀ t ∈ svL h a it n, i32 t.2.1
  | 0, _, t, ht => by simp [svL] at ht
  | n + 1, hn, t, ht => by
    by_cases hp : hasS h it n
    · rw [svL_y hp] at ht
      rcases List.mem_append.mp ht with z | z
      · exact svL_b hk n (by omega) t z
      · rw [List.mem_singleton.mp z]
        have := hk.2.2.2.1 n (by omega) (by omega) hp
        show i32 (h (a + 4) n)
        omega
    · rw [svL_n hp] at ht
      exact svL_b hk n (by omega) t ht
theorem kPl_b {h : zH} {a it zone step : Int} (hk : kOKp h a it zone step) : ∀ t ∈ kPl h a it zone step, i32 t.2.1 := by
  have h0 : ∀ t ∈ kPl0 h a it zone step, i32 t.2.1 := by
    intro t ht
    unfold kPl0 at ht
    rcases List.mem_append.mp ht with z | z
    · obtain ⟨-, c1, c2, -⟩ := hk
      have hz := zpct c1 c2
      unfold kBase at z
      rcases List.mem_cons.mp z with z | z
      · rw [z]
        show i32 (h (a + 2) step)
        omega
      · rw [List.mem_singleton.mp z]
        show i32 ((h (a + 2) step * h (a + 3) zone).tdiv 100)
        omega
    · exact svL_b hk 10 (Nat.le_refl _) t z
  have hs := (kPart_b hk 10 (Nat.le_refl _)).2.1
  have hs0 : 0 ≤ sumP (kPl0 h a it zone step) := hs
  intro t ht
  unfold kPl at ht
  split at ht
  · rcases List.mem_append.mp ht with z | z
    · exact h0 t z
    · rw [List.mem_singleton.mp z]
      have hn : 1 ≤ h a 14 ∧ h a 14 ≤ 1000 := by
        rcases hk.2.2.2.2 with y | y
        · omega
        · exact y
      have := zdu_up hs0 hn.1
      show i32 (zdu (sumP (kPl0 h a it zone step)) (h a 14) * h a 14 - sumP (kPl0 h a it zone step))
      omega
  · exact h0 t ht
theorem rBill_b {kr : List Row} {it : IT} {zone day : Int} (hB : ∀ r ∈ kr, rowB r) (hc : cntOK kr) (hb : itB it) (hz : 0 ≤ zone ∧ zone ≤ 9) : ∀ t ∈ (rBill kr it zone day).1, i32 t.2.1 := by
  intro t ht
  unfold rBill at ht
  split at ht
  · simp at ht
  · by_cases hp : kBillP (vH kr it) 0 10 zone day
    · rw [kBill_y hp] at ht
      have hK := vH_K kr it
      have hst := kStep_r hK hp.2.2
      exact kPl_b (kOK_M hB hc hb hz hp.2.1 (step := kStep (vH kr it) 0 (kWeight (vH kr it) 0 10)) ⟨hst.1, by have := hK.2.1; omega⟩) t ht
    · rw [kBill_n hp] at ht
      simp at ht
theorem cB_price {S : CS} {i zone day : Int} (hO : ∀ l ∈ cE S, OKE l) (hI : ∀ (j : Nat) (it : IT), (cI S)[j]? = some it → itB it) (hb : ∀ t ∈ cB S, i32 t.2.1) : ∀ t ∈ cB (S_price S i zone day).1, i32 t.2.1 := by
  by_cases hn : S_it S i = none
  · rw [S_price_none hn]; exact hb
  · obtain ⟨it, hit⟩ := Option.ne_none_iff_exists'.mp hn
    by_cases hr : S_refuse S zone day = 0
    · rw [S_price_in hit hr]
      obtain ⟨r1, -, r3⟩ := S_refuse_0 hr
      have hl := hO _ (List.mem_of_getElem? (S_last_get r3))
      exact rBill_b (OKE_K hl it.1).1 (OKE_K hl it.1).2 (hI _ _ (S_it_some hit).2) r1
    · rw [S_price_ref hit hr]; exact hb
theorem zAbs.its (hA : zAbs ty h x lo S) : ∀ (j : Nat) (it : IT), (cI S)[j]? = some it → itB it := fun j it hj => (hA.2.2.2.2.1.2.2.1 j it hj).2.2.2
/-- a long out of two ints -/
theorem zorL_rng (a b : Int) : i64 (zorL a b) := ⟨Int64.le_toInt _, by have := Int64.toInt_lt (Int64.ofInt a ||| Int64.ofInt b); unfold zorL; omega⟩
end EE1
section EE2
variable {D : va_G} {d k n pc : Nat} {Lc : List (Nat × zV)} {st : List zV} {ty : zT} {sz : Nat} {h : zH} {Q : zQ} {b L : Nat} {xs : Nat → Int32}
/-- an int of the script -/
def sv (xs : Nat → Int32) (i : Int) : Int := (xs i.toNat).toInt
theorem sv_rng (xs : Nat → Int32) (i : Int) : i32 (sv xs i) := ⟨Int32.le_toInt _, by have := Int32.toInt_lt (xs i.toNat); unfold sv; omega⟩
theorem x_slen (hL : L ≤ 288) (hd : decode cL_law pc = .ok (.arraylength, 1)) (kk : zX D (mLaw b L xs) d k n (pc + 1) Lc (iV L :: st) ty sz h Q) : zX D (mLaw b L xs) d k n pc Lc (rV b :: st) ty sz h Q := by
  intro p l e R s m args below meth c H locs ls cells slots mc ms A H0 G S Y hret
  have K := kk p l e R s m args below meth c H locs ls cells slots mc ms A H0 G S Y hret
  obtain ⟨hX, hbl, hbA, -⟩ := S.2.2.2.2.2.2.2.2.2.2.2.2.2.2.1 b L xs rfl
  show W p l e R s m args below meth c H locs cells slots G (F0 m pc ls (zcv (rV (b : Int)) :: st.map zcv))
  rw [zcv_r (by omega), Int.toNat_natCast]
  exact va_slen S.1 S.2.1 hX hbl hbA Y.1.2.2.2 hd K
theorem x_sld {i : Int} (hd : decode cL_law pc = .ok (.iaload, 1)) (h0 : 0 ≤ i) (h1 : i < L) (hL : L ≤ 288) (kk : i32 (sv xs i) → zX D (mLaw b L xs) d k n (pc + 1) Lc (iV (sv xs i) :: st) ty sz h Q) : zX D (mLaw b L xs) d k n pc Lc (iV i :: rV b :: st) ty sz h Q := by
  intro p l e R s m args below meth c H locs ls cells slots mc ms A H0 G S Y hret
  have K := kk (sv_rng xs i) p l e R s m args below meth c H locs ls cells slots mc ms A H0 G S Y hret
  obtain ⟨hX, hbl, hbA, -⟩ := S.2.2.2.2.2.2.2.2.2.2.2.2.2.2.1 b L xs rfl
  obtain ⟨e1, e2⟩ := z_ix (N := L) h0 h1 (by omega)
  show W p l e R s m args below meth c H locs cells slots G (F0 m pc ls (Value.int (Int32.ofInt i) :: zcv (rV (b : Int)) :: st.map zcv))
  rw [zcv_r (by omega), Int.toNat_natCast]
  refine va_sld S.1 S.2.1 hX hbl hbA Y.1.2.2.2 e2 hd ?_
  rw [e1]
  have ev : zcv (iV (sv xs i)) = Value.int (xs i.toNat) := by
    show Value.int (Int32.ofInt (sv xs i)) = _
    unfold sv
    rw [Int32.ofInt_toInt]
  have K2 : W p l e R s m args below meth c H locs cells slots G (F0 m (pc + 1) ls (zcv (iV (sv xs i)) :: st.map zcv)) := K
  rw [ev] at K2
  exact K2
end EE2
