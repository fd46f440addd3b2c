section C16
variable {D : va_G} {d : Nat} {ty : zT} {sz : Nat} {h : zH} {Q : zQ}
theorem x_ldcw {M : zM} {k n pc : Nat} {L : List (Nat × zV)} {st : List zV} {i : Nat} (hd : decode M.2.1 pc = .ok (.ldc_w i, 3)) (z : Int) {v : Int32} (hw : Cond.constant M.1.cls i v ∈ zTB) (hv : v = Int32.ofInt z := by rfl) (kk : zX D M d k n (pc + 3) L (iV z :: st) ty sz h Q) : zX D M d k n pc L (st) ty sz h Q := by
  intro p l e R s m args below meth c H locs ls cells slots mc ms A H0 G S Y hret
  have K := kk p l e R s m args below meth c H locs ls cells slots mc ms A H0 G S Y hret
  subst hv
  exact lv_ldcw S.1 S.2.1 S.2.2.2.2.1 (S.2.2.2.2.2.1 _ hw) hd K
/-- the bits of a small number, as they are counted -/
def bcA (m : Int) : Int := m - zand (zushr m 1) 1431655765
def bcB (a : Int) : Int := zand a 858993459 + zand (zushr a 2) 858993459
def bcC (b : Int) : Int := zand (b + zushr b 4) 252645135
def bcD (c : Int) : Int := c + zushr c 8
def bcE (c : Int) : Int := zand (c + zushr c 16) 63
theorem bc_popc {m : Nat} (hm : m < 1024) : bcE (bcD (bcC (bcB (bcA m)))) = popc m 10 := by
  have : ∀ m : Fin 1024, bcE (bcD (bcC (bcB (bcA (m.val : Int))))) = popc m.val 10 := by decide +kernel
  exact this ⟨m, hm⟩
theorem popc_rng (m : Nat) : ∀ n, 0 ≤ popc m n ∧ popc m n ≤ n
  | 0 => ⟨Int.le_refl _, Int.le_refl _⟩
  | n + 1 => by
    have := popc_rng m n
    unfold popc
    split <;> omega

set_option maxHeartbeats 4000000 in
set_option maxRecDepth 100000 in
theorem c_bits {m : Nat} (hm : m < 1024) (hq : Q (some (iV (popc m 10))) ty sz h) : zXM D mJ6_bitCount_0f7a4 d 0 0 [iV m] ty sz h Q := by
  refine x_iload_n (pc := 0) dJ6_bitCount_0f7a4_0 rfl ?_
  refine x_iload_n (pc := 1) dJ6_bitCount_0f7a4_1 rfl ?_
  refine x_iconst (pc := 2) dJ6_bitCount_0f7a4_2 ?_
  refine x_iushr (pc := 3) dJ6_bitCount_0f7a4_3 ?_
  refine x_ldcw (pc := 4) dJ6_bitCount_0f7a4_4 (1431655765) tc_RJ6_265 (by decide) ?_
  refine x_iand (pc := 7) dJ6_bitCount_0f7a4_7 ?_
  refine x_isub (pc := 8) dJ6_bitCount_0f7a4_8 ?_
  refine x_istore_n (pc := 9) dJ6_bitCount_0f7a4_9 (by decide) ?_
  refine x_iload_n (pc := 10) dJ6_bitCount_0f7a4_10 rfl ?_
  refine x_ldcw (pc := 11) dJ6_bitCount_0f7a4_11 (858993459) tc_RJ6_266 (by decide) ?_
  refine x_iand (pc := 14) dJ6_bitCount_0f7a4_14 ?_
  refine x_iload_n (pc := 15) dJ6_bitCount_0f7a4_15 rfl ?_
  refine x_iconst (pc := 16) dJ6_bitCount_0f7a4_16 ?_
  refine x_iushr (pc := 17) dJ6_bitCount_0f7a4_17 ?_
  refine x_ldcw (pc := 18) dJ6_bitCount_0f7a4_18 (858993459) tc_RJ6_266 (by decide) ?_
  refine x_iand (pc := 21) dJ6_bitCount_0f7a4_21 ?_
  refine x_iadd (pc := 22) dJ6_bitCount_0f7a4_22 ?_
  refine x_istore_n (pc := 23) dJ6_bitCount_0f7a4_23 (by decide) ?_
  refine x_iload_n (pc := 24) dJ6_bitCount_0f7a4_24 rfl ?_
  refine x_iload_n (pc := 25) dJ6_bitCount_0f7a4_25 rfl ?_
  refine x_iconst (pc := 26) dJ6_bitCount_0f7a4_26 ?_
  refine x_iushr (pc := 27) dJ6_bitCount_0f7a4_27 ?_
  refine x_iadd (pc := 28) dJ6_bitCount_0f7a4_28 ?_
  refine x_ldcw (pc := 29) dJ6_bitCount_0f7a4_29 (252645135) tc_RJ6_267 (by decide) ?_
  refine x_iand (pc := 32) dJ6_bitCount_0f7a4_32 ?_
  refine x_istore_n (pc := 33) dJ6_bitCount_0f7a4_33 (by decide) ?_
  refine x_iload_n (pc := 34) dJ6_bitCount_0f7a4_34 rfl ?_
  refine x_iload_n (pc := 35) dJ6_bitCount_0f7a4_35 rfl ?_
  refine x_bipush (pc := 36) dJ6_bitCount_0f7a4_36 (by decide) ?_
  refine x_iushr (pc := 38) dJ6_bitCount_0f7a4_38 ?_
  refine x_iadd (pc := 39) dJ6_bitCount_0f7a4_39 ?_
  refine x_istore_n (pc := 40) dJ6_bitCount_0f7a4_40 (by decide) ?_
  refine x_iload_n (pc := 41) dJ6_bitCount_0f7a4_41 rfl ?_
  refine x_iload_n (pc := 42) dJ6_bitCount_0f7a4_42 rfl ?_
  refine x_bipush (pc := 43) dJ6_bitCount_0f7a4_43 (by decide) ?_
  refine x_iushr (pc := 45) dJ6_bitCount_0f7a4_45 ?_
  refine x_iadd (pc := 46) dJ6_bitCount_0f7a4_46 ?_
  refine x_istore_n (pc := 47) dJ6_bitCount_0f7a4_47 (by decide) ?_
  refine x_iload_n (pc := 48) dJ6_bitCount_0f7a4_48 rfl ?_
  refine x_bipush (pc := 49) dJ6_bitCount_0f7a4_49 (by decide) ?_
  refine x_iand (pc := 51) dJ6_bitCount_0f7a4_51 ?_
  refine x_retv (pc := 52) ⟨dJ6_bitCount_0f7a4_52, Or.inl rfl⟩ ?_
  have e := bc_popc hm
  unfold bcE bcD bcC bcB bcA at e
  rw [e]
  exact hq

/-! finding an item, an edition, a kind -/
theorem aI.get {x lo i : Int} {S : CS} (hI : aI ty h x lo (cI S)) (h0 : 0 ≤ i) (h1 : i < (cI S).length) : ∃ it, S_it S i = some it ∧ lo ≤ h (x + 14) i ∧ isIT ty (h (x + 14) i) ∧ ItIs h (h (x + 14) i) it ∧ itB it := by
  have hl : i.toNat < (cI S).length := by omega
  have := hI.2.2.1 _ _ (List.getElem?_eq_getElem hl)
  rw [show ((i.toNat : Nat) : Int) = i by omega] at this
  refine ⟨_, ?_, this⟩
  unfold S_it
  rw [if_pos h0, List.getElem?_eq_getElem hl]
theorem S_it_none {S : CS} {i : Int} (hn : ¬ (0 ≤ i ∧ i < (cI S).length)) : S_it S i = none := by
  unfold S_it
  split
  · rw [List.getElem?_eq_none (by omega)]
  · rfl
theorem c_itemOf1 {x lo i : Int} {S : CS} (hX : isXT ty x) (hi : i32 i) (hI : aI ty h x lo (cI S)) (hq : ∀ a, (S_it S i = none ∧ a = -1) ∨ (∃ it, S_it S i = some it ∧ a = h (x + 14) i ∧ (0 ≤ i ∧ i < (cI S).length) ∧ lo ≤ a ∧ isIT ty a ∧ ItIs h a it ∧ itB it) → Q (some (rV a)) ty sz h) : zXM D mX6_itemOf d 0 0 [rV x, iV i] ty sz h Q := by
  have h1 := hI.1
  have h2 := hI.2.1
  refine c_itemOf hX hi (by omega) (fun z => ?_) (fun z => ?_)
  · exact hq _ (Or.inl ⟨S_it_none (by omega), rfl⟩)
  · obtain ⟨it, e1, e2, e3, e4, e5⟩ := hI.get z.1 (by omega)
    exact hq _ (Or.inr ⟨it, e1, rfl, ⟨z.1, by omega⟩, e2, e3, e4, e5⟩)
theorem c_latest1 {x : Int} {S : CS} (hX : isXT ty x) (hE : aE h x (cE S)) (hq : ∀ a, (cE S = [] ∧ a = -1) ∨ (cE S ≠ [] ∧ a = x + 16 + 62 * ((cE S).length - 1 : Int) ∧ 0 < (cE S).length ∧ isET ty a ∧ EdIs h a (S_last S) ∧ OKE (S_last S)) → Q (some (rV a)) ty sz h) : zXM D mX6_latest (d + 1) 0 0 [rV x] ty sz h Q := by
  have h1 := hE.1
  have h2 := hE.2.1
  refine c_latest hX (by omega) (fun z => ?_) (fun z => ?_)
  · exact hq _ (Or.inl ⟨List.length_eq_zero_iff.mp (by omega), rfl⟩)
  · have hne : cE S ≠ [] := fun q => by rw [q] at h1; simp at h1; omega
    have hl := List.length_pos_iff.mpr hne
    have hg := hE.2.2 _ _ (S_last_get hne)
    rw [show (((cE S).length - 1 : Nat) : Int) = (cE S).length - 1 by omega] at hg
    rw [h1]
    exact hq _ (Or.inr ⟨hne, rfl, hl, hX.2.2.2.2.2.2.2.2 _ (by omega) (by omega), hg.1, hg.2⟩)
theorem c_kindOf1 {e k : Int} {l : List Row} (hE : isET ty e) (hk : 0 ≤ k ∧ k < 10) (hl : EdIs h e l) (hq : ∀ a, (kR k l = [] ∧ a = -1) ∨ (kR k l ≠ [] ∧ a = e + 2 + 6 * k ∧ 0 ≤ a ∧ isKT ty a ∧ KindIs h a (kR k l)) → Q (some (rV a)) ty sz h) : zXM D mX6_kindOf (d + 1) 0 0 [rV e, iV k] ty sz h Q := by
  have hK := hl k hk.1 hk.2
  have h0 := hK.1
  have he := hE.1
  refine c_kindOf hE hk (fun z => ?_) (fun z => ?_)
  · refine hq _ (Or.inl ⟨?_, rfl⟩)
    rw [z] at h0
    exact Classical.byContradiction (fun q => by rw [if_neg q] at h0; omega)
  · refine hq _ (Or.inr ⟨fun q => ?_, rfl, by omega, hE.2.2.2 k hk.1 hk.2, hK⟩)
    rw [if_pos q] at h0
    exact z h0
/-- the bill made of a kind that was found -/
theorem bill_at {a it zone day : Int} {l : List Row} {k : Int} {I : IT} {e : Int} (ha : (kR k l = [] ∧ a = -1) ∨ (kR k l ≠ [] ∧ a = e + 2 + 6 * k ∧ 0 ≤ a ∧ isKT ty a ∧ KindIs h a (kR k l))) (hi : ItIs h it I) (hz : 0 ≤ zone ∧ zone ≤ 9) : kBill h a it zone day = rBill (kR k l) I zone day := by
  rcases ha with ⟨h1, rfl⟩ | ⟨h1, -, h2, -, h3⟩
  · rw [kBill_null]
    unfold rBill
    rw [if_pos h1]
  · exact rBill_KI h3 hi hz h2 h1
theorem good_at {a : Int} {l : List Row} {k : Int} {e : Int} (hl : OKE l) (ha : (kR k l = [] ∧ a = -1) ∨ (kR k l ≠ [] ∧ a = e + 2 + 6 * k ∧ 0 ≤ a ∧ isKT ty a ∧ KindIs h a (kR k l))) : a = -1 ∨ isKT ty a ∧ kGood h a := by
  rcases ha with ⟨-, h1⟩ | ⟨-, -, -, h2, h3⟩
  · exact Or.inl h1
  · exact Or.inr ⟨h2, KI_Good h3 (OKE_K hl k).1 (OKE_K hl k).2⟩
theorem zRefuse_S {x zone day : Int} {S : CS} (hE : aE h x (cE S)) : zRefuse h x zone day = S_refuse S zone day := by
  unfold zRefuse S_refuse
  have h1 := hE.1
  have : h x 7 = 0 ↔ cE S = [] := by
    rw [h1, ← List.length_eq_zero_iff]
    omega
  simp only [this]
theorem lstS_y {l : List Row} {it : IT} {zone day : Int} {n : Nat} (hp : (rBill (kR n l) it zone day).2 ≠ -1 ∧ ((lstS l it zone day n).1 = -1 ∨ (rBill (kR n l) it zone day).2 < (lstS l it zone day n).2)) : lstS l it zone day (n + 1) = ((n : Int), (rBill (kR n l) it zone day).2) := if_pos hp
theorem lstS_n {l : List Row} {it : IT} {zone day : Int} {n : Nat} (hp : ¬ ((rBill (kR n l) it zone day).2 ≠ -1 ∧ ((lstS l it zone day n).1 = -1 ∨ (rBill (kR n l) it zone day).2 < (lstS l it zone day n).2))) : lstS l it zone day (n + 1) = lstS l it zone day n := if_neg hp
theorem lstS_rng {l : List Row} {it : IT} {zone day : Int} : ∀ n : Nat, -1 ≤ (lstS l it zone day n).1 ∧ (lstS l it zone day n).1 < n
  | 0 => ⟨Int.le_refl _, (by show (-1 : Int) < ((0 : Nat) : Int); decide)⟩
  | n + 1 => by
    have := lstS_rng (l := l) (it := it) (zone := zone) (day := day) n
    unfold lstS
    split
    · simp only; omega
    · omega
theorem cmpS_y {l1 l2 : List Row} {n : Nat} (hp : (kR n l1 = [] ∧ kR n l2 = []) ∨ (kR n l1 ≠ [] ∧ kR n l2 ≠ [] ∧ sameR (kR n l1) (kR n l2))) : cmpS l1 l2 (n + 1) = cmpS l1 l2 n := if_pos hp
theorem cmpS_n {l1 l2 : List Row} {n : Nat} (hp : ¬ ((kR n l1 = [] ∧ kR n l2 = []) ∨ (kR n l1 ≠ [] ∧ kR n l2 ≠ [] ∧ sameR (kR n l1) (kR n l2)))) : cmpS l1 l2 (n + 1) = cmpS l1 l2 n + 1 := if_neg hp
theorem cmpS_rng {l1 l2 : List Row} : ∀ n : Nat, 0 ≤ cmpS l1 l2 n ∧ cmpS l1 l2 n ≤ n
  | 0 => ⟨Int.le_refl _, Int.le_refl _⟩
  | n + 1 => by
    have := cmpS_rng (l1 := l1) (l2 := l2) n
    unfold cmpS
    split <;> omega
theorem alike_at {e1 e2 a b : Int} {l1 l2 : List Row} {k : Int} (ha : (kR k l1 = [] ∧ a = -1) ∨ (kR k l1 ≠ [] ∧ a = e1 + 2 + 6 * k ∧ 0 ≤ a ∧ isKT ty a ∧ KindIs h a (kR k l1))) (hb : (kR k l2 = [] ∧ b = -1) ∨ (kR k l2 ≠ [] ∧ b = e2 + 2 + 6 * k ∧ 0 ≤ b ∧ isKT ty b ∧ KindIs h b (kR k l2))) : kAlike h a b ↔ ((kR k l1 = [] ∧ kR k l2 = []) ∨ (kR k l1 ≠ [] ∧ kR k l2 ≠ [] ∧ sameR (kR k l1) (kR k l2))) := by
  unfold kAlike
  rcases ha with ⟨h1, rfl⟩ | ⟨h1, -, h2, -, h3⟩
  · rcases hb with ⟨j1, rfl⟩ | ⟨j1, -, j2, -, j3⟩
    · exact ⟨fun _ => Or.inl ⟨h1, j1⟩, fun _ => Or.inl ⟨by decide, by decide⟩⟩
    · refine ⟨fun q => ?_, fun q => ?_⟩
      · rcases q with q | q <;> omega
      · rcases q with q | q
        · exact absurd q.2 j1
        · exact absurd h1 q.1
  · rcases hb with ⟨j1, rfl⟩ | ⟨j1, -, j2, -, j3⟩
    · refine ⟨fun q => ?_, fun q => ?_⟩
      · rcases q with q | q <;> omega
      · rcases q with q | q
        · exact absurd q.1 h1
        · exact absurd j1 q.2.1
    · rw [← same_KI h3 j3]
      refine ⟨fun q => ?_, fun q => ?_⟩
      · rcases q with q | q
        · omega
        · exact Or.inr ⟨h1, j1, q.2.2⟩
      · rcases q with q | q
        · exact absurd q.1 h1
        · exact Or.inr ⟨h2, j2, q.2.2⟩

end C16
