section MA3
/-! the whole state, apart from any machine -/
abbrev IT := Int × Int × Int × Int × Int × Nat
/-- a kind's rows, an item: as cells of a heap of their own (kind at 0 .. 5, item at 10) -/
def vH (kr : List Row) (it : IT) : zH := fun a k =>
  if a = 0 then (if k = 0 then (if kr = [] then 0 else 1) else if k = 1 then (nL 83 kr : Int) else if k = 7 then (nL 69 kr : Int) else if k = 8 then fl 68 (fun r => r.2.1) kr else if k = 9 then fl 68 (fun r => r.2.2.1) kr else if k = 10 then fl 68 (fun r => r.2.2.2) kr else if k = 11 then fl 77 (fun r => r.2.1) kr else if k = 12 then fl 70 (fun r => r.2.1) kr else if k = 13 then fl 70 (fun r => r.2.2.1) kr else fl 82 (fun r => r.2.1) kr)
  else if a = 1 then (((stp kr)[k.toNat]?).map (fun q => q.1)).getD 0
  else if a = 2 then (((stp kr)[k.toNat]?).map (fun q => q.2)).getD 0
  else if a = 3 then lk 90 k kr else if a = 4 then lk 88 k kr else if a = 5 then (exM kr k : Int)
  else if k = 0 then it.1 else if k = 1 then it.2.1 else if k = 2 then it.2.2.1 else if k = 3 then it.2.2.2.1 else if k = 4 then it.2.2.2.2.1 else (it.2.2.2.2.2 : Int)
theorem vH_K (kr : List Row) (it : IT) : KindIs (vH kr it) 0 kr := by
  refine ⟨by simp [vH], by simp [vH], fun i q hi => ?_, fun z z0 z1 => by simp [vH], by simp [vH], by simp [vH], by simp [vH], by simp [vH], by simp [vH], by simp [vH], by simp [vH], by simp [vH]⟩
  simp [vH, hi]
def ItIs (h : zH) (a : Int) (it : IT) : Prop := h a 0 = it.1 ∧ h a 1 = it.2.1 ∧ h a 2 = it.2.2.1 ∧ h a 3 = it.2.2.2.1 ∧ h a 4 = it.2.2.2.2.1 ∧ h a 5 = (it.2.2.2.2.2 : Int)
theorem vH_I (kr : List Row) (it : IT) : ItIs (vH kr it) 10 it := by simp [ItIs, vH]
def itB (it : IT) : Prop := (0 ≤ it.1 ∧ it.1 ≤ 9) ∧ (1 ≤ it.2.1 ∧ it.2.1 ≤ 100000) ∧ (1 ≤ it.2.2.1 ∧ it.2.2.1 ≤ 100000) ∧ (1 ≤ it.2.2.2.1 ∧ it.2.2.2.1 ≤ 100000) ∧ (1 ≤ it.2.2.2.2.1 ∧ it.2.2.2.2.1 ≤ 100000) ∧ it.2.2.2.2.2 < 1024
section CONG
variable {h h' : zH} {a a' it it' : Int} {kr : List Row} {I : IT}
theorem KI_steps (hk : KindIs h a kr) (hk' : KindIs h' a' kr) (i : Int) (h0 : 0 ≤ i) (h1 : i < h a 1) : h (a + 1) i = h' (a' + 1) i ∧ h (a + 2) i = h' (a' + 2) i := by
  have e1 : h a 1 = (stp kr).length := by rw [hk.2.1, stp_len]
  have hl : i.toNat < (stp kr).length := by omega
  have q1 := hk.2.2.1 _ _ (List.getElem?_eq_getElem hl)
  have q2 := hk'.2.2.1 _ _ (List.getElem?_eq_getElem hl)
  rw [show ((i.toNat : Nat) : Int) = i by omega] at q1 q2
  exact ⟨q1.1.trans q2.1.symm, q1.2.trans q2.2.symm⟩
theorem zfst_cong {p q : Int → Prop} : ∀ (n : Nat) (i : Int), (∀ j, i ≤ j → j < i + n → (p j ↔ q j)) → zfst p n i = zfst q n i
  | 0, _, _ => rfl
  | n + 1, i, hh => by
    have hi := hh i (by omega) (by omega)
    by_cases hp : p i
    · rw [zfst_y hp, zfst_y (hi.mp hp)]
    · rw [zfst_n hp, zfst_n (fun z => hp (hi.mpr z))]
      exact zfst_cong n (i + 1) (fun j h1 h2 => hh j (by omega) (by omega))
theorem kTakes_KI (hk : KindIs h a kr) (hk' : KindIs h' a' kr) (hi : ItIs h it I) (hi' : ItIs h' it' I) {zone day : Int} (hz : 0 ≤ zone ∧ zone ≤ 9) : kTakes h a it zone day ↔ kTakes h' a' it' zone day := by
  obtain ⟨c0, c1, c2, c3, c7, c8, c9, c10, c11, c12, c13, c14⟩ := hk
  obtain ⟨d0, d1, d2, d3, d7, d8, d9, d10, d11, d12, d13, d14⟩ := hk'
  obtain ⟨i0, i1, i2, i3, i4, i5⟩ := hi
  obtain ⟨j0, j1, j2, j3, j4, j5⟩ := hi'
  unfold kTakes kServ hasS
  rw [c12, c13, c8, c9, c10, d12, d13, d8, d9, d10, i2, i3, i4, j2, j3, j4, i5, j5, (c3 zone (by omega) (by omega)).1, (d3 zone (by omega) (by omega)).1]
  constructor
  · intro ⟨t1, t2, t3, t4⟩
    refine ⟨t1, t2, t3, fun s s0 s1 hh => ?_⟩
    have := t4 s s0 s1 hh
    rw [(c3 s s0 s1).2.1, (c3 s s0 s1).2.2] at this
    rw [(d3 s s0 s1).2.1, (d3 s s0 s1).2.2]
    exact this
  · intro ⟨t1, t2, t3, t4⟩
    refine ⟨t1, t2, t3, fun s s0 s1 hh => ?_⟩
    have := t4 s s0 s1 hh
    rw [(d3 s s0 s1).2.1, (d3 s s0 s1).2.2] at this
    rw [(c3 s s0 s1).2.1, (c3 s s0 s1).2.2]
    exact this
theorem kWeight_KI (hk : KindIs h a kr) (hk' : KindIs h' a' kr) (hi : ItIs h it I) (hi' : ItIs h' it' I) : kWeight h a it = kWeight h' a' it' := by
  obtain ⟨c0, c1, c2, c3, c7, c8, c9, c10, c11, c12, c13, c14⟩ := hk
  obtain ⟨d0, d1, d2, d3, d7, d8, d9, d10, d11, d12, d13, d14⟩ := hk'
  obtain ⟨i0, i1, i2, i3, i4, i5⟩ := hi
  obtain ⟨j0, j1, j2, j3, j4, j5⟩ := hi'
  unfold kWeight
  rw [c11, d11, i1, i2, i3, i4, j1, j2, j3, j4]
theorem kStep_KI (hk : KindIs h a kr) (hk' : KindIs h' a' kr) (wt : Int) : kStep h a wt = kStep h' a' wt := by
  have e1 : h a 1 = h' a' 1 := by rw [hk.2.1, hk'.2.1]
  unfold kStep
  rw [← e1]
  refine zfst_cong _ _ (fun j h1 h2 => ?_)
  have hn : 0 ≤ h a 1 := by rw [hk.2.1]; omega
  rw [(KI_steps hk hk' j (by omega) (by omega)).1]
theorem svL_KI (hk : KindIs h a kr) (hk' : KindIs h' a' kr) (hi : ItIs h it I) (hi' : ItIs h' it' I) : ∀ n, n ≤ 10 → svL h a it n = svL h' a' it' n
  | 0, _ => rfl
  | n + 1, hn => by
    have e : hasS h it n ↔ hasS h' it' n := by unfold hasS; rw [hi.2.2.2.2.2, hi'.2.2.2.2.2]
    have e4 : h (a + 4) n = h' (a' + 4) n := by rw [(hk.2.2.2.1 n (by omega) (by omega)).2.1, (hk'.2.2.2.1 n (by omega) (by omega)).2.1]
    by_cases hp : hasS h it n
    · rw [svL_y hp, svL_y (e.mp hp), svL_KI hk hk' hi hi' n (by omega), e4]
    · rw [svL_n hp, svL_n (fun z => hp (e.mpr z)), svL_KI hk hk' hi hi' n (by omega)]
theorem kPl_KI (hk : KindIs h a kr) (hk' : KindIs h' a' kr) (hi : ItIs h it I) (hi' : ItIs h' it' I) {zone step : Int} (hz : 0 ≤ zone ∧ zone ≤ 9) (hs : 0 ≤ step ∧ step < h a 1) : kPl h a it zone step = kPl h' a' it' zone step := by
  have e14 : h a 14 = h' a' 14 := by rw [hk.2.2.2.2.2.2.2.2.2.2.2, hk'.2.2.2.2.2.2.2.2.2.2.2]
  have e3 : h (a + 3) zone = h' (a' + 3) zone := by rw [(hk.2.2.2.1 zone (by omega) (by omega)).1, (hk'.2.2.2.1 zone (by omega) (by omega)).1]
  unfold kPl kPl0 kBase
  rw [svL_KI hk hk' hi hi' 10 (Nat.le_refl _), e14, e3, (KI_steps hk hk' step hs.1 hs.2).2]
theorem kStep_r {wt : Int} (hk : KindIs h a kr) (hs : kStep h a wt ≠ -1) : 0 ≤ kStep h a wt ∧ kStep h a wt < h a 1 := by
  have hn : 0 ≤ h a 1 := by rw [hk.2.1]; omega
  rcases zfst_r (p := fun i => wt ≤ h (a + 1) i) (h a 1).toNat 0 (by omega) with q | ⟨q1, q2, -⟩
  · exact absurd q hs
  · unfold kStep
    omega
theorem kBill_KI (hk : KindIs h a kr) (hk' : KindIs h' a' kr) (hi : ItIs h it I) (hi' : ItIs h' it' I) {zone day : Int} (hz : 0 ≤ zone ∧ zone ≤ 9) (ha : 0 ≤ a) (ha' : 0 ≤ a') : kBill h a it zone day = kBill h' a' it' zone day := by
  have hW := kWeight_KI hk hk' hi hi'
  have hS := kStep_KI hk hk' (kWeight h a it)
  have hT := kTakes_KI hk hk' hi hi' (day := day) hz
  have hP : kBillP h a it zone day ↔ kBillP h' a' it' zone day := by
    unfold kBillP
    rw [← hW, ← hS, hT]
    exact ⟨fun q => ⟨ha', q.2⟩, fun q => ⟨ha, q.2⟩⟩
  by_cases hp : kBillP h a it zone day
  · rw [kBill_y hp, kBill_y (hP.mp hp), ← hW, ← hS, kPl_KI hk hk' hi hi' hz (kStep_r hk hp.2.2)]
  · rw [kBill_n hp, kBill_n (fun z => hp (hP.mpr z))]
/-- two kinds are printed alike -/
def sameR (k1 k2 : List Row) : Prop := stp k1 = stp k2 ∧ (∀ z, 0 ≤ z → z < 10 → lk 90 z k1 = lk 90 z k2 ∧ lk 88 z k1 = lk 88 z k2 ∧ exM k1 z = exM k2 z) ∧ fl 68 (fun r => r.2.1) k1 = fl 68 (fun r => r.2.1) k2 ∧ fl 68 (fun r => r.2.2.1) k1 = fl 68 (fun r => r.2.2.1) k2 ∧ fl 68 (fun r => r.2.2.2) k1 = fl 68 (fun r => r.2.2.2) k2 ∧ fl 77 (fun r => r.2.1) k1 = fl 77 (fun r => r.2.1) k2 ∧ fl 70 (fun r => r.2.1) k1 = fl 70 (fun r => r.2.1) k2 ∧ fl 70 (fun r => r.2.2.1) k1 = fl 70 (fun r => r.2.2.1) k2 ∧ fl 82 (fun r => r.2.1) k1 = fl 82 (fun r => r.2.1) k2
theorem same_KI {k1 k2 : List Row} {b : Int} (h1 : KindIs h a k1) (h2 : KindIs h b k2) : (kSameS h a b ∧ kSameN h a b ∧ kSameL h a b) ↔ sameR k1 k2 := by
  obtain ⟨c0, c1, c2, c3, c7, c8, c9, c10, c11, c12, c13, c14⟩ := h1
  obtain ⟨d0, d1, d2, d3, d7, d8, d9, d10, d11, d12, d13, d14⟩ := h2
  unfold kSameS kSameN kSameL sameR
  rw [c8, c9, c10, c11, c12, c13, c14, d8, d9, d10, d11, d12, d13, d14]
  constructor
  · intro ⟨⟨s1, s2⟩, n1, l1⟩
    refine ⟨?_, fun z z0 z1 => ?_, l1⟩
    · have hl : (stp k1).length = (stp k2).length := by rw [stp_len, stp_len]; omega
      apply List.ext_getElem? 
      intro i
      by_cases hi : i < (stp k1).length
      · rw [List.getElem?_eq_getElem hi, List.getElem?_eq_getElem (by omega)]
        have q1 := c2 _ _ (List.getElem?_eq_getElem hi)
        have q2 := d2 _ _ (List.getElem?_eq_getElem (show i < (stp k2).length by omega))
        have q3 := s2 i (by omega) (by rw [c1, ← stp_len]; omega)
        congr 1
        apply Prod.ext
        · rw [← q1.1, ← q2.1]; exact q3.1
        · rw [← q1.2, ← q2.2]; exact q3.2
      · rw [List.getElem?_eq_none (by omega), List.getElem?_eq_none (by omega)]
    · have q := n1 z z0 z1
      rw [(c3 z z0 z1).1, (c3 z z0 z1).2.1, (c3 z z0 z1).2.2, (d3 z z0 z1).1, (d3 z z0 z1).2.1, (d3 z z0 z1).2.2] at q
      exact ⟨q.1, q.2.1, by omega⟩
  · intro ⟨s1, n1, l1⟩
    have hl : nL 83 k1 = nL 83 k2 := by rw [← stp_len, ← stp_len, s1]
    refine ⟨⟨by rw [c1, d1, hl], fun i i0 i1 => ?_⟩, fun z z0 z1 => ?_, l1⟩
    · have hi : i.toNat < (stp k1).length := by rw [stp_len]; omega
      have q1 := c2 _ _ (List.getElem?_eq_getElem hi)
      have q2 := d2 _ ((stp k1)[i.toNat]) (by rw [← s1]; exact List.getElem?_eq_getElem hi)
      rw [show ((i.toNat : Nat) : Int) = i by omega] at q1 q2
      exact ⟨q1.1.trans q2.1.symm, q1.2.trans q2.2.symm⟩
    · obtain ⟨q1, q2, q3⟩ := n1 z z0 z1
      rw [(c3 z z0 z1).1, (c3 z z0 z1).2.1, (c3 z z0 z1).2.2, (d3 z z0 z1).1, (d3 z z0 z1).2.1, (d3 z z0 z1).2.2]
      exact ⟨q1, q2, by rw [q3]⟩
/-- a kind's rows as they are printed -/
noncomputable def krPR (k : Int) (kr : List Row) : List PR := kPR (vH kr (0, 0, 0, 0, 0, 0)) 0 k
theorem gL_cong {α : Type} {f g : Nat → List α} : ∀ n, (∀ i, i < n → f i = g i) → gL f n = gL g n
  | 0, _ => rfl
  | n + 1, hh => by
    show gL f n ++ f n = gL g n ++ g n
    rw [gL_cong n (fun i hi => hh i (by omega)), hh n (by omega)]
theorem kPR_KI (hk : KindIs h a kr) (hk' : KindIs h' a' kr) (k : Int) : kPR h a k = kPR h' a' k := by
  have e1 : h a 1 = h' a' 1 := by rw [hk.2.1, hk'.2.1]
  have hn : 0 ≤ h a 1 := by rw [hk.2.1]; omega
  have hs := KI_steps hk hk'
  obtain ⟨c0, c1, c2, c3, c7, c8, c9, c10, c11, c12, c13, c14⟩ := hk
  obtain ⟨d0, d1, d2, d3, d7, d8, d9, d10, d11, d12, d13, d14⟩ := hk'
  unfold kPR
  have s1 : gL (stF (h (a + 1)) (h (a + 2))) (h a 1).toNat = gL (stF (h' (a' + 1)) (h' (a' + 2))) (h' a' 1).toNat := by
    rw [← e1]
    refine gL_cong _ (fun i hi => ?_)
    have := hs i (by omega) (by omega)
    unfold stF
    rw [this.1, this.2]
  have s2 : gL (nmF (h (a + 3)) 90) 10 = gL (nmF (h' (a' + 3)) 90) 10 := gL_cong _ (fun i hi => by unfold nmF; rw [(c3 i (by omega) (by omega)).1, (d3 i (by omega) (by omega)).1])
  have s3 : gL (nmF (h (a + 4)) 88) 10 = gL (nmF (h' (a' + 4)) 88) 10 := gL_cong _ (fun i hi => by unfold nmF; rw [(c3 i (by omega) (by omega)).2.1, (d3 i (by omega) (by omega)).2.1])
  have s4 : gL (exF (h (a + 5))) 10 = gL (exF (h' (a' + 5))) 10 := gL_cong _ (fun i hi => by
    unfold exF
    refine gL_cong _ (fun t ht => ?_)
    unfold exF1
    rw [(c3 i (by omega) (by omega)).2.2, (d3 i (by omega) (by omega)).2.2])
  rw [s1, s2, s3, s4]
  unfold lmF1 lmF2 lmF3 lmF4
  rw [c8, c9, c10, c11, c12, c13, c14, d8, d9, d10, d11, d12, d13, d14]
end CONG
/-- an edition as it is printed -/
noncomputable def edPR (l : List Row) : List PR := gL (fun k => if kR k l = [] then [] else krPR k (kR k l)) 10
/-- a price of an item as the kind with these rows -/
noncomputable def rBill (kr : List Row) (it : IT) (zone day : Int) : List PT × Int := if kr = [] then ([], -1) else kBill (vH kr it) 0 10 zone day
/-- the cheapest kind below n, and what it costs -/
noncomputable def lstS (l : List Row) (it : IT) (zone day : Int) : Nat → Int × Int
  | 0 => (-1, -1)
  | n + 1 => if (rBill (kR n l) it zone day).2 ≠ -1 ∧ ((lstS l it zone day n).1 = -1 ∨ (rBill (kR n l) it zone day).2 < (lstS l it zone day n).2) then ((n : Int), (rBill (kR n l) it zone day).2) else lstS l it zone day n
/-- how many kinds below n are printed otherwise -/
noncomputable def cmpS (l1 l2 : List Row) : Nat → Int
  | 0 => 0
  | n + 1 => @ite _ ((kR n l1 = [] ∧ kR n l2 = []) ∨ (kR n l1 ≠ [] ∧ kR n l2 ≠ [] ∧ sameR (kR n l1) (kR n l2))) (Classical.propDecidable _) (cmpS l1 l2 n) (cmpS l1 l2 n + 1)
def popc (m : Nat) : Nat → Int
  | 0 => 0
  | n + 1 => if m.testBit n = true then popc m n + 1 else popc m n
end MA3
