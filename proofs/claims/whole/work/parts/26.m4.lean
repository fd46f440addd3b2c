section MA4
/-! what a kind's rows give its cells: ranges -/
theorem lk_val (c z : Int) (l : List Row) : lk c z l = -1 ∨ ∃ r ∈ l, r.1 = c ∧ r.2.1 = z ∧ lk c z l = r.2.2.1 := by
  unfold lk
  cases h : lastR (fun r => r.1 == c && r.2.1 == z) l with
  | none => exact Or.inl rfl
  | some r =>
    obtain ⟨h1, h2⟩ := lastR_mem l h
    simp at h2
    exact Or.inr ⟨r, h1, h2.1, h2.2, rfl⟩
theorem fl_val (c : Int) (l : List Row) : (∀ f, fl c f l = -1) ∨ ∃ r ∈ l, r.1 = c ∧ ∀ f, fl c f l = f r := by
  unfold fl
  cases h : lastR (fun r => r.1 == c) l with
  | none => exact Or.inl (fun f => rfl)
  | some r =>
    obtain ⟨h1, h2⟩ := lastR_mem l h
    simp at h2
    exact Or.inr ⟨r, h1, h2, fun f => rfl⟩
theorem stp_val {l : List Row} {q : Int × Int} (h : q ∈ stp l) : ∃ r ∈ l, r.1 = 83 ∧ q = (r.2.1, r.2.2.1) := by
  unfold stp at h
  obtain ⟨r, hr, e⟩ := List.mem_map.mp h
  obtain ⟨h1, h2⟩ := List.mem_filter.mp hr
  exact ⟨r, h1, by simpa using h2, e.symm⟩
theorem KI_stp {h : zH} {a : Int} {l : List Row} (hk : KindIs h a l) {i : Int} (h0 : 0 ≤ i) (h1 : i < h a 1) : ∃ r ∈ l, r.1 = 83 ∧ h (a + 1) i = r.2.1 ∧ h (a + 2) i = r.2.2.1 := by
  have e1 : h a 1 = (stp l).length := by rw [hk.2.1, stp_len]
  have hl : i.toNat < (stp l).length := by omega
  have q1 := hk.2.2.1 _ _ (List.getElem?_eq_getElem hl)
  rw [show ((i.toNat : Nat) : Int) = i by omega] at q1
  obtain ⟨r, hr, e, eq⟩ := stp_val (List.getElem_mem hl)
  rw [eq] at q1
  exact ⟨r, hr, e, q1.1, q1.2⟩
theorem KI_Pr {h : zH} {a : Int} {l : List Row} (hk : KindIs h a l) (hB : ∀ r ∈ l, rowB r) (hc : cntOK l) : kPrOK h a := by
  have hs := @KI_stp h a l hk
  obtain ⟨c0, c1, c2, c3, c7, c8, c9, c10, c11, c12, c13, c14⟩ := hk
  refine ⟨by rw [c1]; have := hc.1; omega, fun i h0 h1 => ?_, fun z z0 z1 => ?_, fun z z0 z1 => ?_, ?_, ?_, ?_, ?_⟩
  · obtain ⟨r, hr, e, e1, e2⟩ := hs h0 h1
    have := hB r hr
    rw [e1, e2]
    exact ⟨this.2.1, this.2.2.1⟩
  · rw [(c3 z z0 z1).1]
    rcases lk_val 90 z l with e | ⟨r, hr, -, -, e⟩
    · exact Or.inl e
    · exact Or.inr (by rw [e]; exact (hB r hr).2.2.1)
  · rw [(c3 z z0 z1).2.1]
    rcases lk_val 88 z l with e | ⟨r, hr, -, -, e⟩
    · exact Or.inl e
    · exact Or.inr (by rw [e]; exact (hB r hr).2.2.1)
  · rw [c8, c9, c10]
    rcases fl_val 68 l with e | ⟨r, hr, -, e⟩
    · exact Or.inl (e _)
    · rw [e, e, e]
      exact Or.inr ⟨(hB r hr).2.1, (hB r hr).2.2.1, (hB r hr).2.2.2.1⟩
  · rw [c11]
    rcases fl_val 77 l with e | ⟨r, hr, -, e⟩
    · exact Or.inl (e _)
    · rw [e]
      exact Or.inr (hB r hr).2.1
  · rw [c12, c13]
    rcases fl_val 70 l with e | ⟨r, hr, -, e⟩
    · exact Or.inl (e _)
    · rw [e, e]
      exact Or.inr ⟨(hB r hr).2.1, (hB r hr).2.2.1⟩
  · rw [c14]
    rcases fl_val 82 l with e | ⟨r, hr, -, e⟩
    · exact Or.inl (e _)
    · rw [e]
      exact Or.inr (hB r hr).2.1
theorem KI_Good {h : zH} {a : Int} {l : List Row} (hk : KindIs h a l) (hB : ∀ r ∈ l, rowB r) (hc : cntOK l) : kGood h a := by
  have hs := @KI_stp h a l hk
  obtain ⟨c0, c1, c2, c3, c7, c8, c9, c10, c11, c12, c13, c14⟩ := hk
  refine ⟨by rw [c1]; have := hc.1; omega, fun i h0 h1 => ?_, fun z z0 z1 => ?_, fun z z0 z1 => ?_, ?_, ?_⟩
  · obtain ⟨r, hr, e, e1, e2⟩ := hs h0 h1
    rw [e2]
    exact (hB r hr).2.2.1
  · rw [(c3 z z0 z1).1]
    rcases lk_val 90 z l with e | ⟨r, hr, e9, -, e⟩
    · exact Or.inl e
    · have := hB r hr
      exact Or.inr (by rw [e]; exact ⟨this.2.2.1.1, (this.2.2.2.2.2.1 e9).2⟩)
  · rw [(c3 z z0 z1).2.1]
    rcases lk_val 88 z l with e | ⟨r, hr, -, -, e⟩
    · exact Or.inl e
    · exact Or.inr (by rw [e]; exact (hB r hr).2.2.1)
  · rw [c11]
    rcases fl_val 77 l with e | ⟨r, hr, e9, e⟩
    · exact Or.inl (e _)
    · have := hB r hr
      rw [e]
      exact Or.inr ⟨this.2.2.2.2.2.2.2.2.2.1 e9, this.2.1.2⟩
  · rw [c14]
    rcases fl_val 82 l with e | ⟨r, hr, e9, e⟩
    · exact Or.inl (e _)
    · have := hB r hr
      rw [e]
      exact Or.inr (this.2.2.2.2.2.2.2.2.2.2.2 e9)
/-! the class's state -/
abbrev CS := List Int × List (List Row) × List IT × List PT × Int × List Int
abbrev cT (S : CS) : List Int := S.1
abbrev cE (S : CS) : List (List Row) := S.2.1
abbrev cI (S : CS) : List IT := S.2.2.1
abbrev cB (S : CS) : List PT := S.2.2.2.1
abbrev cb (S : CS) : Int := S.2.2.2.2.1
abbrev cP (S : CS) : List Int := S.2.2.2.2.2
def OKE (l : List Row) : Prop := WF l ∧ (semT (edPR l)).length ≤ 1501
def aT (h : zH) (x : Int) (T : List Int) : Prop := PrIs h (x + 1) T ∧ TxOK T
def aE (h : zH) (x : Int) (E : List (List Row)) : Prop := h x 7 = E.length ∧ E.length ≤ 5 ∧ ∀ (j : Nat) (l : List Row), E[j]? = some l → EdIs h (x + 16 + 62 * j) l ∧ OKE l
def aI (ty : zT) (h : zH) (x lo : Int) (I : List IT) : Prop := h x 5 = I.length ∧ I.length ≤ 100 ∧ (∀ (j : Nat) (it : IT), I[j]? = some it → lo ≤ h (x + 14) j ∧ isIT ty (h (x + 14) j) ∧ ItIs h (h (x + 14) j) it ∧ itB it) ∧ ∀ i j : Nat, i < I.length → j < I.length → h (x + 14) i = h (x + 14) j → i = j
def aB (h : zH) (x : Int) (B : List PT) (b : Int) : Prop := BillIs h (x + 6) B b ∧ B.length ≤ 13
def aP (h : zH) (x : Int) (P : List Int) : Prop := PrIs h (x + 4) P ∧ P.length ≤ 1500
def zAbs (ty : zT) (h : zH) (x lo : Int) (S : CS) : Prop := isXT ty x ∧ x + 387 < lo ∧ aT h x (cT S) ∧ aE h x (cE S) ∧ aI ty h x lo (cI S) ∧ aB h x (cB S) (cb S) ∧ aP h x (cP S)
theorem aT.fr {h h' : zH} {x : Int} {T : List Int} (hP : aT h x T) (e : ∀ q, x + 1 ≤ q → q ≤ x + 2 → h' q = h q) : aT h' x T := ⟨hP.1.fr (fun q q0 q1 => e q (by omega) (by omega)), hP.2⟩
theorem aP.fr {h h' : zH} {x : Int} {T : List Int} (hP : aP h x T) (e : ∀ q, x + 4 ≤ q → q ≤ x + 5 → h' q = h q) : aP h' x T := ⟨hP.1.fr (fun q q0 q1 => e q (by omega) (by omega)), hP.2⟩
theorem EdIs.fr {h h' : zH} {e : Int} {l : List Row} (hP : EdIs h e l) (ea : ∀ q, e ≤ q → q ≤ e + 61 → h' q = h q) : EdIs h' e l := fun k k0 k1 => (hP k k0 k1).fr (fun q q0 q1 => ea q (by omega) (by omega))
theorem aE.fr {h h' : zH} {x : Int} {E : List (List Row)} (hP : aE h x E) (e0 : h' x 7 = h x 7) (e : ∀ q, x + 16 ≤ q → q < x + 16 + 62 * E.length → h' q = h q) : aE h' x E := by
  refine ⟨e0.trans hP.1, hP.2.1, fun j l hj => ?_⟩
  have hl := (List.getElem?_eq_some_iff.mp hj).1
  have := hP.2.2 j l hj
  exact ⟨this.1.fr (fun q q0 q1 => e q (by omega) (by omega)), this.2⟩
theorem aI.fr {ty ty' : zT} {h h' : zH} {x lo : Int} {I : List IT} (hP : aI ty h x lo I) (e0 : h' x 5 = h x 5) (e1 : h' (x + 14) = h (x + 14)) (e : ∀ q, lo ≤ q → h' q = h q) (et : ∀ q y, ty q = some y → ty' q = some y) : aI ty' h' x lo I := by
  refine ⟨e0.trans hP.1, hP.2.1, fun j it hj => ?_, fun i j => by rw [e1]; exact hP.2.2.2 i j⟩
  obtain ⟨p1, p2, p3, p4⟩ := hP.2.2.1 j it hj
  rw [e1]
  refine ⟨p1, ⟨p2.1, et _ _ p2.2⟩, ?_, p4⟩
  unfold ItIs at *
  rw [e _ p1]
  exact p3
theorem aB.fr {h h' : zH} {x : Int} {B : List PT} {b : Int} (hP : aB h x B b) (e : ∀ q, x + 6 ≤ q → q ≤ x + 9 → h' q = h q) : aB h' x B b := ⟨hP.1.fr (fun q q0 q1 => e q (by omega) (by omega)), hP.2⟩
/-- what a call of the class leaves as it was -/
def FrX (x lo : Int) (h h' : zH) : Prop := ∀ a, (a < x ∨ x + 387 < a) → a < lo → h' a = h a
theorem FrX.rf (x lo : Int) (h : zH) : FrX x lo h h := fun _ _ _ => rfl
theorem FrX.t {x lo : Int} {h h' h2 : zH} (h1 : FrX x lo h h') (h3 : FrX x lo h' h2) : FrX x lo h h2 := fun a a1 a2 => (h3 a a1 a2).trans (h1 a a1 a2)
theorem FrX.of {x lo p q : Int} {h h' : zH} (hF : Fr p q h h') (h1 : x ≤ p) (h2 : q ≤ x + 387) : FrX x lo h h' := fun a a1 a2 => hF a (by omega)
theorem FrX.hi {x lo p q : Int} {h h' : zH} (hF : Fr p q h h') (h1 : lo ≤ p) : FrX x lo h h' := fun a a1 a2 => hF a (by omega)
/-! the class's calls, over its state -/
def S_sign (S : CS) (c : Int) : CS := if 0 ≤ c ∧ c ≤ 126 then (if (cT S).length < 1500 then cT S ++ [c] else cT S, S.2) else S
noncomputable def S_read (S : CS) : CS × Int := match parse (cT S) with
  | .inl f => (([], S.2), -1 - f)
  | .inr l => if (cE S).length = 5 then (([], S.2), -1000004) else (([], cE S ++ [l], S.2.2), l.length)
abbrev itArg (k w a b c : Int) : Prop := (0 ≤ k ∧ k ≤ 9) ∧ (1 ≤ w ∧ w ≤ 100000) ∧ (1 ≤ a ∧ a ≤ 100000) ∧ (1 ≤ b ∧ b ≤ 100000) ∧ (1 ≤ c ∧ c ≤ 100000)
def S_item (S : CS) (k w a b c : Int) : CS × Int := if itArg k w a b c then (if (cI S).length = 100 then (S, -1000004) else ((cT S, cE S, cI S ++ [(k, w, a, b, c, 0)], S.2.2.2), (cI S).length)) else (S, -1000002)
def S_it (S : CS) (i : Int) : Option IT := if 0 ≤ i then (cI S)[i.toNat]? else none
def itSrv (it : IT) (s : Int) : IT := (it.1, it.2.1, it.2.2.1, it.2.2.2.1, it.2.2.2.2.1, it.2.2.2.2.2 ||| 2 ^ s.toNat)
def S_service (S : CS) (i s : Int) : CS × Int := match S_it S i with
  | none => (S, -1000001)
  | some it => if 0 ≤ s ∧ s ≤ 9 then ((cT S, cE S, (cI S).set i.toNat (itSrv it s), S.2.2.2), popc (it.2.2.2.2.2 ||| 2 ^ s.toNat) 10) else (S, -1000002)
def S_refuse (S : CS) (zone day : Int) : Int := if ¬ (0 ≤ zone ∧ zone ≤ 9) ∨ day < 0 ∨ 9999999 < day then -1000002 else if cE S = [] then -1000003 else 0
def S_last (S : CS) : List Row := (cE S).getLast?.getD []
noncomputable def S_price (S : CS) (i zone day : Int) : CS × Int := match S_it S i with
  | none => (S, -1000001)
  | some it => if S_refuse S zone day ≠ 0 then (S, S_refuse S zone day) else ((cT S, cE S, cI S, (rBill (kR it.1 (S_last S)) it zone day).1, (rBill (kR it.1 (S_last S)) it zone day).2, cP S), (rBill (kR it.1 (S_last S)) it zone day).2)
noncomputable def S_least (S : CS) (i zone day : Int) : Int := match S_it S i with
  | none => -1000001
  | some it => if S_refuse S zone day ≠ 0 then S_refuse S zone day else (lstS (S_last S) it zone day 10).1
def S_explain (S : CS) (i q : Int) : Int := if 0 ≤ i then (match (cB S)[i.toNat]? with
  | none => -1
  | some t => if q = 0 then t.1 else if q = 1 then t.2.1 else if q = 2 then t.2.2 else -1) else -1
noncomputable def S_compare (S : CS) (e : Int) : Int := if 0 ≤ e then (match (cE S)[e.toNat]? with
  | none => -1000001
  | some l => cmpS l (S_last S) 10) else -1000001
noncomputable def S_print (S : CS) : CS × Int := if cE S = [] then (S, -1000003) else ((cT S, cE S, cI S, cB S, cb S, (semT (edPR (S_last S))).tail), ((semT (edPR (S_last S))).tail.length : Int))
def S_at (S : CS) (i : Int) : Int := if 0 ≤ i then ((cP S)[i.toNat]?).getD (-1) else -1
theorem S_last_get {S : CS} (h : cE S ≠ []) : (cE S)[(cE S).length - 1]? = some (S_last S) := by
  unfold S_last
  rw [List.getLast?_eq_getElem?]
  have hl : (cE S).length - 1 < (cE S).length := by
    have := List.length_pos_iff.mpr h
    omega
  rw [List.getElem?_eq_getElem hl]
  rfl
/-- the kinds of an edition that holds -/
theorem OKE_K {l : List Row} (h : OKE l) (k : Int) : (∀ r ∈ kR k l, rowB r) ∧ cntOK (kR k l) := ⟨fun r hr => WF_B l h.1 r (kR_sub k l r hr), kR_cnt l h.1 k⟩
theorem rBill_KI {h : zH} {a it zone day : Int} {kr : List Row} {I : IT} (hk : KindIs h a kr) (hi : ItIs h it I) (hz : 0 ≤ zone ∧ zone ≤ 9) (ha : 0 ≤ a) (hn : kr ≠ []) : kBill h a it zone day = rBill kr I zone day := by
  unfold rBill
  rw [if_neg hn]
  exact kBill_KI hk (vH_K kr I) hi (vH_I kr I) hz ha (by decide)
theorem kBill_null {h : zH} {it zone day : Int} : kBill h (-1) it zone day = ([], -1) := kBill_n (fun q => absurd q.1 (by decide))
theorem kPl_len {h : zH} {a it zone step : Int} : (kPl h a it zone step).length ≤ 13 := by
  have h1 : ∀ n, (svL h a it n).length ≤ n := by
    intro n
    induction n with
    | zero => simp [svL]
    | succ n ih =>
      by_cases hp : hasS h it n
      · rw [svL_y hp]; simp; exact ih
      · rw [svL_n hp]; omega
  have h2 := h1 10
  unfold kPl kPl0 kBase
  split <;> simp <;> omega
theorem kBill_len {h : zH} {a it zone day : Int} : (kBill h a it zone day).1.length ≤ 13 := by
  by_cases hp : kBillP h a it zone day
  · rw [kBill_y hp]; exact kPl_len
  · rw [kBill_n hp]; simp
theorem rBill_len (kr : List Row) (I : IT) (zone day : Int) : (rBill kr I zone day).1.length ≤ 13 := by
  unfold rBill
  split
  · simp
  · exact kBill_len
theorem itB_OK {h : zH} {it : Int} {I : IT} (hi : ItIs h it I) (hb : itB I) : itOK h it := by
  obtain ⟨i0, i1, i2, i3, i4, i5⟩ := hi
  unfold itOK
  rw [i1, i2, i3, i4]
  exact ⟨hb.2.1, hb.2.2.1, hb.2.2.2.1, hb.2.2.2.2.1⟩
end MA4
