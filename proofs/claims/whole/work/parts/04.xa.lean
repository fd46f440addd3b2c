section ZA
variable {D : va_G} {M : zM} {d k n pc : Nat} {L : List (Nat × zV)} {st : List zV} {ty : zT} {sz : Nat} {h : zH} {Q : zQ}
theorem z_ix {i : Int} {N : Nat} (h0 : 0 ≤ i) (h1 : i < N) (hN : N < 2 ^ 31) : (Int32.ofInt i).toNatClampNeg = i.toNat ∧ ¬ (Int32.ofInt i < 0 ∨ N ≤ (Int32.ofInt i).toNatClampNeg) := by
  have e : (Int32.ofInt i).toInt = i := w32_id (by omega) (by omega)
  have e2 : (Int32.ofInt i).toNatClampNeg = i.toNat := by
    show (Int32.ofInt i).toInt.toNat = i.toNat
    rw [e]
  refine ⟨e2, fun q => ?_⟩
  rcases q with q | q
  · rw [Int32.lt_iff_toInt_lt, e] at q
    have : (0 : Int32).toInt = 0 := rfl
    omega
  · rw [e2] at q
    omega
theorem z_kty {s : State} {D : va_G} (hK : va_K D zC (ztys D) s) : (∀ N z, s.isArrayOf (arrV (D.1 8) N z) .int) ∧ (∀ N z, s.isArrayOf (arrV (D.1 9) N z) .long) ∧ (∀ N z, s.isArrayOf (arrV (D.1 10) N z) .boolean) :=
  ⟨fun N z => (hK.2 0 _ rfl).1 N z, fun N z => (hK.2 1 _ rfl).1 N z, fun N z => (hK.2 2 _ rfl).1 N z⟩

theorem x_iald {N : Nat} {fz : zF} {r i : Int} (hd : decode M.2.1 pc = .ok (.iaload, 1)) (hty : ty r = some (8, N, fz)) (h0 : 0 ≤ i) (h1 : i < N) (kk : i32 (h r i) → zX D M d k n (pc + 1) L (iV (h r i) :: st) ty sz h Q) : zX D M d k n pc L (iV i :: rV r :: st) ty sz h Q := by
  intro p l e R s m args below meth c H locs ls cells slots mc ms A H0 G S Y hret
  have hrg : i32 (h r i) := by
    have := (Y.1.1 r 8 N fz hty).2.2.2 i.toNat (by omega)
    rw [Int.toNat_of_nonneg h0] at this
    exact this.1 rfl
  have K := kk hrg p l e R s m args below meth c H locs ls cells slots mc ms A H0 G S Y hret
  obtain ⟨ha, hc⟩ := Y.1.1 r 8 N fz hty
  obtain ⟨hN, hH⟩ := z_arr hc (by decide)
  obtain ⟨e1, e2⟩ := z_ix h0 h1 hN
  show W p l e R s m args below meth c H locs cells slots G (F0 m pc ls (.int (Int32.ofInt i) :: zcv (rV r) :: st.map zcv))
  rw [zcv_r ha]
  refine W.iald (v := zcv (iV (h r i))) S.1 S.2.1 hH ((z_kty S.2.2.2.2.2.2.2.1).1 N _) (fun q => by cases q) (by rw [arrV_size]; exact e2) ?_ rfl rfl hd K
  rw [e1, arrV_read _ _ (by omega), Int.toNat_of_nonneg h0]
  rfl
theorem x_lald {N : Nat} {fz : zF} {r i : Int} (hd : decode M.2.1 pc = .ok (.laload, 1)) (hty : ty r = some (9, N, fz)) (h0 : 0 ≤ i) (h1 : i < N) (kk : i64 (h r i) → zX D M d k n (pc + 1) L (lV (h r i) :: st) ty sz h Q) : zX D M d k n pc L (iV i :: rV r :: st) ty sz h Q := by
  intro p l e R s m args below meth c H locs ls cells slots mc ms A H0 G S Y hret
  have hrg : i64 (h r i) := by
    have := (Y.1.1 r 9 N fz hty).2.2.2 i.toNat (by omega)
    rw [Int.toNat_of_nonneg h0] at this
    exact this.2 rfl
  have K := kk hrg p l e R s m args below meth c H locs ls cells slots mc ms A H0 G S Y hret
  obtain ⟨ha, hc⟩ := Y.1.1 r 9 N fz hty
  obtain ⟨hN, hH⟩ := z_arr hc (by decide)
  obtain ⟨e1, e2⟩ := z_ix h0 h1 hN
  show W p l e R s m args below meth c H locs cells slots G (F0 m pc ls (.int (Int32.ofInt i) :: zcv (rV r) :: st.map zcv))
  rw [zcv_r ha]
  refine W.lald (v := zcv (lV (h r i))) S.1 S.2.1 hH ((z_kty S.2.2.2.2.2.2.2.1).2.1 N _) (fun q => by cases q) (by rw [arrV_size]; exact e2) ?_ rfl rfl hd K
  rw [e1, arrV_read _ _ (by omega), Int.toNat_of_nonneg h0]
  rfl
theorem x_zald {N : Nat} {fz : zF} {r i : Int} (hd : decode M.2.1 pc = .ok (.baload, 1)) (hty : ty r = some (10, N, fz)) (h0 : 0 ≤ i) (h1 : i < N) (kk : i32 (h r i) → zX D M d k n (pc + 1) L (iV (h r i) :: st) ty sz h Q) : zX D M d k n pc L (iV i :: rV r :: st) ty sz h Q := by
  intro p l e R s m args below meth c H locs ls cells slots mc ms A H0 G S Y hret
  have hrg : i32 (h r i) := by
    have := (Y.1.1 r 10 N fz hty).2.2.2 i.toNat (by omega)
    rw [Int.toNat_of_nonneg h0] at this
    exact this.1 rfl
  have K := kk hrg p l e R s m args below meth c H locs ls cells slots mc ms A H0 G S Y hret
  obtain ⟨ha, hc⟩ := Y.1.1 r 10 N fz hty
  obtain ⟨hN, hH⟩ := z_arr hc (by decide)
  obtain ⟨e1, e2⟩ := z_ix h0 h1 hN
  show W p l e R s m args below meth c H locs cells slots G (F0 m pc ls (.int (Int32.ofInt i) :: zcv (rV r) :: st.map zcv))
  rw [zcv_r ha]
  refine W.zald (v := zcv (iV (h r i))) S.1 S.2.1 hH ((z_kty S.2.2.2.2.2.2.2.1).2.2 N _) (fun q => by cases q) (by rw [arrV_size]; exact e2) ?_ rfl rfl hd K
  rw [e1, arrV_read _ _ (by omega), Int.toNat_of_nonneg h0]
  rfl
theorem x_aald {kc N : Nat} {fz : zF} {r i : Int} (hd : decode M.2.1 pc = .ok (.aaload, 1)) (hty : ty r = some (kc, N, fz)) (hk : kc = 11 ∨ kc = 12 ∨ kc = 13) (h0 : 0 ≤ i) (h1 : i < N) (kk : zX D M d k n (pc + 1) L (rV (h r i) :: st) ty sz h Q) : zX D M d k n pc L (iV i :: rV r :: st) ty sz h Q := by
  intro p l e R s m args below meth c H locs ls cells slots mc ms A H0 G S Y hret
  have K := kk p l e R s m args below meth c H locs ls cells slots mc ms A H0 G S Y hret
  obtain ⟨ha, hc⟩ := Y.1.1 r kc N fz hty
  obtain ⟨hN, hH⟩ := z_arr hc (by omega)
  obtain ⟨e1, e2⟩ := z_ix h0 h1 hN
  show W p l e R s m args below meth c H locs cells slots G (F0 m pc ls (.int (Int32.ofInt i) :: zcv (rV r) :: st.map zcv))
  rw [zcv_r ha]
  have hv : (arrV (D.1 kc) N (fun j => zct (zat kc) (h r j))).slots[(Int32.ofInt i).toNatClampNeg]? = some (zcv (rV (h r i))) := by
    rw [e1, arrV_read _ _ (by omega), Int.toNat_of_nonneg h0]
    rcases hk with rfl | rfl | rfl <;> rfl
  rcases hk with rfl | rfl | rfl
  · exact W.aald (v := zcv (rV (h r i))) (ty := .object RX2) S.1 S.2.1 hH ((S.2.2.2.2.2.2.2.1.2 3 _ rfl).1 N _) rfl (fun q => by cases q) (by rw [arrV_size]; exact e2) hv rfl rfl hd K
  · exact W.aald (v := zcv (rV (h r i))) (ty := .object RX1) S.1 S.2.1 hH ((S.2.2.2.2.2.2.2.1.2 4 _ rfl).1 N _) rfl (fun q => by cases q) (by rw [arrV_size]; exact e2) hv rfl rfl hd K
  · exact W.aald (v := zcv (rV (h r i))) (ty := .object RX3) S.1 S.2.1 hH ((S.2.2.2.2.2.2.2.1.2 5 _ rfl).1 N _) rfl (fun q => by cases q) (by rw [arrV_size]; exact e2) hv rfl rfl hd K
theorem z_arrOf {s : State} {kc N : Nat} {z : Nat → Value} (hK : va_K D zC (ztys D) s) (h8 : 8 ≤ kc) (h14 : kc < 14) : ∃ t, s.isArrayOf (arrV (D.1 kc) N z) t := by
  have : kc = 8 ∨ kc = 9 ∨ kc = 10 ∨ kc = 11 ∨ kc = 12 ∨ kc = 13 := by omega
  rcases this with rfl | rfl | rfl | rfl | rfl | rfl
  · exact ⟨_, (hK.2 0 _ rfl).1 N z⟩
  · exact ⟨_, (hK.2 1 _ rfl).1 N z⟩
  · exact ⟨_, (hK.2 2 _ rfl).1 N z⟩
  · exact ⟨_, (hK.2 3 _ rfl).1 N z⟩
  · exact ⟨_, (hK.2 4 _ rfl).1 N z⟩
  · exact ⟨_, (hK.2 5 _ rfl).1 N z⟩
theorem x_alen {kc N : Nat} {fz : zF} {r : Int} (hd : decode M.2.1 pc = .ok (.arraylength, 1)) (hty : ty r = some (kc, N, fz)) (hk : 8 ≤ kc) (kk : zX D M d k n (pc + 1) L (iV N :: st) ty sz h Q) : zX D M d k n pc L (rV r :: st) ty sz h Q := by
  intro p l e R s m args below meth c H locs ls cells slots mc ms A H0 G S Y hret
  have K := kk p l e R s m args below meth c H locs ls cells slots mc ms A H0 G S Y hret
  obtain ⟨ha, hc⟩ := Y.1.1 r kc N fz hty
  have h14 : kc < 14 := by
    rcases hc.1 with ⟨h1, -⟩ | ⟨-, h1, -⟩ <;> omega
  obtain ⟨hN, hH⟩ := z_arr hc hk
  obtain ⟨t, htt⟩ := z_arrOf (N := N) (z := fun j => zct (zat kc) (h r j)) S.2.2.2.2.2.2.2.1 hk h14
  show W p l e R s m args below meth c H locs cells slots G (F0 m pc ls (zcv (rV r) :: st.map zcv))
  rw [zcv_r ha]
  exact W.alen (n := Int32.ofInt N) S.1 S.2.1 hH htt (by rw [arrV_size]; rfl) rfl rfl hd K
theorem x_iast {N : Nat} {fz : zF} {r i z : Int} (hd : decode M.2.1 pc = .ok (.iastore, 1)) (hty : ty r = some (8, N, fz)) (h0 : 0 ≤ i) (h1 : i < N) (hfz : fz i = none) (hrg : i32 z) (kk : zX D M d k n (pc + 1) L st ty sz (zup h r i z) Q) : zX D M d k n pc L (iV z :: iV i :: rV r :: st) ty sz h Q := by
  intro p l e R s m args below meth c H locs ls cells slots mc ms A H0 G S Y hret
  obtain ⟨ha, hc⟩ := Y.1.1 r 8 N fz hty
  obtain ⟨hN, hH⟩ := z_arr hc (by decide)
  obtain ⟨e1, e2⟩ := z_ix h0 h1 hN
  show W p l e R s m args below meth c H locs cells slots G (F0 m pc ls (zcv (iV z) :: .int (Int32.ofInt i) :: zcv (rV r) :: st.map zcv))
  rw [zcv_r ha]
  refine W.iast S.1 S.2.1 hH ((z_kty S.2.2.2.2.2.2.2.1).1 N _) (fun q => by cases q) (by rw [arrV_size]; exact e2) rfl rfl hd fun H1 e3 e4 e5 => ?_
  refine kk p l e R s m args below meth c H1 _ ls cells slots mc ms A H0 G S ⟨zO_put Y.1 hty hfz (fun _ _ => ⟨fun _ => hrg, fun q => by cases q⟩) ?_ e4 e5, Y.2⟩ hret
  refine Or.inr ⟨by decide, by decide, hN, ?_⟩
  rw [e3, arrV_store]
  congr 2
  funext j
  by_cases hj : j = (Int32.ofInt i).toNatClampNeg
  · have : (j : Int) = i := by omega
    simp [updV, hj, zup, zct, zat, e1, Int.toNat_of_nonneg h0]
    try rfl
  · have : ¬ (j : Int) = i := by omega
    simp [updV, hj, zup, this]
theorem x_last {N : Nat} {fz : zF} {r i z : Int} (hd : decode M.2.1 pc = .ok (.lastore, 1)) (hty : ty r = some (9, N, fz)) (h0 : 0 ≤ i) (h1 : i < N) (hfz : fz i = none) (hrg : i64 z) (kk : zX D M d k n (pc + 1) L st ty sz (zup h r i z) Q) : zX D M d k n pc L (lV z :: iV i :: rV r :: st) ty sz h Q := by
  intro p l e R s m args below meth c H locs ls cells slots mc ms A H0 G S Y hret
  obtain ⟨ha, hc⟩ := Y.1.1 r 9 N fz hty
  obtain ⟨hN, hH⟩ := z_arr hc (by decide)
  obtain ⟨e1, e2⟩ := z_ix h0 h1 hN
  show W p l e R s m args below meth c H locs cells slots G (F0 m pc ls (zcv (lV z) :: .int (Int32.ofInt i) :: zcv (rV r) :: st.map zcv))
  rw [zcv_r ha]
  refine W.last S.1 S.2.1 hH ((z_kty S.2.2.2.2.2.2.2.1).2.1 N _) (fun q => by cases q) (by rw [arrV_size]; exact e2) rfl rfl hd fun H1 e3 e4 e5 => ?_
  refine kk p l e R s m args below meth c H1 _ ls cells slots mc ms A H0 G S ⟨zO_put Y.1 hty hfz (fun _ _ => ⟨fun q => (by cases q), fun _ => hrg⟩) ?_ e4 e5, Y.2⟩ hret
  refine Or.inr ⟨by decide, by decide, hN, ?_⟩
  rw [e3, arrV_store]
  congr 2
  funext j
  by_cases hj : j = (Int32.ofInt i).toNatClampNeg
  · have : (j : Int) = i := by omega
    simp [updV, hj, zup, zct, zat, e1, Int.toNat_of_nonneg h0]
    try rfl
  · have : ¬ (j : Int) = i := by omega
    simp [updV, hj, zup, this]
theorem x_zast {N : Nat} {fz : zF} {r i z : Int} (hd : decode M.2.1 pc = .ok (.bastore, 1)) (hty : ty r = some (10, N, fz)) (h0 : 0 ≤ i) (h1 : i < N) (hz : z = 0 ∨ z = 1) (hfz : fz i = none) (kk : zX D M d k n (pc + 1) L st ty sz (zup h r i z) Q) : zX D M d k n pc L (iV z :: iV i :: rV r :: st) ty sz h Q := by
  intro p l e R s m args below meth c H locs ls cells slots mc ms A H0 G S Y hret
  obtain ⟨ha, hc⟩ := Y.1.1 r 10 N fz hty
  obtain ⟨hN, hH⟩ := z_arr hc (by decide)
  obtain ⟨e1, e2⟩ := z_ix h0 h1 hN
  show W p l e R s m args below meth c H locs cells slots G (F0 m pc ls (zcv (iV z) :: .int (Int32.ofInt i) :: zcv (rV r) :: st.map zcv))
  rw [zcv_r ha]
  refine W.zast S.1 S.2.1 hH ((z_kty S.2.2.2.2.2.2.2.1).2.2 N _) (fun q => by cases q) (by rw [arrV_size]; exact e2) rfl rfl hd fun H1 e3 e4 e5 => ?_
  refine kk p l e R s m args below meth c H1 _ ls cells slots mc ms A H0 G S ⟨zO_put Y.1 hty hfz (fun _ _ => ⟨fun _ => by omega, fun q => by cases q⟩) ?_ e4 e5, Y.2⟩ hret
  refine Or.inr ⟨by decide, by decide, hN, ?_⟩
  have ez : narrow .boolean (.int (Int32.ofInt z)) = .int (Int32.ofInt z) := by rcases hz with rfl | rfl <;> decide
  rw [ez] at e3
  rw [e3, arrV_store]
  congr 2
  funext j
  by_cases hj : j = (Int32.ofInt i).toNatClampNeg
  · have : (j : Int) = i := by omega
    simp [updV, hj, zup, zct, zat, e1, Int.toNat_of_nonneg h0]
    try rfl
  · have : ¬ (j : Int) = i := by omega
    simp [updV, hj, zup, this]
theorem x_aast {kc ci N N2 : Nat} {fz fz2 : zF} {r i z : Int} (hd : decode M.2.1 pc = .ok (.aastore, 1)) (hty : ty r = some (kc, N, fz)) (hk : (kc = 11 ∧ ci = 2) ∨ (kc = 12 ∧ ci = 1) ∨ (kc = 13 ∧ ci = 3)) (hv : ty z = some (ci, N2, fz2)) (h0 : 0 ≤ i) (h1 : i < N) (hfz : fz i = none) (kk : zX D M d k n (pc + 1) L st ty sz (zup h r i z) Q) : zX D M d k n pc L (rV z :: iV i :: rV r :: st) ty sz h Q := by
  intro p l e R s m args below meth c H locs ls cells slots mc ms A H0 G S Y hret
  obtain ⟨ha, hc⟩ := Y.1.1 r kc N fz hty
  obtain ⟨hz, hcz⟩ := Y.1.1 z ci N2 fz2 hv
  obtain ⟨hN, hH⟩ := z_arr hc (by omega)
  obtain ⟨e1, e2⟩ := z_ix h0 h1 hN
  have hfin : ∃ (q : vw_C) (t0 : Nat), zC[ci]? = some q ∧ ci < 8 ∧ (ztys D)[t0]? = some (D.1 kc, .object q.1) ∧ zat kc = 2 ∧ kc < 14 := by
    rcases hk with ⟨rfl, rfl⟩ | ⟨rfl, rfl⟩ | ⟨rfl, rfl⟩
    · exact ⟨_, 3, rfl, by decide, rfl, rfl, by decide⟩
    · exact ⟨_, 4, rfl, by decide, rfl, rfl, by decide⟩
    · exact ⟨_, 5, rfl, by decide, rfl, rfl, by decide⟩
  obtain ⟨q, t0, hq, h8, ht, hat, h14⟩ := hfin
  obtain ⟨-, cellV, g1, g2, g3, -⟩ := z_obj hcz h8 hq
  have hcls := (S.2.2.2.2.2.2.2.1.1 ci q hq).2
  obtain ⟨kA, comp, k1, k2, k3, -⟩ := (S.2.2.2.2.2.2.2.1.2 t0 _ ht).2
  have hcomp : comp = D.1 ci := Option.some.inj (k3.symm.trans hcls.1)
  subst hcomp
  have hcl2 := hcls
  obtain ⟨-, kC, hkC, -⟩ := hcl2
  show W p l e R s m args below meth c H locs cells slots G (F0 m pc ls (zcv (rV z) :: .int (Int32.ofInt i) :: zcv (rV r) :: st.map zcv))
  rw [zcv_r ha, zcv_r hz]
  have h00 : ¬ Int32.ofInt i < 0 := fun q => e2 (Or.inl q)
  refine W.aast S.1 S.2.1 hH (fun q h => by cases h) (fun h => by cases h) k1 k2 rfl hkC ⟨h00, by rw [arrV_size]; omega⟩ g1 (fun q h => by rw [g3] at h; cases h) (by rw [g2]; exact hkC) (by rw [g2]; exact va_assign hcls) rfl rfl hd fun H1 e3 e4 e5 => ?_
  refine kk p l e R s m args below meth c H1 _ ls cells slots mc ms A H0 G S ⟨zO_put Y.1 hty hfz (fun _ _ => by unfold ztagc; rw [if_neg (by omega), hat]; exact ⟨fun q => (by cases q), fun q => (by cases q)⟩) ?_ e4 e5, Y.2⟩ hret
  refine Or.inr ⟨by omega, h14, hN, ?_⟩
  rw [e3, arrV_store]
  congr 2
  funext j
  by_cases hj : j = (Int32.ofInt i).toNatClampNeg
  · have : (j : Int) = i := by omega
    have e9 := zcv_r hz
    simp only [zcv] at e9
    simp [updV, hj, zup, zct, hat, e1, Int.toNat_of_nonneg h0]
    exact e9.symm
  · have : ¬ (j : Int) = i := by omega
    simp [updV, hj, zup, this]
/-- default contents -/
def zdef (ci : Nat) : Int → Int := fun j => if ztg (zty ci j.toNat) = 2 then -1 else 0
theorem zrow_ne {a b : Int} {f : Int → Int} (hab : a ≠ b) : zrow h b f a = h a := by
  funext j
  simp [zrow, hab]
/-- the world with one cell more -/
theorem zO_new {kc N : Nat} {f : Int → Int} {H H1 : Heap} {locs : List Loc} {A : Nat → Prop} {H0 : Heap} (hO : zO D ty sz h H locs A H0) (hAll : ∀ q, H0.size ≤ q → A q) (hrg : ∀ i : Nat, f i = 0 ∨ f i = -1) (hc : zcell0 D kc N f H.size H1) (hz : H1.size = H.size + 1) (oq : ∀ q : Nat, q < H.size → H1[q]? = H[q]?) : zO D (znew ty sz kc N) (sz + 1) (zrow h sz f) H1 locs A H0 := by
  obtain ⟨hW, rfl, hA, hS⟩ := hO
  have lt : ∀ a q, ty a = some q → a.toNat < H.size := by
    intro a q ht
    obtain ⟨-, hc⟩ := hW a q.1 q.2.1 q.2.2 ht
    rcases hc.1 with ⟨-, r, -, -, cell, h1, -⟩ | ⟨-, -, -, h1⟩ <;> exact (Array.getElem?_eq_some_iff.mp h1).1
  refine ⟨fun a k n fz2 ht => ?_, by omega, fun a q ht => ?_, ⟨Nat.le_trans hS.1 (by omega), fun x h1 h2 => (oq x (Nat.lt_of_lt_of_le h1 hS.1)).trans (hS.2.1 x h1 h2), hS.2.2⟩⟩
  · by_cases e : a = (H.size : Int)
    · subst e
      simp only [znew, if_true, Option.some.injEq, Prod.mk.injEq] at ht
      obtain ⟨rfl, rfl, rfl⟩ := ht
      refine ⟨Int.natCast_nonneg _, ?_⟩
      rw [show zrow h (H.size : Int) f (H.size : Int) = f from by funext j; simp [zrow], Int.toNat_natCast]
      exact ⟨hc, fun i v hi => (by cases hi), fun i _ => ⟨fun _ => by rcases hrg i with q | q <;> rw [q] <;> decide, fun _ => by rcases hrg i with q | q <;> rw [q] <;> decide⟩⟩
    · simp only [znew, if_neg e] at ht
      rw [zrow_ne e]
      obtain ⟨h0, hc0⟩ := hW a k n fz2 ht
      exact ⟨h0, z_kept hc0 (oq _ (lt a _ ht))⟩
  · by_cases e : a = (H.size : Int)
    · subst e
      rw [Int.toNat_natCast]
      exact hAll _ hS.1
    · simp only [znew, if_neg e] at ht
      exact hA a q ht
theorem z_dv (ci j : Nat) : defaultValue (zty ci j) = zct (ztg (zty ci j)) (if ztg (zty ci j) = 2 then -1 else 0) := by
  unfold zty
  split
  · unfold tyX0; split <;> rfl
  · unfold tyX1; rfl
  · unfold tyX2; split <;> rfl
  · unfold tyX3; split <;> rfl
  · unfold tyX4; split <;> rfl
  · unfold tyX5; split <;> rfl
  · unfold tyX6; split <;> rfl
  · unfold tyX7; split <;> rfl
theorem x_new {ci idx : Nat} {q : vw_C} (hd : decode M.2.1 pc = .ok (.new idx, 3)) (hq : zC[ci]? = some q) (h8 : ci < 8) (hcl : Cond.classLink M.1.cls idx q.1 ∈ zTB) (hins : Cond.instantiable q.1 q.2.2 ∈ zTB) (hini : Cond.initialized q.1 ∈ zTB) (hin : ∀ w ∈ u_ws q.1 q.2.1 q.2.2, w ∈ zTB) (kk : zX D M d k n (pc + 3) L (rV sz :: st) (znew ty sz ci q.2.2) (sz + 1) (zrow h sz (zdef ci)) Q) : zX D M d (k + 1) (n + q.2.2) pc L st ty sz h Q := by
  intro p l e R s m args below meth c H locs ls cells slots mc ms A H0 G S Y hret
  obtain ⟨hO, hL, hk1, hk2⟩ := Y
  have hsz := hO.2.1
  have hts := S.2.2.2.2.2.1
  have hKn := S.2.2.2.2.2.2.2.1.1 ci q hq
  refine W.newcK S.1 S.2.1 S.2.2.2.2.1 (hts _ hcl) (hts _ hins) (hts _ hini) rfl hd (by have := S.2.2.2.2.2.2.2.2.2.2.2.2.1; omega) (by have := S.2.2.2.2.2.2.2.2.2.2.2.2.2.1; omega) hKn.2.1 rfl fun H1 kC hkC e1 z1 o1 => ?_
  have K := kk p l e R s m args below meth c H1 locs ls (cells + 1) (slots + q.2.2) mc ms A H0 G S ⟨zO_new hO S.2.2.2.2.2.2.2.2.2.1 (fun i => by unfold zdef; split <;> simp) (Or.inl ⟨h8, q, hq, rfl, ?_⟩) z1 o1, hL, by omega, by omega⟩ hret
  · have ez : zcv (rV sz) = .ref H.size := by
      rw [zcv_r (by omega), Int.toNat_natCast, hsz]
    change W p l e R s m args below meth c H1 locs (cells + 1) (slots + q.2.2) G (F0 m (pc + 3) ls (zcv (rV sz) :: st.map zcv)) at K
    rw [ez] at K
    exact K
  · have hb := (u_born (zty ci) hts hin hKn hkC e1 (zC_ok ci q hq).1)
    refine hb.to (fun j hj => ?_)
    simp only [zdef, Int.toNat_natCast]
    exact z_dv ci j
theorem x_newI {N : Nat} (hd : decode M.2.1 pc = .ok (.newarray .int, 2)) (hw : Cond.arrayClass .int ∈ zTB) (hN : N ≤ 10000) (kk : zX D M d k n (pc + 2) L (rV sz :: st) (znew ty sz 8 N) (sz + 1) (zrow h sz (fun _ => 0)) Q) : zX D M d (k + 1) (n + N) pc L (iV N :: st) ty sz h Q := by
  intro p l e R s m args below meth c H locs ls cells slots mc ms A H0 G S Y hret
  obtain ⟨hO, hL, hk1, hk2⟩ := Y
  have hsz := hO.2.1
  have hts := S.2.2.2.2.2.1
  have eN : (Int32.ofInt (N : Int)).toInt = N := w32_id (by omega) (by omega)
  have eN2 : (Int32.ofInt (N : Int)).toNatClampNeg = N := by
    show (Int32.ofInt (N : Int)).toInt.toNat = N
    rw [eN]; rfl
  refine va_newaK (atype := .int) S.1 S.2.1 (hts _ hw) rfl hd rfl (fun q => by rw [Int32.lt_iff_toInt_lt, eN] at q; have : (0 : Int32).toInt = 0 := rfl; omega) eN2 (Nat.le_trans (Nat.mul_le_mul_right _ hN) (by decide)) (by have := S.2.2.2.2.2.2.2.2.2.2.2.2.1; omega) (by have := S.2.2.2.2.2.2.2.2.2.2.2.2.2.1; omega) rfl fun H1 cA e1 z1 o1 hAr hNm => ?_
  have hcA : cA = D.1 8 := by
    have := (S.2.2.2.2.2.2.2.1.2 0 _ rfl).2
    exact Option.some.inj (hNm.symm.trans this)
  subst hcA
  have K := kk p l e R s m args below meth c H1 locs ls (cells + 1) (slots + N) mc ms A H0 G S ⟨zO_new hO S.2.2.2.2.2.2.2.2.2.1 (fun _ => Or.inl rfl) (Or.inr ⟨by decide, by decide, by omega, ?_⟩) z1 o1, hL, by omega, by omega⟩ hret
  · have ez : zcv (rV sz) = .ref H.size := by
      rw [zcv_r (by omega), Int.toNat_natCast, hsz]
    change W p l e R s m args below meth c H1 locs (cells + 1) (slots + N) G (F0 m (pc + 2) ls (zcv (rV sz) :: st.map zcv)) at K
    rw [ez] at K
    exact K
  · rw [e1]
    rfl
theorem x_newJ {N : Nat} (hd : decode M.2.1 pc = .ok (.newarray .long, 2)) (hw : Cond.arrayClass .long ∈ zTB) (hN : N ≤ 10000) (kk : zX D M d k n (pc + 2) L (rV sz :: st) (znew ty sz 9 N) (sz + 1) (zrow h sz (fun _ => 0)) Q) : zX D M d (k + 1) (n + N) pc L (iV N :: st) ty sz h Q := by
  intro p l e R s m args below meth c H locs ls cells slots mc ms A H0 G S Y hret
  obtain ⟨hO, hL, hk1, hk2⟩ := Y
  have hsz := hO.2.1
  have hts := S.2.2.2.2.2.1
  have eN : (Int32.ofInt (N : Int)).toInt = N := w32_id (by omega) (by omega)
  have eN2 : (Int32.ofInt (N : Int)).toNatClampNeg = N := by
    show (Int32.ofInt (N : Int)).toInt.toNat = N
    rw [eN]; rfl
  refine va_newaK (atype := .long) S.1 S.2.1 (hts _ hw) rfl hd rfl (fun q => by rw [Int32.lt_iff_toInt_lt, eN] at q; have : (0 : Int32).toInt = 0 := rfl; omega) eN2 (Nat.le_trans (Nat.mul_le_mul_right _ hN) (by decide)) (by have := S.2.2.2.2.2.2.2.2.2.2.2.2.1; omega) (by have := S.2.2.2.2.2.2.2.2.2.2.2.2.2.1; omega) rfl fun H1 cA e1 z1 o1 hAr hNm => ?_
  have hcA : cA = D.1 9 := by
    have := (S.2.2.2.2.2.2.2.1.2 1 _ rfl).2
    exact Option.some.inj (hNm.symm.trans this)
  subst hcA
  have K := kk p l e R s m args below meth c H1 locs ls (cells + 1) (slots + N) mc ms A H0 G S ⟨zO_new hO S.2.2.2.2.2.2.2.2.2.1 (fun _ => Or.inl rfl) (Or.inr ⟨by decide, by decide, by omega, ?_⟩) z1 o1, hL, by omega, by omega⟩ hret
  · have ez : zcv (rV sz) = .ref H.size := by
      rw [zcv_r (by omega), Int.toNat_natCast, hsz]
    change W p l e R s m args below meth c H1 locs (cells + 1) (slots + N) G (F0 m (pc + 2) ls (zcv (rV sz) :: st.map zcv)) at K
    rw [ez] at K
    exact K
  · rw [e1]
    rfl
theorem x_newZ {N : Nat} (hd : decode M.2.1 pc = .ok (.newarray .boolean, 2)) (hw : Cond.arrayClass .boolean ∈ zTB) (hN : N ≤ 10000) (kk : zX D M d k n (pc + 2) L (rV sz :: st) (znew ty sz 10 N) (sz + 1) (zrow h sz (fun _ => 0)) Q) : zX D M d (k + 1) (n + N) pc L (iV N :: st) ty sz h Q := by
  intro p l e R s m args below meth c H locs ls cells slots mc ms A H0 G S Y hret
  obtain ⟨hO, hL, hk1, hk2⟩ := Y
  have hsz := hO.2.1
  have hts := S.2.2.2.2.2.1
  have eN : (Int32.ofInt (N : Int)).toInt = N := w32_id (by omega) (by omega)
  have eN2 : (Int32.ofInt (N : Int)).toNatClampNeg = N := by
    show (Int32.ofInt (N : Int)).toInt.toNat = N
    rw [eN]; rfl
  refine va_newaK (atype := .boolean) S.1 S.2.1 (hts _ hw) rfl hd rfl (fun q => by rw [Int32.lt_iff_toInt_lt, eN] at q; have : (0 : Int32).toInt = 0 := rfl; omega) eN2 (Nat.le_trans (Nat.mul_le_mul_right _ hN) (by decide)) (by have := S.2.2.2.2.2.2.2.2.2.2.2.2.1; omega) (by have := S.2.2.2.2.2.2.2.2.2.2.2.2.2.1; omega) rfl fun H1 cA e1 z1 o1 hAr hNm => ?_
  have hcA : cA = D.1 10 := by
    have := (S.2.2.2.2.2.2.2.1.2 2 _ rfl).2
    exact Option.some.inj (hNm.symm.trans this)
  subst hcA
  have K := kk p l e R s m args below meth c H1 locs ls (cells + 1) (slots + N) mc ms A H0 G S ⟨zO_new hO S.2.2.2.2.2.2.2.2.2.1 (fun _ => Or.inl rfl) (Or.inr ⟨by decide, by decide, by omega, ?_⟩) z1 o1, hL, by omega, by omega⟩ hret
  · have ez : zcv (rV sz) = .ref H.size := by
      rw [zcv_r (by omega), Int.toNat_natCast, hsz]
    change W p l e R s m args below meth c H1 locs (cells + 1) (slots + N) G (F0 m (pc + 2) ls (zcv (rV sz) :: st.map zcv)) at K
    rw [ez] at K
    exact K
  · rw [e1]
    rfl
theorem x_anew {kc idx N : Nat} {C : String} (hd : decode M.2.1 pc = .ok (.anewarray idx, 3)) (hk : (kc = 11 ∧ C = RX2) ∨ (kc = 12 ∧ C = RX1) ∨ (kc = 13 ∧ C = RX3)) (hcl : Cond.classLink M.1.cls idx C ∈ zTB) (hN : N ≤ 10000) (kk : zX D M d k n (pc + 3) L (rV sz :: st) (znew ty sz kc N) (sz + 1) (zrow h sz (fun _ => -1)) Q) : zX D M d (k + 1) (n + N) pc L (iV N :: st) ty sz h Q := by
  intro p l e R s m args below meth c H locs ls cells slots mc ms A H0 G S Y hret
  obtain ⟨hO, hL, hk1, hk2⟩ := Y
  have hsz := hO.2.1
  have hts := S.2.2.2.2.2.1
  have eN : (Int32.ofInt (N : Int)).toInt = N := w32_id (by omega) (by omega)
  have eN2 : (Int32.ofInt (N : Int)).toNatClampNeg = N := by
    show (Int32.ofInt (N : Int)).toInt.toNat = N
    rw [eN]; rfl
  have hao : va_AO C s := by
    have hA := S.2.2.2.2.2.2.2.2.2.2.2.2.2.2.2
    rcases hk with ⟨-, rfl⟩ | ⟨-, rfl⟩ | ⟨-, rfl⟩
    · exact hA.1
    · exact hA.2.1
    · exact hA.2.2.1
  have hfin : ∃ t0 : Nat, (ztys D)[t0]? = some (D.1 kc, FieldType.object C) ∧ zat kc = 2 ∧ 8 ≤ kc ∧ kc < 14 := by
    rcases hk with ⟨rfl, rfl⟩ | ⟨rfl, rfl⟩ | ⟨rfl, rfl⟩
    · exact ⟨3, rfl, rfl, by decide, by decide⟩
    · exact ⟨4, rfl, rfl, by decide, by decide⟩
    · exact ⟨5, rfl, rfl, by decide, by decide⟩
  obtain ⟨t0, ht, hat, h8, h14⟩ := hfin
  obtain ⟨kA0, comp0, k1, k2, k3, hNm⟩ := (S.2.2.2.2.2.2.2.1.2 t0 _ ht).2
  refine W.anew S.1 S.2.1 S.2.2.2.2.1 (hts _ hcl) (va_AO.use hao) rfl hd rfl (fun q => by rw [Int32.lt_iff_toInt_lt, eN] at q; have : (0 : Int32).toInt = 0 := rfl; omega) (by rw [eN2]; omega) (by have := S.2.2.2.2.2.2.2.2.2.2.2.2.1; omega) (by rw [eN2]; have := S.2.2.2.2.2.2.2.2.2.2.2.2.2.1; omega) fun cA kA comp f1 f2 f3 f4 => ?_
  rw [eN2]
  have hcA : cA = D.1 kc := Option.some.inj (f1.symm.trans hNm)
  subst hcA
  generalize hH1 : H.push ({ cls := D.1 kc, slots := Array.replicate N .null, vm := .none } : Cell) = H1
  have z1 : H1.size = H.size + 1 := by rw [← hH1, Array.size_push]
  have e1 : H1[H.size]? = some (arrV (D.1 kc) N (fun _ => .null)) := by rw [← hH1, Array.getElem?_push_size, ← arrV_new]
  have o1 : ∀ q : Nat, q < H.size → H1[q]? = H[q]? := fun q hq => by rw [← hH1, Array.getElem?_push, if_neg (Nat.ne_of_lt hq)]
  have K := kk p l e R s m args below meth c H1 locs ls (cells + 1) (slots + N) mc ms A H0 G S ⟨zO_new hO S.2.2.2.2.2.2.2.2.2.1 (fun _ => Or.inr rfl) (Or.inr ⟨h8, h14, by omega, ?_⟩) z1 o1, hL, by omega, by omega⟩ hret
  · have ez : zcv (rV sz) = .ref H.size := by
      rw [zcv_r (by omega), Int.toNat_natCast, hsz]
    change W p l e R s m args below meth c H1 locs (cells + 1) (slots + N) G (F0 m (pc + 3) ls (zcv (rV sz) :: st.map zcv)) at K
    rw [ez] at K
    exact K
  · rw [e1, hat]
    rfl
/-- ends -/
theorem x_ret (hr : zRet M pc none) (hq : Q none ty sz h) : zX D M d k n pc L [] ty sz h Q := by
  intro p l e R s m args below meth c H locs ls cells slots mc ms A H0 G S Y hret
  exact W.widen (by have := Y.2.2.1; omega) (by have := Y.2.2.2; omega) (hret none ty sz h H locs ls pc hq Y.1 hr)
theorem x_retv {v : zV} (hr : zRet M pc (some v)) (hq : Q (some v) ty sz h) : zX D M d k n pc L [v] ty sz h Q := by
  intro p l e R s m args below meth c H locs ls cells slots mc ms A H0 G S Y hret
  exact W.widen (by have := Y.2.2.1; omega) (by have := Y.2.2.2; omega) (hret (some v) ty sz h H locs ls pc hq Y.1 hr)
theorem x_q {Q' : zQ} (hx : zX D M d k n pc L st ty sz h Q') (hq : ∀ v t z g, Q' v t z g → Q v t z g) : zX D M d k n pc L st ty sz h Q := by
  intro p l e R s m args below meth c H locs ls cells slots mc ms A H0 G S Y hret
  exact hx p l e R s m args below meth c H locs ls cells slots mc ms A H0 G S Y (fun v t z g H' locs' ls' pc' q => hret v t z g H' locs' ls' pc' (hq v t z g q))
/-- fewer locals -/
def zlks (L : List (Nat × zV)) : List (Nat × zV) → Prop
  | [] => True
  | q :: r => zlk q.1 L = some q.2 ∧ zlks L r
theorem zlks_has {L : List (Nat × zV)} {nL : Nat} {ls : Array Slot} (hL : lv_has ls nL (zloc L)) : ∀ {L' : List (Nat × zV)}, zlks L L' → lv_has ls nL (zloc L')
  | [], _ => ⟨hL.1, hL.2.1, fun q hq => by simp [zloc] at hq⟩
  | q :: r, hh => by
    refine ⟨hL.1, hL.2.1, fun x hx => ?_⟩
    rcases List.mem_cons.mp hx with e | hx
    · subst e
      exact hL.2.2 _ (List.mem_map.mpr ⟨_, zlk_mem hh.1, rfl⟩)
    · exact (zlks_has hL hh.2).2.2 x hx
theorem x_loc (L' : List (Nat × zV)) (hl : zlks L L') (kk : zX D M d k n pc L' st ty sz h Q) : zX D M d k n pc L st ty sz h Q := by
  intro p l e R s m args below meth c H locs ls cells slots mc ms A H0 G S Y hret
  exact kk p l e R s m args below meth c H locs ls cells slots mc ms A H0 G S ⟨Y.1, zlks_has Y.2.1 hl, Y.2.2⟩ hret
/-- more room than is wanted -/
theorem x_room {d' k' n' : Nat} (hd : d' ≤ d) (hk : k' ≤ k) (hn : n' ≤ n) (kk : zX D M d' k' n' pc L st ty sz h Q) : zX D M d k n pc L st ty sz h Q := by
  intro p l e R s m args below meth c H locs ls cells slots mc ms A H0 G S Y hret
  obtain ⟨s1, s2, s3, s4, s5, s6, s7, s8, s9, s10, s11, s12, s13⟩ := S
  exact kk p l e R s m args below meth c H locs ls cells slots mc ms A H0 G ⟨s1, s2, s3, s4, s5, s6, s7, s8, s9, s10, by omega, by omega, s13⟩ ⟨Y.1, Y.2.1, by have := Y.2.2.1; omega, by have := Y.2.2.2; omega⟩ hret
theorem x_aaldF {kc N : Nat} {fz : zF} {r i v : Int} (hd : decode M.2.1 pc = .ok (.aaload, 1)) (hty : ty r = some (kc, N, fz)) (hk : kc = 11 ∨ kc = 12 ∨ kc = 13) (h0 : 0 ≤ i) (h1 : i < N) (hz : fz i = some v) (kk : zX D M d k n (pc + 1) L (rV v :: st) ty sz h Q) : zX D M d k n pc L (iV i :: rV r :: st) ty sz h Q := by
  intro p l e R s m args below meth c H locs ls cells slots mc ms A H0 G S Y hret
  have e1 : h r i = v := (Y.1.1 r kc N fz hty).2.2.1 _ _ hz
  subst e1
  exact x_aald hd hty hk h0 h1 kk p l e R s m args below meth c H locs ls cells slots mc ms A H0 G S Y hret
/-- from here on these places stay -/
def zfrz (ty : zT) (a : Int) (z : zF) : zT := fun a' => if a' = a then (ty a).map (fun q => (q.1, q.2.1, z)) else ty a'
theorem x_freeze {kc N : Nat} {r : Int} (z : zF) (hty : ty r = some (kc, N, zn)) (hz : ∀ i v, z i = some v → h r i = v) (kk : zX D M d k n pc L st (zfrz ty r z) sz h Q) : zX D M d k n pc L st ty sz h Q := by
  intro p l e R s m args below meth c H locs ls cells slots mc ms A H0 G S Y hret
  refine kk p l e R s m args below meth c H locs ls cells slots mc ms A H0 G S ⟨⟨fun a k n fz2 ht => ?_, Y.1.2.1, fun a q ht => ?_, Y.1.2.2.2⟩, Y.2⟩ hret
  · by_cases e : a = r
    · subst e
      simp only [zfrz, if_true, hty, Option.map_some, Option.some.injEq, Prod.mk.injEq] at ht
      obtain ⟨rfl, rfl, rfl⟩ := ht
      obtain ⟨h0, hc⟩ := Y.1.1 a kc N zn hty
      exact ⟨h0, hc.1, hz, hc.2.2⟩
    · simp only [zfrz, if_neg e] at ht
      exact Y.1.1 a k n fz2 ht
  · by_cases e : a = r
    · subst e
      exact Y.1.2.2.1 a _ hty
    · simp only [zfrz, if_neg e] at ht
      exact Y.1.2.2.1 a q ht
/-- addresses stand below the heap's size -/
theorem x_lt (kk : (∀ a q, ty a = some q → 0 ≤ a ∧ a < sz) → zX D M d k n pc L st ty sz h Q) : zX D M d k n pc L st ty sz h Q := by
  intro p l e R s m args below meth c H locs ls cells slots mc ms A H0 G S Y hret
  refine kk (fun a q ht => ?_) p l e R s m args below meth c H locs ls cells slots mc ms A H0 G S Y hret
  obtain ⟨h0, hc⟩ := Y.1.1 a q.1 q.2.1 q.2.2 ht
  have h2 := Y.1.2.1
  refine ⟨h0, ?_⟩
  rcases hc.1 with ⟨-, r, -, -, cell, h1, -⟩ | ⟨-, -, -, h1⟩
  · have := (Array.getElem?_eq_some_iff.mp h1).1
    omega
  · have := (Array.getElem?_eq_some_iff.mp h1).1
    omega
end ZA
