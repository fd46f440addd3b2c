section ZD
variable {D : va_G} {M M' : zM} {d k n pc : Nat} {L : List (Nat × zV)} {st : List zV} {ty : zT} {sz : Nat} {h : zH} {Q : zQ}
theorem zC_lt {ci : Nat} {C : String} (hc : (zC[ci]?).map (fun q => q.1) = some C) : ∃ q, ci < 8 ∧ zC[ci]? = some q ∧ q.1 = C := by
  cases hq : zC[ci]? with
  | none => rw [hq] at hc; cases hc
  | some q =>
    rw [hq] at hc
    exact ⟨q, (List.getElem?_eq_some_iff.mp hq).1, rfl, Option.some.inj hc⟩
theorem x_k0 (hx : zX D M d (k + 0) (n + 0) pc L st ty sz h Q) : zX D M d k n pc L st ty sz h Q := hx

theorem x_callV0 {idx ci N : Nat} {fz : zF} {r : Int} (hd : decode M.2.1 pc = .ok (.invokevirtual idx, 3)) (hlk : zLK M idx M') (hM : zMV M' 0) (hr : ty r = some (ci, N, fz)) (hc : (zC[ci]?).map (fun q => q.1) = some M'.1.cls) (hst : Nat.ble (zsum st) 8 = true) (hla : Nat.ble (zsum (rV r :: [])) M'.2.2.1 = true) (hb : zXM D M' d 0 0 (rV r :: []) ty sz h (fun v ty' sz' h' => zX D M (d + 1) k n (pc + 3) L (v.toList ++ st) ty' sz' h' Q)) : zX D M (d + 1) k n pc L (rV r :: st) ty sz h Q := by
  obtain ⟨q, h8, hq, hn⟩ := zC_lt hc
  exact x_k0 (x_invV0 (As := []) hd hlk hM ⟨ci, N, fz, q, hr, h8, hq, hn⟩ (Nat.le_of_ble_eq_true hst) (Nat.le_of_ble_eq_true hla) hb (fun v ty' sz' h' q => q))
theorem x_callS0 {idx : Nat} (hd : decode M.2.1 pc = .ok (.invokestatic idx, 3)) (hlk : zLK M idx M') (hM : zMS M' 0) (hst : Nat.ble (zsum st) 8 = true) (hla : Nat.ble (zsum []) M'.2.2.1 = true) (hb : zXM D M' d 0 0 [] ty sz h (fun v ty' sz' h' => zX D M (d + 1) k n (pc + 3) L (v.toList ++ st) ty' sz' h' Q)) : zX D M (d + 1) k n pc L (st) ty sz h Q :=
  x_k0 (x_invS0 (As := []) hd hlk hM (Nat.le_of_ble_eq_true hst) (Nat.le_of_ble_eq_true hla) hb (fun v ty' sz' h' q => q))
theorem x_callI0 {idx : Nat} {r : Int} (k' n' : Nat) (hd : decode M.2.1 pc = .ok (.invokespecial idx, 3)) (hlk : zLK M idx M') (hM : zMI M' 0) (hr : 0 ≤ r) (hst : Nat.ble (zsum st) 8 = true) (hla : Nat.ble (zsum (rV r :: [])) M'.2.2.1 = true) (hb : zXM D M' d k' n' (rV r :: []) ty sz h (fun v ty' sz' h' => zX D M (d + 1) k n (pc + 3) L (v.toList ++ st) ty' sz' h' Q)) : zX D M (d + 1) (k + k') (n + n') pc L (rV r :: st) ty sz h Q :=
  x_invI0 (As := []) hd hlk hM hr (Nat.le_of_ble_eq_true hst) (Nat.le_of_ble_eq_true hla) hb (fun v ty' sz' h' q => q)
theorem x_callV1 {idx ci N : Nat} {fz : zF} {r : Int} {a0 : zV} (hd : decode M.2.1 pc = .ok (.invokevirtual idx, 3)) (hlk : zLK M idx M') (hM : zMV M' 1) (hr : ty r = some (ci, N, fz)) (hc : (zC[ci]?).map (fun q => q.1) = some M'.1.cls) (hst : Nat.ble (zsum st) 8 = true) (hla : Nat.ble (zsum (rV r :: [a0])) M'.2.2.1 = true) (hb : zXM D M' d 0 0 (rV r :: [a0]) ty sz h (fun v ty' sz' h' => zX D M (d + 1) k n (pc + 3) L (v.toList ++ st) ty' sz' h' Q)) : zX D M (d + 1) k n pc L (a0 :: rV r :: st) ty sz h Q := by
  obtain ⟨q, h8, hq, hn⟩ := zC_lt hc
  exact x_k0 (x_invV0 (As := [a0]) hd hlk hM ⟨ci, N, fz, q, hr, h8, hq, hn⟩ (Nat.le_of_ble_eq_true hst) (Nat.le_of_ble_eq_true hla) hb (fun v ty' sz' h' q => q))
theorem x_callS1 {idx : Nat} {a0 : zV} (hd : decode M.2.1 pc = .ok (.invokestatic idx, 3)) (hlk : zLK M idx M') (hM : zMS M' 1) (hst : Nat.ble (zsum st) 8 = true) (hla : Nat.ble (zsum [a0]) M'.2.2.1 = true) (hb : zXM D M' d 0 0 [a0] ty sz h (fun v ty' sz' h' => zX D M (d + 1) k n (pc + 3) L (v.toList ++ st) ty' sz' h' Q)) : zX D M (d + 1) k n pc L (a0 :: st) ty sz h Q :=
  x_k0 (x_invS0 (As := [a0]) hd hlk hM (Nat.le_of_ble_eq_true hst) (Nat.le_of_ble_eq_true hla) hb (fun v ty' sz' h' q => q))
theorem x_callI1 {idx : Nat} {r : Int} {a0 : zV} (k' n' : Nat) (hd : decode M.2.1 pc = .ok (.invokespecial idx, 3)) (hlk : zLK M idx M') (hM : zMI M' 1) (hr : 0 ≤ r) (hst : Nat.ble (zsum st) 8 = true) (hla : Nat.ble (zsum (rV r :: [a0])) M'.2.2.1 = true) (hb : zXM D M' d k' n' (rV r :: [a0]) ty sz h (fun v ty' sz' h' => zX D M (d + 1) k n (pc + 3) L (v.toList ++ st) ty' sz' h' Q)) : zX D M (d + 1) (k + k') (n + n') pc L (a0 :: rV r :: st) ty sz h Q :=
  x_invI0 (As := [a0]) hd hlk hM hr (Nat.le_of_ble_eq_true hst) (Nat.le_of_ble_eq_true hla) hb (fun v ty' sz' h' q => q)
theorem x_callV2 {idx ci N : Nat} {fz : zF} {r : Int} {a0 a1 : zV} (hd : decode M.2.1 pc = .ok (.invokevirtual idx, 3)) (hlk : zLK M idx M') (hM : zMV M' 2) (hr : ty r = some (ci, N, fz)) (hc : (zC[ci]?).map (fun q => q.1) = some M'.1.cls) (hst : Nat.ble (zsum st) 8 = true) (hla : Nat.ble (zsum (rV r :: [a0, a1])) M'.2.2.1 = true) (hb : zXM D M' d 0 0 (rV r :: [a0, a1]) ty sz h (fun v ty' sz' h' => zX D M (d + 1) k n (pc + 3) L (v.toList ++ st) ty' sz' h' Q)) : zX D M (d + 1) k n pc L (a1 :: a0 :: rV r :: st) ty sz h Q := by
  obtain ⟨q, h8, hq, hn⟩ := zC_lt hc
  exact x_k0 (x_invV0 (As := [a0, a1]) hd hlk hM ⟨ci, N, fz, q, hr, h8, hq, hn⟩ (Nat.le_of_ble_eq_true hst) (Nat.le_of_ble_eq_true hla) hb (fun v ty' sz' h' q => q))
theorem x_callS2 {idx : Nat} {a0 a1 : zV} (hd : decode M.2.1 pc = .ok (.invokestatic idx, 3)) (hlk : zLK M idx M') (hM : zMS M' 2) (hst : Nat.ble (zsum st) 8 = true) (hla : Nat.ble (zsum [a0, a1]) M'.2.2.1 = true) (hb : zXM D M' d 0 0 [a0, a1] ty sz h (fun v ty' sz' h' => zX D M (d + 1) k n (pc + 3) L (v.toList ++ st) ty' sz' h' Q)) : zX D M (d + 1) k n pc L (a1 :: a0 :: st) ty sz h Q :=
  x_k0 (x_invS0 (As := [a0, a1]) hd hlk hM (Nat.le_of_ble_eq_true hst) (Nat.le_of_ble_eq_true hla) hb (fun v ty' sz' h' q => q))
theorem x_callI2 {idx : Nat} {r : Int} {a0 a1 : zV} (k' n' : Nat) (hd : decode M.2.1 pc = .ok (.invokespecial idx, 3)) (hlk : zLK M idx M') (hM : zMI M' 2) (hr : 0 ≤ r) (hst : Nat.ble (zsum st) 8 = true) (hla : Nat.ble (zsum (rV r :: [a0, a1])) M'.2.2.1 = true) (hb : zXM D M' d k' n' (rV r :: [a0, a1]) ty sz h (fun v ty' sz' h' => zX D M (d + 1) k n (pc + 3) L (v.toList ++ st) ty' sz' h' Q)) : zX D M (d + 1) (k + k') (n + n') pc L (a1 :: a0 :: rV r :: st) ty sz h Q :=
  x_invI0 (As := [a0, a1]) hd hlk hM hr (Nat.le_of_ble_eq_true hst) (Nat.le_of_ble_eq_true hla) hb (fun v ty' sz' h' q => q)
theorem x_callV3 {idx ci N : Nat} {fz : zF} {r : Int} {a0 a1 a2 : zV} (hd : decode M.2.1 pc = .ok (.invokevirtual idx, 3)) (hlk : zLK M idx M') (hM : zMV M' 3) (hr : ty r = some (ci, N, fz)) (hc : (zC[ci]?).map (fun q => q.1) = some M'.1.cls) (hst : Nat.ble (zsum st) 8 = true) (hla : Nat.ble (zsum (rV r :: [a0, a1, a2])) M'.2.2.1 = true) (hb : zXM D M' d 0 0 (rV r :: [a0, a1, a2]) ty sz h (fun v ty' sz' h' => zX D M (d + 1) k n (pc + 3) L (v.toList ++ st) ty' sz' h' Q)) : zX D M (d + 1) k n pc L (a2 :: a1 :: a0 :: rV r :: st) ty sz h Q := by
  obtain ⟨q, h8, hq, hn⟩ := zC_lt hc
  exact x_k0 (x_invV0 (As := [a0, a1, a2]) hd hlk hM ⟨ci, N, fz, q, hr, h8, hq, hn⟩ (Nat.le_of_ble_eq_true hst) (Nat.le_of_ble_eq_true hla) hb (fun v ty' sz' h' q => q))
theorem x_callS3 {idx : Nat} {a0 a1 a2 : zV} (hd : decode M.2.1 pc = .ok (.invokestatic idx, 3)) (hlk : zLK M idx M') (hM : zMS M' 3) (hst : Nat.ble (zsum st) 8 = true) (hla : Nat.ble (zsum [a0, a1, a2]) M'.2.2.1 = true) (hb : zXM D M' d 0 0 [a0, a1, a2] ty sz h (fun v ty' sz' h' => zX D M (d + 1) k n (pc + 3) L (v.toList ++ st) ty' sz' h' Q)) : zX D M (d + 1) k n pc L (a2 :: a1 :: a0 :: st) ty sz h Q :=
  x_k0 (x_invS0 (As := [a0, a1, a2]) hd hlk hM (Nat.le_of_ble_eq_true hst) (Nat.le_of_ble_eq_true hla) hb (fun v ty' sz' h' q => q))
theorem x_callI3 {idx : Nat} {r : Int} {a0 a1 a2 : zV} (k' n' : Nat) (hd : decode M.2.1 pc = .ok (.invokespecial idx, 3)) (hlk : zLK M idx M') (hM : zMI M' 3) (hr : 0 ≤ r) (hst : Nat.ble (zsum st) 8 = true) (hla : Nat.ble (zsum (rV r :: [a0, a1, a2])) M'.2.2.1 = true) (hb : zXM D M' d k' n' (rV r :: [a0, a1, a2]) ty sz h (fun v ty' sz' h' => zX D M (d + 1) k n (pc + 3) L (v.toList ++ st) ty' sz' h' Q)) : zX D M (d + 1) (k + k') (n + n') pc L (a2 :: a1 :: a0 :: rV r :: st) ty sz h Q :=
  x_invI0 (As := [a0, a1, a2]) hd hlk hM hr (Nat.le_of_ble_eq_true hst) (Nat.le_of_ble_eq_true hla) hb (fun v ty' sz' h' q => q)
theorem x_callV4 {idx ci N : Nat} {fz : zF} {r : Int} {a0 a1 a2 a3 : zV} (hd : decode M.2.1 pc = .ok (.invokevirtual idx, 3)) (hlk : zLK M idx M') (hM : zMV M' 4) (hr : ty r = some (ci, N, fz)) (hc : (zC[ci]?).map (fun q => q.1) = some M'.1.cls) (hst : Nat.ble (zsum st) 8 = true) (hla : Nat.ble (zsum (rV r :: [a0, a1, a2, a3])) M'.2.2.1 = true) (hb : zXM D M' d 0 0 (rV r :: [a0, a1, a2, a3]) ty sz h (fun v ty' sz' h' => zX D M (d + 1) k n (pc + 3) L (v.toList ++ st) ty' sz' h' Q)) : zX D M (d + 1) k n pc L (a3 :: a2 :: a1 :: a0 :: rV r :: st) ty sz h Q := by
  obtain ⟨q, h8, hq, hn⟩ := zC_lt hc
  exact x_k0 (x_invV0 (As := [a0, a1, a2, a3]) hd hlk hM ⟨ci, N, fz, q, hr, h8, hq, hn⟩ (Nat.le_of_ble_eq_true hst) (Nat.le_of_ble_eq_true hla) hb (fun v ty' sz' h' q => q))
theorem x_callS4 {idx : Nat} {a0 a1 a2 a3 : zV} (hd : decode M.2.1 pc = .ok (.invokestatic idx, 3)) (hlk : zLK M idx M') (hM : zMS M' 4) (hst : Nat.ble (zsum st) 8 = true) (hla : Nat.ble (zsum [a0, a1, a2, a3]) M'.2.2.1 = true) (hb : zXM D M' d 0 0 [a0, a1, a2, a3] ty sz h (fun v ty' sz' h' => zX D M (d + 1) k n (pc + 3) L (v.toList ++ st) ty' sz' h' Q)) : zX D M (d + 1) k n pc L (a3 :: a2 :: a1 :: a0 :: st) ty sz h Q :=
  x_k0 (x_invS0 (As := [a0, a1, a2, a3]) hd hlk hM (Nat.le_of_ble_eq_true hst) (Nat.le_of_ble_eq_true hla) hb (fun v ty' sz' h' q => q))
theorem x_callI4 {idx : Nat} {r : Int} {a0 a1 a2 a3 : zV} (k' n' : Nat) (hd : decode M.2.1 pc = .ok (.invokespecial idx, 3)) (hlk : zLK M idx M') (hM : zMI M' 4) (hr : 0 ≤ r) (hst : Nat.ble (zsum st) 8 = true) (hla : Nat.ble (zsum (rV r :: [a0, a1, a2, a3])) M'.2.2.1 = true) (hb : zXM D M' d k' n' (rV r :: [a0, a1, a2, a3]) ty sz h (fun v ty' sz' h' => zX D M (d + 1) k n (pc + 3) L (v.toList ++ st) ty' sz' h' Q)) : zX D M (d + 1) (k + k') (n + n') pc L (a3 :: a2 :: a1 :: a0 :: rV r :: st) ty sz h Q :=
  x_invI0 (As := [a0, a1, a2, a3]) hd hlk hM hr (Nat.le_of_ble_eq_true hst) (Nat.le_of_ble_eq_true hla) hb (fun v ty' sz' h' q => q)
theorem x_callV5 {idx ci N : Nat} {fz : zF} {r : Int} {a0 a1 a2 a3 a4 : zV} (hd : decode M.2.1 pc = .ok (.invokevirtual idx, 3)) (hlk : zLK M idx M') (hM : zMV M' 5) (hr : ty r = some (ci, N, fz)) (hc : (zC[ci]?).map (fun q => q.1) = some M'.1.cls) (hst : Nat.ble (zsum st) 8 = true) (hla : Nat.ble (zsum (rV r :: [a0, a1, a2, a3, a4])) M'.2.2.1 = true) (hb : zXM D M' d 0 0 (rV r :: [a0, a1, a2, a3, a4]) ty sz h (fun v ty' sz' h' => zX D M (d + 1) k n (pc + 3) L (v.toList ++ st) ty' sz' h' Q)) : zX D M (d + 1) k n pc L (a4 :: a3 :: a2 :: a1 :: a0 :: rV r :: st) ty sz h Q := by
  obtain ⟨q, h8, hq, hn⟩ := zC_lt hc
  exact x_k0 (x_invV0 (As := [a0, a1, a2, a3, a4]) hd hlk hM ⟨ci, N, fz, q, hr, h8, hq, hn⟩ (Nat.le_of_ble_eq_true hst) (Nat.le_of_ble_eq_true hla) hb (fun v ty' sz' h' q => q))
theorem x_callS5 {idx : Nat} {a0 a1 a2 a3 a4 : zV} (hd : decode M.2.1 pc = .ok (.invokestatic idx, 3)) (hlk : zLK M idx M') (hM : zMS M' 5) (hst : Nat.ble (zsum st) 8 = true) (hla : Nat.ble (zsum [a0, a1, a2, a3, a4]) M'.2.2.1 = true) (hb : zXM D M' d 0 0 [a0, a1, a2, a3, a4] ty sz h (fun v ty' sz' h' => zX D M (d + 1) k n (pc + 3) L (v.toList ++ st) ty' sz' h' Q)) : zX D M (d + 1) k n pc L (a4 :: a3 :: a2 :: a1 :: a0 :: st) ty sz h Q :=
  x_k0 (x_invS0 (As := [a0, a1, a2, a3, a4]) hd hlk hM (Nat.le_of_ble_eq_true hst) (Nat.le_of_ble_eq_true hla) hb (fun v ty' sz' h' q => q))
theorem x_callI5 {idx : Nat} {r : Int} {a0 a1 a2 a3 a4 : zV} (k' n' : Nat) (hd : decode M.2.1 pc = .ok (.invokespecial idx, 3)) (hlk : zLK M idx M') (hM : zMI M' 5) (hr : 0 ≤ r) (hst : Nat.ble (zsum st) 8 = true) (hla : Nat.ble (zsum (rV r :: [a0, a1, a2, a3, a4])) M'.2.2.1 = true) (hb : zXM D M' d k' n' (rV r :: [a0, a1, a2, a3, a4]) ty sz h (fun v ty' sz' h' => zX D M (d + 1) k n (pc + 3) L (v.toList ++ st) ty' sz' h' Q)) : zX D M (d + 1) (k + k') (n + n') pc L (a4 :: a3 :: a2 :: a1 :: a0 :: rV r :: st) ty sz h Q :=
  x_invI0 (As := [a0, a1, a2, a3, a4]) hd hlk hM hr (Nat.le_of_ble_eq_true hst) (Nat.le_of_ble_eq_true hla) hb (fun v ty' sz' h' q => q)
theorem y_getI (kI : Int) {ci N kf idx : Nat} {fz : zF} {fin : Bool} {r : Int} (hd : decode M.2.1 pc = .ok (.getfield idx, 3)) (hf : zFL M.1.cls idx ci kf 0 fin) (hty : ty r = some (ci, N, fz)) (hkI : (kf : Int) = kI) (kk : i32 (h r kI) → zX D M d k n (pc + 3) L (iV (h r kI) :: st) ty sz h Q) : zX D M d k n pc L (rV r :: st) ty sz h Q := by
  subst hkI
  exact x_getI hd hf hty kk
theorem y_getL (kI : Int) {ci N kf idx : Nat} {fz : zF} {fin : Bool} {r : Int} (hd : decode M.2.1 pc = .ok (.getfield idx, 3)) (hf : zFL M.1.cls idx ci kf 1 fin) (hty : ty r = some (ci, N, fz)) (hkI : (kf : Int) = kI) (kk : i64 (h r kI) → zX D M d k n (pc + 3) L (lV (h r kI) :: st) ty sz h Q) : zX D M d k n pc L (rV r :: st) ty sz h Q := by
  subst hkI
  exact x_getL hd hf hty kk
theorem y_getR (kI : Int) {ci N kf idx : Nat} {fz : zF} {fin : Bool} {r : Int} (hd : decode M.2.1 pc = .ok (.getfield idx, 3)) (hf : zFL M.1.cls idx ci kf 2 fin) (hty : ty r = some (ci, N, fz)) (hkI : (kf : Int) = kI) (kk : zX D M d k n (pc + 3) L (rV (h r kI) :: st) ty sz h Q) : zX D M d k n pc L (rV r :: st) ty sz h Q := by
  subst hkI
  exact x_getR hd hf hty kk
theorem y_putI (kI : Int) {ci N kf idx : Nat} {fz : zF} {r z : Int} (hd : decode M.2.1 pc = .ok (.putfield idx, 3)) (hf : zFL M.1.cls idx ci kf 0 false) (hty : ty r = some (ci, N, fz)) (hi : zty ci kf = .int) (hfz : fz (kf : Int) = none) (hrg : i32 z) (hkI : (kf : Int) = kI) (kk : zX D M d k n (pc + 3) L st ty sz (zup h r kI z) Q) : zX D M d k n pc L (iV z :: rV r :: st) ty sz h Q := by
  subst hkI
  exact x_putI hd hf hty hi hfz hrg kk
theorem y_putZ (kI : Int) {ci N kf idx : Nat} {fz : zF} {r z : Int} (hd : decode M.2.1 pc = .ok (.putfield idx, 3)) (hf : zFL M.1.cls idx ci kf 0 false) (hty : ty r = some (ci, N, fz)) (hi : zty ci kf = .boolean) (hz : z = 0 ∨ z = 1) (hfz : fz (kf : Int) = none) (hkI : (kf : Int) = kI) (kk : zX D M d k n (pc + 3) L st ty sz (zup h r kI z) Q) : zX D M d k n pc L (iV z :: rV r :: st) ty sz h Q := by
  subst hkI
  exact x_putZ hd hf hty hi hz hfz  kk
theorem y_putL (kI : Int) {ci N kf idx : Nat} {fz : zF} {r z : Int} (hd : decode M.2.1 pc = .ok (.putfield idx, 3)) (hf : zFL M.1.cls idx ci kf 1 false) (hty : ty r = some (ci, N, fz)) (hi : zty ci kf = .long) (hfz : fz (kf : Int) = none) (hrg : i64 z) (hkI : (kf : Int) = kI) (kk : zX D M d k n (pc + 3) L st ty sz (zup h r kI z) Q) : zX D M d k n pc L (lV z :: rV r :: st) ty sz h Q := by
  subst hkI
  exact x_putL hd hf hty hi hfz hrg kk
theorem y_putR (kI : Int) {ci N kf idx : Nat} {fz : zF} {r z : Int} {C : String} (hd : decode M.2.1 pc = .ok (.putfield idx, 3)) (hf : zFL M.1.cls idx ci kf 2 false) (hty : ty r = some (ci, N, fz)) (hi : zty ci kf = .object C) (hfz : fz (kf : Int) = none) (hkI : (kf : Int) = kI) (kk : zX D M d k n (pc + 3) L st ty sz (zup h r kI z) Q) : zX D M d k n pc L (rV z :: rV r :: st) ty sz h Q := by
  subst hkI
  exact x_putR hd hf hty hi hfz  kk
theorem y_putIF (kI : Int) {ci N kf idx : Nat} {fz : zF} {r z : Int} (hd : decode M.2.1 pc = .ok (.putfield idx, 3)) (hf : zFL M.1.cls idx ci kf 0 true) (hty : ty r = some (ci, N, fz)) (hi : zty ci kf = .int) (hn : M.1.name = "<init>" ∧ (zC[ci]?).map (fun q => q.1) = some M.1.cls) (hfz : fz (kf : Int) = none) (hrg : i32 z) (hkI : (kf : Int) = kI) (kk : zX D M d k n (pc + 3) L st ty sz (zup h r kI z) Q) : zX D M d k n pc L (iV z :: rV r :: st) ty sz h Q := by
  subst hkI
  exact x_putIF hd hf hty hi hn hfz hrg kk
theorem y_putRF (kI : Int) {ci N kf idx : Nat} {fz : zF} {r z : Int} (hd : decode M.2.1 pc = .ok (.putfield idx, 3)) (hf : zFL M.1.cls idx ci kf 2 true) (hty : ty r = some (ci, N, fz)) (hi : (∃ C, zty ci kf = .object C) ∨ ∃ C, zty ci kf = .array C) (hn : M.1.name = "<init>" ∧ (zC[ci]?).map (fun q => q.1) = some M.1.cls) (hfz : fz (kf : Int) = none) (hkI : (kf : Int) = kI) (kk : zX D M d k n (pc + 3) L st ty sz (zup h r kI z) Q) : zX D M d k n pc L (rV z :: rV r :: st) ty sz h Q := by
  subst hkI
  exact x_putRF hd hf hty hi hn hfz  kk

theorem x_tswIn {a dflt lo hi off : Int} {offs : Array Int} {len : Nat} (tgt : Nat) (hd : decode M.2.1 pc = .ok (.tableswitch dflt lo hi offs, len)) (h1 : lo ≤ w32 a) (h2 : w32 a ≤ hi) (ho : offs[(w32 a - lo).toNat]? = some off) (ht : (pc : Int) + off = (tgt : Int)) (kk : zX D M d k n tgt L st ty sz h Q) : zX D M d k n pc L (iV a :: st) ty sz h Q := by
  intro p l e R s m args below meth c H locs ls cells slots mc ms A H0 G S Y hret
  have K := kk p l e R s m args below meth c H locs ls cells slots mc ms A H0 G S Y hret
  exact lv_tableIn (x := Int32.ofInt a) S.1 S.2.1 hd (by show ¬ w32 a < lo; omega) (by show ¬ hi < w32 a; omega) ho ht K
theorem x_tswOut {a dflt lo hi : Int} {offs : Array Int} {len : Nat} (tgt : Nat) (hd : decode M.2.1 pc = .ok (.tableswitch dflt lo hi offs, len)) (h1 : w32 a < lo ∨ hi < w32 a) (ht : (pc : Int) + dflt = (tgt : Int)) (kk : zX D M d k n tgt L st ty sz h Q) : zX D M d k n pc L (iV a :: st) ty sz h Q := by
  intro p l e R s m args below meth c H locs ls cells slots mc ms A H0 G S Y hret
  have K := kk p l e R s m args below meth c H locs ls cells slots mc ms A H0 G S Y hret
  exact lv_tableOut (x := Int32.ofInt a) S.1 S.2.1 hd h1 ht K
theorem x_lsw {a dflt off : Int} {ps : Array (Int × Int)} {len : Nat} (tgt : Nat) (hd : decode M.2.1 pc = .ok (.lookupswitch dflt ps, len)) (hp : (ps.toList.zip (ps.toList.drop 1)).all (fun (a, next) => a.1 < next.1) = true) (ho : Op.lookupswitch.offset ps.toList dflt (w32 a) = off) (ht : (pc : Int) + off = (tgt : Int)) (kk : zX D M d k n tgt L st ty sz h Q) : zX D M d k n pc L (iV a :: st) ty sz h Q := by
  intro p l e R s m args below meth c H locs ls cells slots mc ms A H0 G S Y hret
  have K := kk p l e R s m args below meth c H locs ls cells slots mc ms A H0 G S Y hret
  exact lv_lookup (x := Int32.ofInt a) S.1 S.2.1 hd hp ho ht K

theorem zup_app (h : zH) (a k v a' k' : Int) : zup h a k v a' k' = if a' = a ∧ k' = k then v else h a' k' := rfl
theorem zrow_app (h : zH) (a : Int) (f : Int → Int) (a' k' : Int) : zrow h a f a' k' = if a' = a then f k' else h a' k' := rfl
theorem znew_app (ty : zT) (a : Int) (k n : Nat) (a' : Int) : znew ty a k n a' = if a' = a then some (k, n, zn) else ty a' := rfl
theorem zo1 (a c d : Int) : (a + c = a + d) = (c = d) := by simp
theorem zo2 (a c : Int) : (a + c = a) = (c = 0) := propext ⟨by omega, by omega⟩
theorem zo3 (a c : Int) : (a = a + c) = (c = 0) := propext ⟨by omega, by omega⟩
/-- Math.max of two longs -/
theorem x_max {idx : Nat} {a b : Int} {own : String} (hM : M.1.cls = own) (hd : decode M.2.1 pc = .ok (.invokestatic idx, 3)) (hlk : Cond.methodLink own idx yJ9_max_f86c9 ∈ zTB) (hst : Nat.ble (zsum st) 8 = true) (kk : zX D M (d + 1) k n (pc + 3) L (lV (if w64 b < w64 a then a else b) :: st) ty sz h Q) : zX D M (d + 1) k n pc L (lV b :: lV a :: st) ty sz h Q := by
  intro p l e R s m args below meth c H locs ls cells slots mc ms A H0 G S Y hret
  have K := kk p l e R s m args below meth c H locs ls cells slots mc ms A H0 G S Y hret
  have hts := S.2.2.2.2.2.1
  have hdd : d + 1 ≤ R.frames := S.2.2.2.2.2.2.2.2.2.2.1
  have hdl : 60 * (d + 1) ≤ R.locals := S.2.2.2.2.2.2.2.2.2.2.2.1
  have hcc : mc ≤ R.cells := S.2.2.2.2.2.2.2.2.2.2.2.2.1
  have hcs : ms ≤ R.slots := S.2.2.2.2.2.2.2.2.2.2.2.2.2.1
  subst hM
  refine va_mmax_long (x := Int64.ofInt a) (y := Int64.ofInt b) S.1 S.2.1 (by rw [S.2.2.2.1]; exact Y.2.1.1.symm) S.2.2.2.2.1 (hts _ hlk) (hts _ tstat_J9_max_f86c9) (hts _ tini_RJ9) (hts _ tcode_J9_max_f86c9) (by omega) (by have := Nat.le_of_ble_eq_true hst; rw [z_sumc]; omega) (by have := Y.2.2.1; omega) (by have := Y.2.2.2; omega) hd ?_
  have e : Value.long (if Int64.ofInt b < Int64.ofInt a then Int64.ofInt a else Int64.ofInt b) = zcv (lV (if w64 b < w64 a then a else b)) := by
    by_cases hc : w64 b < w64 a
    · rw [if_pos ((z_ltL b a).mpr hc), if_pos hc]; rfl
    · rw [if_neg (fun q => hc ((z_ltL b a).mp q)), if_neg hc]; rfl
  rw [e]
  exact K
end ZD
