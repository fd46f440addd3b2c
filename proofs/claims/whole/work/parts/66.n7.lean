section NA7
theorem krPR_w {k : Int} {kr : List Row} (hB : ∀ r ∈ kr, rowB r) : wS (krPR k kr) = wR (75, k, -1, -1) + kW kr := by
  have hK := vH_K kr I0
  have e1 : (vH kr I0 0 1).toNat = nL 83 kr := by rw [hK.2.1]; omega
  have e3 : vH kr I0 3 = fun z => lk 90 z kr := by funext z; simp [vH]
  have e4 : vH kr I0 4 = fun z => lk 88 z kr := by funext z; simp [vH]
  have e5 : vH kr I0 5 = fun z => (exM kr z : Int) := by funext z; simp [vH]
  have x5 : gL (exF (fun z => (exM kr z : Int))) 10 = gL (fun s => gL (apF kr s) 10) 10 := gL_cong 10 (fun s _ => gL_cong 10 (fun t ht => apF_eq hB s t ht))
  have l1 : lmF1 (vH kr I0 0) = liL 68 kr := by simp [lmF1, liL, vH, nms]
  have l2 : lmF2 (vH kr I0 0) = liL 77 kr := by simp [lmF2, liL, vH, nms]
  have l3 : lmF3 (vH kr I0 0) = liL 70 kr := by simp [lmF3, liL, vH, nms]
  have l4 : lmF4 (vH kr I0 0) = liL 82 kr := by simp [lmF4, liL, vH, nms]
  have h : krPR k kr = [(75, k, -1, -1)] ++ (gL (stF (vH kr I0 1) (vH kr I0 2)) (vH kr I0 0 1).toNat ++ (gL (nmF (vH kr I0 3) 90) 10 ++ (gL (nmF (vH kr I0 4) 88) 10 ++ (gL (exF (vH kr I0 5)) 10 ++ (lmF1 (vH kr I0 0) ++ (lmF2 (vH kr I0 0) ++ (lmF3 (vH kr I0 0) ++ lmF4 (vH kr I0 0)))))))) := rfl
  rw [h, e1, stL_eq, e3, e4, e5, x5, l1, l2, l3, l4]
  simp only [wS_app, wS_1]
  unfold kW nmW exW
  omega
end NA7
